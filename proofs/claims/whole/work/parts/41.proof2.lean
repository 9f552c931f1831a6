/-! A Proof: exchange, byteAt, isSpare -/
def pf_ex (C : Nat → Nat × List Nat) (x y i : Nat) : Nat → Nat × List Nat := fun j => if j < i then ((C j).1, (C j).2.map (sp_ex x y)) else C j
def pf_exn (C : Nat → Nat × List Nat) (x y : Nat) : Nat → Nat
  | 0 => 0
  | i + 1 => pf_exn C x y i + sp_exn x y (C i).2
def pf_tl (C : Nat → Nat × List Nat) : Nat → Nat → List Nat
  | _, 0 => []
  | i, d + 1 => sp_line (C i) ++ pf_tl C (i + 1) d
theorem sp_line_le {l : Nat × List Nat} (h : ln_ok l.2) : (sp_line l).length ≤ 514 := by
  have h1 := sp_line_len l.1 l.2 h.2
  have h2 := ln_len h
  have h3 := len_parity l.2
  have h4 : l.2.countP (fun c => decide (c % 2 = 1) && decide (9 ≤ c / 2)) ≤ l.2.countP (fun c => decide (c % 2 = 1)) := List.countP_mono_left (fun c _ hc => by simp at hc ⊢; exact hc.1)
  have h5 : l.2.countP (fun c => decide (c % 2 = 0) && decide (9 ≤ c / 2)) ≤ l.2.countP (fun c => decide (c % 2 = 0)) := List.countP_mono_left (fun c _ hc => by simp at hc ⊢; exact hc.1)
  have h6 : (sp_line l).length = (sp_line (l.1, l.2)).length := rfl
  omega
section P2
variable {hp : mj_H} {Q : mj_Q} {P n k : Nat} {ρ : Nat → Option Nat} {g : Nat → Int32} {π : Nat → Nat} {C : Nat → Nat × List Nat}
theorem c_pExchange (hr : pf_r hp P n k ρ g) (hk : k ≤ 80) (hpk : pf_k hp P ρ π C) {x y : Nat} (hx : x < 64) (hy : y < 64) (hQ : ∀ hp' : mj_H, pf_r hp' P n k ρ g → pf_k hp' P ρ π (pf_ex C x y k) → sm hp hp' P (P + 163) → Q (some (.int (nI (pf_exn C x y k)))) hp') : mj_call 56 [.ref P, .int (nI x), .int (nI y)] hp Q := by
  have key : ∀ (d i : Nat) (hp1 : mj_H), i + d = k → pf_r hp1 P n k ρ g → pf_k hp1 P ρ π (pf_ex C x y i) → sm hp hp1 P (P + 163) → mj_wp 56 5 [some (.ref P), some (.int (nI x)), some (.int (nI y)), some (.int (nI (pf_exn C x y i))), some (.int (nI i))] [] hp1 Q := by
    intro d
    induction d with
    | zero =>
      intro i hp1 hi hr1 hk1 hs
      obtain rfl : i = k := by omega
      have e1 : nI i ≤ nI i := nI_le (Nat.le_refl _) (by omega)
      rw [x_56_5]
      simp only [x_56_7, x_56_8, x_56_11, x_56_14, x_56_15, x_56_16, x_56_19, x_56_21, x_56_22, x_56_23, x_56_24, x_56_27, x_56_28, x_56_29, x_56_32, x_56_35, x_56_36, mw_nx, mw_no, mw_ite, mw_call, mw_ret, mw_cst, mw_ii, mw_i1, mw_ll, mw_l1, mw_li, mw_i2l, mw_l2i, mw_lcm, mw_if, mw_ic, mw_ifnN, mw_ifnR, mw_go, mw_dupi, mw_dupr, mw_popi, mw_popr, mw_nw, mw_rti, mw_rtl, mw_rtr, mw_rtn, mw_rtv, mw_rt0, mw_rt1, mj_ild, mj_lld, mj_ald, mj_ist, mj_lst, mj_ast, mj_inc, mj_iz, mj_get, mj_put, mj_len, mj_iar, mj_aar, mj_iaw, mj_aaw, mj_ivs, mj_ivv, mj_ivi, mj_ob, mj_tk, mj_cat, mj_st1, mj_st2, mj_clr, mj_nwi, mj_nwq, List.getElem?_cons_zero, List.getElem?_cons_succ, List.length_cons, List.length_nil, List.set_cons_zero, List.set_cons_succ, Value.category, decide_eq_true_eq, List.map_cons, List.map_nil, List.sum_cons, List.sum_nil, Option.toList, List.cons_append, List.nil_append, ite_true, ite_false, if_true, if_false, reduceCtorEq, true_and, and_true, narrow_i, narrow_l, narrow_r, narrow_n, fits_i, fits_l, fits_ro, fits_ra, fits_no, fits_na, Nat.reduceAdd, Nat.reduceLT, Nat.reduceLeDiff, Nat.reduceEqDiff, Nat.reduceSub, zero_add0, true_or, or_true, false_or, or_false, not_true_eq_false, not_false_eq_true, eq_self, i10, i01, im0, im1, hr1.1, e1]
      exact hQ hp1 hr1 hk1 hs
    | succ d ih =>
      intro i hp1 hi hr1 hk1 hs
      obtain ⟨p1, p2, p3⟩ := hk1.1 i (by omega)
      have hci : pf_ex C x y i i = C i := by simp [pf_ex]
      rw [hci] at p3
      have p4 := p3
      obtain ⟨f, t, u, b1, -⟩ := p4
      have e1 : ¬ nI k ≤ nI i := nI_ge (by omega) (by omega)
      have z0 : ¬ nI i < 0 := nI_pos (by omega)
      have z1 : (nI i).toNatClampNeg = i := nI_clamp (by omega)
      have z2 : ¬ 80 ≤ i := by omega
      rw [x_56_5]
      simp only [x_56_7, x_56_8, x_56_11, x_56_14, x_56_15, x_56_16, x_56_19, x_56_21, x_56_22, x_56_23, x_56_24, mw_nx, mw_no, mw_ite, mw_call, mw_ret, mw_cst, mw_ii, mw_i1, mw_ll, mw_l1, mw_li, mw_i2l, mw_l2i, mw_lcm, mw_if, mw_ic, mw_ifnN, mw_ifnR, mw_go, mw_dupi, mw_dupr, mw_popi, mw_popr, mw_nw, mw_rti, mw_rtl, mw_rtr, mw_rtn, mw_rtv, mw_rt0, mw_rt1, mj_ild, mj_lld, mj_ald, mj_ist, mj_lst, mj_ast, mj_inc, mj_iz, mj_get, mj_put, mj_len, mj_iar, mj_aar, mj_iaw, mj_aaw, mj_ivs, mj_ivv, mj_ivi, mj_ob, mj_tk, mj_cat, mj_st1, mj_st2, mj_clr, mj_nwi, mj_nwq, List.getElem?_cons_zero, List.getElem?_cons_succ, List.length_cons, List.length_nil, List.set_cons_zero, List.set_cons_succ, Value.category, decide_eq_true_eq, List.map_cons, List.map_nil, List.sum_cons, List.sum_nil, Option.toList, List.cons_append, List.nil_append, ite_true, ite_false, if_true, if_false, reduceCtorEq, true_and, and_true, narrow_i, narrow_l, narrow_r, narrow_n, fits_i, fits_l, fits_ro, fits_ra, fits_no, fits_na, Nat.reduceAdd, Nat.reduceLT, Nat.reduceLeDiff, Nat.reduceEqDiff, Nat.reduceSub, zero_add0, true_or, or_true, false_or, or_false, not_true_eq_false, not_false_eq_true, eq_self, i10, i01, im0, im1, hr1.1, hr1.2.1, e1, at_2, z0, z1, z2, p2, rf_some, b1]
      refine c_exchange (s := (C i).1) (cs := (C i).2) p3 hx hy (fun hp2 h2 hs2 => ?_)
      simp only [x_56_27, x_56_28, x_56_29, x_56_32, mw_nx, mw_no, mw_ite, mw_call, mw_ret, mw_cst, mw_ii, mw_i1, mw_ll, mw_l1, mw_li, mw_i2l, mw_l2i, mw_lcm, mw_if, mw_ic, mw_ifnN, mw_ifnR, mw_go, mw_dupi, mw_dupr, mw_popi, mw_popr, mw_nw, mw_rti, mw_rtl, mw_rtr, mw_rtn, mw_rtv, mw_rt0, mw_rt1, mj_ild, mj_lld, mj_ald, mj_ist, mj_lst, mj_ast, mj_inc, mj_iz, mj_get, mj_put, mj_len, mj_iar, mj_aar, mj_iaw, mj_aaw, mj_ivs, mj_ivv, mj_ivi, mj_ob, mj_tk, mj_cat, mj_st1, mj_st2, mj_clr, mj_nwi, mj_nwq, List.getElem?_cons_zero, List.getElem?_cons_succ, List.length_cons, List.length_nil, List.set_cons_zero, List.set_cons_succ, Value.category, decide_eq_true_eq, List.map_cons, List.map_nil, List.sum_cons, List.sum_nil, Option.toList, List.cons_append, List.nil_append, ite_true, ite_false, if_true, if_false, reduceCtorEq, true_and, and_true, narrow_i, narrow_l, narrow_r, narrow_n, fits_i, fits_l, fits_ro, fits_ra, fits_no, fits_na, Nat.reduceAdd, Nat.reduceLT, Nat.reduceLeDiff, Nat.reduceEqDiff, Nat.reduceSub, zero_add0, true_or, or_true, false_or, or_false, not_true_eq_false, not_false_eq_true, eq_self, i10, i01, im0, im1, nI_add, nI_1]
      obtain ⟨r2, k2⟩ := pf_set hr1 hk1 (show i < 80 by omega) h2 hs2
      have e5 : va_up (pf_ex C x y i) i ((C i).1, (C i).2.map (sp_ex x y)) = pf_ex C x y (i + 1) := by
        funext j
        by_cases hj : j = i
        · subst hj
          rw [va_up_self]
          simp [pf_ex]
        · rw [va_up_ne _ _ hj]
          unfold pf_ex
          by_cases hj2 : j < i
          · rw [if_pos hj2, if_pos (by omega)]
          · rw [if_neg hj2, if_neg (by omega)]
      rw [e5] at k2
      exact ih (i + 1) hp2 (by omega) r2 k2 (hs.tr (hs2.mono (by omega) (by omega)))
  rw [en_56]
  simp only [x_56_0, x_56_1, x_56_2, x_56_3, mw_nx, mw_no, mw_ite, mw_call, mw_ret, mw_cst, mw_ii, mw_i1, mw_ll, mw_l1, mw_li, mw_i2l, mw_l2i, mw_lcm, mw_if, mw_ic, mw_ifnN, mw_ifnR, mw_go, mw_dupi, mw_dupr, mw_popi, mw_popr, mw_nw, mw_rti, mw_rtl, mw_rtr, mw_rtn, mw_rtv, mw_rt0, mw_rt1, mj_ild, mj_lld, mj_ald, mj_ist, mj_lst, mj_ast, mj_inc, mj_iz, mj_get, mj_put, mj_len, mj_iar, mj_aar, mj_iaw, mj_aaw, mj_ivs, mj_ivv, mj_ivi, mj_ob, mj_tk, mj_cat, mj_st1, mj_st2, mj_clr, mj_nwi, mj_nwq, List.getElem?_cons_zero, List.getElem?_cons_succ, List.length_cons, List.length_nil, List.set_cons_zero, List.set_cons_succ, Value.category, decide_eq_true_eq, List.map_cons, List.map_nil, List.sum_cons, List.sum_nil, Option.toList, List.cons_append, List.nil_append, ite_true, ite_false, if_true, if_false, reduceCtorEq, true_and, and_true, narrow_i, narrow_l, narrow_r, narrow_n, fits_i, fits_l, fits_ro, fits_ra, fits_no, fits_na, Nat.reduceAdd, Nat.reduceLT, Nat.reduceLeDiff, Nat.reduceEqDiff, Nat.reduceSub, zero_add0, true_or, or_true, false_or, or_false, not_true_eq_false, not_false_eq_true, eq_self, i10, i01, im0, im1]
  have e0 : pf_ex C x y 0 = C := by funext j; simp [pf_ex]
  exact key k 0 hp (by omega) hr (by rw [e0]; exact hpk) sm.rf
theorem c_pByteI (hr : pf_r hp P n k ρ g) (hk : k ≤ 80) (hpk : pf_k hp P ρ π C) {x : Nat} (hx : x < 2 ^ 31) (hq0 : Q (some (.int (if x < (pf_tl C 0 k).length then nI ((pf_tl C 0 k).getD x 0) else -1))) hp) : mj_call 57 [.ref P, .int (nI x)] hp Q := by
  have key : ∀ (d i r : Nat) (o4 : Option Value), i + d = k → r < 2 ^ 31 → Q (some (.int (if r < (pf_tl C i d).length then nI ((pf_tl C i d).getD r 0) else -1))) hp → mj_wp 57 4 [some (.ref P), some (.int (nI x)), some (.int (nI r)), some (.int (nI i)), o4] [] hp Q := by
    intro d
    induction d with
    | zero =>
      intro i r o4 hi hr2 hq
      obtain rfl : i = k := by omega
      have e1 : nI i ≤ nI i := nI_le (Nat.le_refl _) (by omega)
      rw [x_57_4]
      simp only [x_57_5, x_57_6, x_57_9, x_57_12, x_57_13, x_57_16, x_57_17, x_57_18, x_57_21, x_57_23, x_57_24, x_57_26, x_57_29, x_57_30, x_57_33, x_57_34, x_57_35, x_57_36, x_57_39, x_57_40, x_57_41, x_57_43, x_57_44, x_57_45, x_57_48, x_57_51, x_57_52, mw_nx, mw_no, mw_ite, mw_call, mw_ret, mw_cst, mw_ii, mw_i1, mw_ll, mw_l1, mw_li, mw_i2l, mw_l2i, mw_lcm, mw_if, mw_ic, mw_ifnN, mw_ifnR, mw_go, mw_dupi, mw_dupr, mw_popi, mw_popr, mw_nw, mw_rti, mw_rtl, mw_rtr, mw_rtn, mw_rtv, mw_rt0, mw_rt1, mj_ild, mj_lld, mj_ald, mj_ist, mj_lst, mj_ast, mj_inc, mj_iz, mj_get, mj_put, mj_len, mj_iar, mj_aar, mj_iaw, mj_aaw, mj_ivs, mj_ivv, mj_ivi, mj_ob, mj_tk, mj_cat, mj_st1, mj_st2, mj_clr, mj_nwi, mj_nwq, List.getElem?_cons_zero, List.getElem?_cons_succ, List.length_cons, List.length_nil, List.set_cons_zero, List.set_cons_succ, Value.category, decide_eq_true_eq, List.map_cons, List.map_nil, List.sum_cons, List.sum_nil, Option.toList, List.cons_append, List.nil_append, ite_true, ite_false, if_true, if_false, reduceCtorEq, true_and, and_true, narrow_i, narrow_l, narrow_r, narrow_n, fits_i, fits_l, fits_ro, fits_ra, fits_no, fits_na, Nat.reduceAdd, Nat.reduceLT, Nat.reduceLeDiff, Nat.reduceEqDiff, Nat.reduceSub, zero_add0, true_or, or_true, false_or, or_false, not_true_eq_false, not_false_eq_true, eq_self, i10, i01, im0, im1, hr.1, e1]
      simpa [pf_tl] using hq
    | succ d ih =>
      intro i r o4 hi hr2 hq
      obtain ⟨p1, p2, p3⟩ := hpk.1 i (by omega)
      have p4 := p3
      obtain ⟨f, t, u, b1, b2, hv, hok, -⟩ := p4
      have hle := sp_line_le hok
      have e1 : ¬ nI k ≤ nI i := nI_ge (by omega) (by omega)
      have z0 : ¬ nI i < 0 := nI_pos (by omega)
      have z1 : (nI i).toNatClampNeg = i := nI_clamp (by omega)
      have z2 : ¬ 80 ≤ i := by omega
      have e2 : (nI (sp_line (C i)).length ≤ nI r) = ((sp_line (C i)).length ≤ r) := propext (nI_leI (by omega) hr2)
      rw [pf_tl, List.length_append] at hq
      rw [x_57_4]
      by_cases hrl : (sp_line (C i)).length ≤ r
      · have q1 := eq_true hrl
        simp only [x_57_5, x_57_6, x_57_9, x_57_12, x_57_13, x_57_16, x_57_17, x_57_18, x_57_21, x_57_23, x_57_24, x_57_26, x_57_29, x_57_30, x_57_33, x_57_34, x_57_35, x_57_36, x_57_39, x_57_40, x_57_41, x_57_43, x_57_44, x_57_45, x_57_48, mw_nx, mw_no, mw_ite, mw_call, mw_ret, mw_cst, mw_ii, mw_i1, mw_ll, mw_l1, mw_li, mw_i2l, mw_l2i, mw_lcm, mw_if, mw_ic, mw_ifnN, mw_ifnR, mw_go, mw_dupi, mw_dupr, mw_popi, mw_popr, mw_nw, mw_rti, mw_rtl, mw_rtr, mw_rtn, mw_rtv, mw_rt0, mw_rt1, mj_ild, mj_lld, mj_ald, mj_ist, mj_lst, mj_ast, mj_inc, mj_iz, mj_get, mj_put, mj_len, mj_iar, mj_aar, mj_iaw, mj_aaw, mj_ivs, mj_ivv, mj_ivi, mj_ob, mj_tk, mj_cat, mj_st1, mj_st2, mj_clr, mj_nwi, mj_nwq, List.getElem?_cons_zero, List.getElem?_cons_succ, List.length_cons, List.length_nil, List.set_cons_zero, List.set_cons_succ, Value.category, decide_eq_true_eq, List.map_cons, List.map_nil, List.sum_cons, List.sum_nil, Option.toList, List.cons_append, List.nil_append, ite_true, ite_false, if_true, if_false, reduceCtorEq, true_and, and_true, narrow_i, narrow_l, narrow_r, narrow_n, fits_i, fits_l, fits_ro, fits_ra, fits_no, fits_na, Nat.reduceAdd, Nat.reduceLT, Nat.reduceLeDiff, Nat.reduceEqDiff, Nat.reduceSub, zero_add0, true_or, or_true, false_or, or_false, not_true_eq_false, not_false_eq_true, eq_self, i10, i01, im0, im1, hr.1, hr.2.1, e1, at_2, z0, z1, z2, p2, rf_some, b1, c_textLength p3, e2, q1, pk_sub hrl, nI_1]
        refine ih (i + 1) (r - (sp_line (C i)).length) _ (by omega) (by omega) ?_
        rw [getD_app_r hrl] at hq
        have e3 : (r < (sp_line (C i)).length + (pf_tl C (i + 1) d).length) = (r - (sp_line (C i)).length < (pf_tl C (i + 1) d).length) := propext (by omega)
        simp only [e3] at hq
        exact hq
      · have q1 := eq_false hrl
        simp only [x_57_5, x_57_6, x_57_9, x_57_12, x_57_13, x_57_16, x_57_17, x_57_18, x_57_21, x_57_23, x_57_24, x_57_26, x_57_29, x_57_30, x_57_33, x_57_34, x_57_35, x_57_36, x_57_39, x_57_40, x_57_41, x_57_43, x_57_44, x_57_45, x_57_48, mw_nx, mw_no, mw_ite, mw_call, mw_ret, mw_cst, mw_ii, mw_i1, mw_ll, mw_l1, mw_li, mw_i2l, mw_l2i, mw_lcm, mw_if, mw_ic, mw_ifnN, mw_ifnR, mw_go, mw_dupi, mw_dupr, mw_popi, mw_popr, mw_nw, mw_rti, mw_rtl, mw_rtr, mw_rtn, mw_rtv, mw_rt0, mw_rt1, mj_ild, mj_lld, mj_ald, mj_ist, mj_lst, mj_ast, mj_inc, mj_iz, mj_get, mj_put, mj_len, mj_iar, mj_aar, mj_iaw, mj_aaw, mj_ivs, mj_ivv, mj_ivi, mj_ob, mj_tk, mj_cat, mj_st1, mj_st2, mj_clr, mj_nwi, mj_nwq, List.getElem?_cons_zero, List.getElem?_cons_succ, List.length_cons, List.length_nil, List.set_cons_zero, List.set_cons_succ, Value.category, decide_eq_true_eq, List.map_cons, List.map_nil, List.sum_cons, List.sum_nil, Option.toList, List.cons_append, List.nil_append, ite_true, ite_false, if_true, if_false, reduceCtorEq, true_and, and_true, narrow_i, narrow_l, narrow_r, narrow_n, fits_i, fits_l, fits_ro, fits_ra, fits_no, fits_na, Nat.reduceAdd, Nat.reduceLT, Nat.reduceLeDiff, Nat.reduceEqDiff, Nat.reduceSub, zero_add0, true_or, or_true, false_or, or_false, not_true_eq_false, not_false_eq_true, eq_self, i10, i01, im0, im1, hr.1, hr.2.1, e1, at_2, z0, z1, z2, p2, rf_some, b1, c_textLength p3, e2, q1, c_lineByte p3 (show r < (sp_line (C i)).length by omega) (by omega)]
        rw [getD_app_l (by omega), if_pos (by omega)] at hq
        exact hq
  rw [en_57]
  simp only [x_57_0, x_57_1, x_57_2, x_57_3, mw_nx, mw_no, mw_ite, mw_call, mw_ret, mw_cst, mw_ii, mw_i1, mw_ll, mw_l1, mw_li, mw_i2l, mw_l2i, mw_lcm, mw_if, mw_ic, mw_ifnN, mw_ifnR, mw_go, mw_dupi, mw_dupr, mw_popi, mw_popr, mw_nw, mw_rti, mw_rtl, mw_rtr, mw_rtn, mw_rtv, mw_rt0, mw_rt1, mj_ild, mj_lld, mj_ald, mj_ist, mj_lst, mj_ast, mj_inc, mj_iz, mj_get, mj_put, mj_len, mj_iar, mj_aar, mj_iaw, mj_aaw, mj_ivs, mj_ivv, mj_ivi, mj_ob, mj_tk, mj_cat, mj_st1, mj_st2, mj_clr, mj_nwi, mj_nwq, List.getElem?_cons_zero, List.getElem?_cons_succ, List.length_cons, List.length_nil, List.set_cons_zero, List.set_cons_succ, Value.category, decide_eq_true_eq, List.map_cons, List.map_nil, List.sum_cons, List.sum_nil, Option.toList, List.cons_append, List.nil_append, ite_true, ite_false, if_true, if_false, reduceCtorEq, true_and, and_true, narrow_i, narrow_l, narrow_r, narrow_n, fits_i, fits_l, fits_ro, fits_ra, fits_no, fits_na, Nat.reduceAdd, Nat.reduceLT, Nat.reduceLeDiff, Nat.reduceEqDiff, Nat.reduceSub, zero_add0, true_or, or_true, false_or, or_false, not_true_eq_false, not_false_eq_true, eq_self, i10, i01, im0, im1]
  exact key k 0 x none (by omega) hx hq0
theorem narrow_z {x : Int32} (h : x = 0 ∨ x = 1) : (narrow .boolean (.int x) = .int x) = True := by
  rcases h with rfl | rfl <;> exact eq_true rfl
theorem c_isSpare (hr : pf_r hp P n k ρ g) (hk : k ≤ 80) (hpk : pf_k hp P ρ π C) {v : Nat} (hv : v < k) (hn : n ≤ 64) (hlv : ∀ j, j < k → lv n (C j)) (hv0 : ¬ (C v).1 = 0) (h1 : (∀ i, v < i → i < k → ¬ g i = 0 → sp_right n (pf_ah C i (nI v)) (C i)) → Q (some (.int 1)) hp) (h0 : ¬ (∀ i, v < i → i < k → ¬ g i = 0 → sp_right n (pf_ah C i (nI v)) (C i)) → Q (some (.int 0)) hp) : mj_call 61 [.ref P, .int (nI v)] hp Q := by
  have key : ∀ (d i : Nat), i + d = k → v < i → (∀ j, v < j → j < i → ¬ g j = 0 → sp_right n (pf_ah C j (nI v)) (C j)) → mj_wp 61 4 [some (.ref P), some (.int (nI v)), some (.int (nI i))] [] hp Q := by
    intro d
    induction d with
    | zero =>
      intro i hi hvi hj
      obtain rfl : i = k := by omega
      have e1 : nI i ≤ nI i := nI_le (Nat.le_refl _) (by omega)
      rw [x_61_4]
      simp only [x_61_5, x_61_6, x_61_9, x_61_12, x_61_13, x_61_16, x_61_17, x_61_18, x_61_21, x_61_22, x_61_23, x_61_24, x_61_27, x_61_30, x_61_31, x_61_32, x_61_35, x_61_38, x_61_39, mw_nx, mw_no, mw_ite, mw_call, mw_ret, mw_cst, mw_ii, mw_i1, mw_ll, mw_l1, mw_li, mw_i2l, mw_l2i, mw_lcm, mw_if, mw_ic, mw_ifnN, mw_ifnR, mw_go, mw_dupi, mw_dupr, mw_popi, mw_popr, mw_nw, mw_rti, mw_rtl, mw_rtr, mw_rtn, mw_rtv, mw_rt0, mw_rt1, mj_ild, mj_lld, mj_ald, mj_ist, mj_lst, mj_ast, mj_inc, mj_iz, mj_get, mj_put, mj_len, mj_iar, mj_aar, mj_iaw, mj_aaw, mj_ivs, mj_ivv, mj_ivi, mj_ob, mj_tk, mj_cat, mj_st1, mj_st2, mj_clr, mj_nwi, mj_nwq, List.getElem?_cons_zero, List.getElem?_cons_succ, List.length_cons, List.length_nil, List.set_cons_zero, List.set_cons_succ, Value.category, decide_eq_true_eq, List.map_cons, List.map_nil, List.sum_cons, List.sum_nil, Option.toList, List.cons_append, List.nil_append, ite_true, ite_false, if_true, if_false, reduceCtorEq, true_and, and_true, narrow_i, narrow_l, narrow_r, narrow_n, fits_i, fits_l, fits_ro, fits_ra, fits_no, fits_na, Nat.reduceAdd, Nat.reduceLT, Nat.reduceLeDiff, Nat.reduceEqDiff, Nat.reduceSub, zero_add0, true_or, or_true, false_or, or_false, not_true_eq_false, not_false_eq_true, eq_self, i10, i01, im0, im1, hr.1, e1]
      exact h1 hj
    | succ d ih =>
      intro i hi hvi hj
      have e1 : ¬ nI k ≤ nI i := nI_ge (by omega) (by omega)
      have z0 : ¬ nI i < 0 := nI_pos (by omega)
      have z1 : (nI i).toNatClampNeg = i := nI_clamp (by omega)
      have z2 : ¬ 80 ≤ i := by omega
      have go : (¬ g i = 0 → sp_right n (pf_ah C i (nI v)) (C i)) → mj_wp 61 4 [some (.ref P), some (.int (nI v)), some (.int (nI (i + 1)))] [] hp Q := by
        intro hgi
        refine ih (i + 1) (by omega) (by omega) (fun j hj1 hj2 hj3 => ?_)
        by_cases hji : j = i
        · subst hji; exact hgi hj3
        · exact hj j hj1 (by omega) hj3
      rw [x_61_4]
      by_cases hg : g i = 0
      · have q1 := eq_true hg
        simp only [x_61_5, x_61_6, x_61_9, x_61_12, x_61_13, x_61_16, x_61_17, x_61_18, x_61_21, x_61_22, x_61_23, x_61_24, x_61_27, x_61_30, x_61_31, x_61_32, x_61_35, mw_nx, mw_no, mw_ite, mw_call, mw_ret, mw_cst, mw_ii, mw_i1, mw_ll, mw_l1, mw_li, mw_i2l, mw_l2i, mw_lcm, mw_if, mw_ic, mw_ifnN, mw_ifnR, mw_go, mw_dupi, mw_dupr, mw_popi, mw_popr, mw_nw, mw_rti, mw_rtl, mw_rtr, mw_rtn, mw_rtv, mw_rt0, mw_rt1, mj_ild, mj_lld, mj_ald, mj_ist, mj_lst, mj_ast, mj_inc, mj_iz, mj_get, mj_put, mj_len, mj_iar, mj_aar, mj_iaw, mj_aaw, mj_ivs, mj_ivv, mj_ivi, mj_ob, mj_tk, mj_cat, mj_st1, mj_st2, mj_clr, mj_nwi, mj_nwq, List.getElem?_cons_zero, List.getElem?_cons_succ, List.length_cons, List.length_nil, List.set_cons_zero, List.set_cons_succ, Value.category, decide_eq_true_eq, List.map_cons, List.map_nil, List.sum_cons, List.sum_nil, Option.toList, List.cons_append, List.nil_append, ite_true, ite_false, if_true, if_false, reduceCtorEq, true_and, and_true, narrow_i, narrow_l, narrow_r, narrow_n, fits_i, fits_l, fits_ro, fits_ra, fits_no, fits_na, Nat.reduceAdd, Nat.reduceLT, Nat.reduceLeDiff, Nat.reduceEqDiff, Nat.reduceSub, zero_add0, true_or, or_true, false_or, or_false, not_true_eq_false, not_false_eq_true, eq_self, i10, i01, im0, im1, hr.1, hr.2.2, e1, at_1, z0, z1, z2, q1, nI_1]
        exact go (fun q => absurd hg q)
      · have q1 := eq_false hg
        simp only [x_61_5, x_61_6, x_61_9, x_61_12, x_61_13, x_61_16, x_61_17, x_61_18, x_61_21, x_61_22, x_61_23, x_61_24, mw_nx, mw_no, mw_ite, mw_call, mw_ret, mw_cst, mw_ii, mw_i1, mw_ll, mw_l1, mw_li, mw_i2l, mw_l2i, mw_lcm, mw_if, mw_ic, mw_ifnN, mw_ifnR, mw_go, mw_dupi, mw_dupr, mw_popi, mw_popr, mw_nw, mw_rti, mw_rtl, mw_rtr, mw_rtn, mw_rtv, mw_rt0, mw_rt1, mj_ild, mj_lld, mj_ald, mj_ist, mj_lst, mj_ast, mj_inc, mj_iz, mj_get, mj_put, mj_len, mj_iar, mj_aar, mj_iaw, mj_aaw, mj_ivs, mj_ivv, mj_ivi, mj_ob, mj_tk, mj_cat, mj_st1, mj_st2, mj_clr, mj_nwi, mj_nwq, List.getElem?_cons_zero, List.getElem?_cons_succ, List.length_cons, List.length_nil, List.set_cons_zero, List.set_cons_succ, Value.category, decide_eq_true_eq, List.map_cons, List.map_nil, List.sum_cons, List.sum_nil, Option.toList, List.cons_append, List.nil_append, ite_true, ite_false, if_true, if_false, reduceCtorEq, true_and, and_true, narrow_i, narrow_l, narrow_r, narrow_n, fits_i, fits_l, fits_ro, fits_ra, fits_no, fits_na, Nat.reduceAdd, Nat.reduceLT, Nat.reduceLeDiff, Nat.reduceEqDiff, Nat.reduceSub, zero_add0, true_or, or_true, false_or, or_false, not_true_eq_false, not_false_eq_true, eq_self, i10, i01, im0, im1, hr.1, hr.2.2, e1, at_1, z0, z1, z2, q1]
        refine c_isRight hr hk hpk (show i < k by omega) hn (hlv i (by omega)) (fun u hu hu2 => ?_) (fun hR => ?_) (fun hR => ?_)
        · have : u = v := (nI_eq (by omega) (by omega)).mp hu2
          rw [this]; exact hv0
        · simp only [x_61_27, x_61_30, x_61_31, x_61_32, x_61_35, mw_nx, mw_no, mw_ite, mw_call, mw_ret, mw_cst, mw_ii, mw_i1, mw_ll, mw_l1, mw_li, mw_i2l, mw_l2i, mw_lcm, mw_if, mw_ic, mw_ifnN, mw_ifnR, mw_go, mw_dupi, mw_dupr, mw_popi, mw_popr, mw_nw, mw_rti, mw_rtl, mw_rtr, mw_rtn, mw_rtv, mw_rt0, mw_rt1, mj_ild, mj_lld, mj_ald, mj_ist, mj_lst, mj_ast, mj_inc, mj_iz, mj_get, mj_put, mj_len, mj_iar, mj_aar, mj_iaw, mj_aaw, mj_ivs, mj_ivv, mj_ivi, mj_ob, mj_tk, mj_cat, mj_st1, mj_st2, mj_clr, mj_nwi, mj_nwq, List.getElem?_cons_zero, List.getElem?_cons_succ, List.length_cons, List.length_nil, List.set_cons_zero, List.set_cons_succ, Value.category, decide_eq_true_eq, List.map_cons, List.map_nil, List.sum_cons, List.sum_nil, Option.toList, List.cons_append, List.nil_append, ite_true, ite_false, if_true, if_false, reduceCtorEq, true_and, and_true, narrow_i, narrow_l, narrow_r, narrow_n, fits_i, fits_l, fits_ro, fits_ra, fits_no, fits_na, Nat.reduceAdd, Nat.reduceLT, Nat.reduceLeDiff, Nat.reduceEqDiff, Nat.reduceSub, zero_add0, true_or, or_true, false_or, or_false, not_true_eq_false, not_false_eq_true, eq_self, i10, i01, im0, im1, nI_1]
          exact go (fun _ => hR)
        · simp only [x_61_27, x_61_30, x_61_31, x_61_32, x_61_35, mw_nx, mw_no, mw_ite, mw_call, mw_ret, mw_cst, mw_ii, mw_i1, mw_ll, mw_l1, mw_li, mw_i2l, mw_l2i, mw_lcm, mw_if, mw_ic, mw_ifnN, mw_ifnR, mw_go, mw_dupi, mw_dupr, mw_popi, mw_popr, mw_nw, mw_rti, mw_rtl, mw_rtr, mw_rtn, mw_rtv, mw_rt0, mw_rt1, mj_ild, mj_lld, mj_ald, mj_ist, mj_lst, mj_ast, mj_inc, mj_iz, mj_get, mj_put, mj_len, mj_iar, mj_aar, mj_iaw, mj_aaw, mj_ivs, mj_ivv, mj_ivi, mj_ob, mj_tk, mj_cat, mj_st1, mj_st2, mj_clr, mj_nwi, mj_nwq, List.getElem?_cons_zero, List.getElem?_cons_succ, List.length_cons, List.length_nil, List.set_cons_zero, List.set_cons_succ, Value.category, decide_eq_true_eq, List.map_cons, List.map_nil, List.sum_cons, List.sum_nil, Option.toList, List.cons_append, List.nil_append, ite_true, ite_false, if_true, if_false, reduceCtorEq, true_and, and_true, narrow_i, narrow_l, narrow_r, narrow_n, fits_i, fits_l, fits_ro, fits_ra, fits_no, fits_na, Nat.reduceAdd, Nat.reduceLT, Nat.reduceLeDiff, Nat.reduceEqDiff, Nat.reduceSub, zero_add0, true_or, or_true, false_or, or_false, not_true_eq_false, not_false_eq_true, eq_self, i10, i01, im0, im1]
          exact h0 (fun q => hR (q i hvi (by omega) hg))
  rw [en_61]
  simp only [x_61_0, x_61_1, x_61_2, x_61_3, mw_nx, mw_no, mw_ite, mw_call, mw_ret, mw_cst, mw_ii, mw_i1, mw_ll, mw_l1, mw_li, mw_i2l, mw_l2i, mw_lcm, mw_if, mw_ic, mw_ifnN, mw_ifnR, mw_go, mw_dupi, mw_dupr, mw_popi, mw_popr, mw_nw, mw_rti, mw_rtl, mw_rtr, mw_rtn, mw_rtv, mw_rt0, mw_rt1, mj_ild, mj_lld, mj_ald, mj_ist, mj_lst, mj_ast, mj_inc, mj_iz, mj_get, mj_put, mj_len, mj_iar, mj_aar, mj_iaw, mj_aaw, mj_ivs, mj_ivv, mj_ivi, mj_ob, mj_tk, mj_cat, mj_st1, mj_st2, mj_clr, mj_nwi, mj_nwq, List.getElem?_cons_zero, List.getElem?_cons_succ, List.length_cons, List.length_nil, List.set_cons_zero, List.set_cons_succ, Value.category, decide_eq_true_eq, List.map_cons, List.map_nil, List.sum_cons, List.sum_nil, Option.toList, List.cons_append, List.nil_append, ite_true, ite_false, if_true, if_false, reduceCtorEq, true_and, and_true, narrow_i, narrow_l, narrow_r, narrow_n, fits_i, fits_l, fits_ro, fits_ra, fits_no, fits_na, Nat.reduceAdd, Nat.reduceLT, Nat.reduceLeDiff, Nat.reduceEqDiff, Nat.reduceSub, zero_add0, true_or, or_true, false_or, or_false, not_true_eq_false, not_false_eq_true, eq_self, i10, i01, im0, im1, nI_1]
  exact key (k - (v + 1)) (v + 1) (by omega) (by omega) (fun j h3 h4 => by omega)
end P2
