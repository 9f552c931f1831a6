/-! The reference: rows copied, taken out, put back; literals removed and put back -/
/-- rows from v on, up to e, hold what the row behind them held -/
def sh (C : Nat → sp_Ln) (v e : Nat) : Nat → sp_Ln := fun j => if v ≤ j ∧ j < e then C (j + 1) else C j
/-- rows behind v, up to e, hold what the row ahead of them held -/
def bk (C : Nat → sp_Ln) (v e : Nat) : Nat → sp_Ln := fun j => if v < j ∧ j ≤ e then C (j - 1) else C j
theorem sh_step {C : Nat → sp_Ln} {v k : Nat} (h : v ≤ k) : va_up (sh C v k) k (sh C v k (k + 1)) = sh C v (k + 1) := by
  funext j
  by_cases hj : j = k
  · subst hj
    rw [va_up_self]
    unfold sh
    rw [if_neg (by omega), if_pos (by omega)]
  · rw [va_up_ne _ _ hj]
    unfold sh
    by_cases w : v ≤ j ∧ j < k
    · rw [if_pos w, if_pos (by omega)]
    · rw [if_neg w, if_neg (by omega)]
theorem bk_step {C : Nat → sp_Ln} {k e : Nat} (h : k + 1 ≤ e) : va_up (bk C (k + 1) e) (k + 1) (bk C (k + 1) e k) = bk C k e := by
  funext j
  by_cases hj : j = k + 1
  · subst hj
    rw [va_up_self]
    unfold bk
    rw [if_neg (by omega), if_pos (by omega)]
    rfl
  · rw [va_up_ne _ _ hj]
    unfold bk
    by_cases w : k < j ∧ j ≤ e
    · rw [if_pos w, if_pos (by omega)]
    · rw [if_neg w, if_neg (by omega)]
section MC
variable {hp : mj_H} {Q : mj_Q} {M n ln cm ul : Nat} {a b t : Int32} {C : Nat → sp_Ln}
theorem m_copyLine (h : hp.1 M = some (mo_o M n ln cm ul a b t)) (hr : rows hp M C) {i j : Nat} (hi : i < 160) (hj : j < 160) (hij : i ≠ j) (hQ : ∀ hp' : mj_H, rows hp' M (va_up C j (C i)) → sm hp hp' (M + 1) (M + 4) → Q none hp') : mj_call 93 [.ref M, .int (nI i), .int (nI j)] hp Q := by
  obtain ⟨fk, fm, fl, r1, r2, r3, r4⟩ := hr
  obtain ⟨a1, a2, a3, a4, a5⟩ := r4 i hi
  have hlen := ln_len a4
  have i0 : ¬ nI i < 0 := nI_pos (by omega)
  have i1 : (nI i).toNatClampNeg = i := nI_clamp (by omega)
  have i2 : ¬ 160 ≤ i := by omega
  have j0 : ¬ nI j < 0 := nI_pos (by omega)
  have j1 : (nI j).toNatClampNeg = j := nI_clamp (by omega)
  have j2 : ¬ 160 ≤ j := by omega
  have um : upd fm j (nI (C i).2.length) i = nI (C i).2.length := by rw [upd_off hij]; exact a2
  have key : ∀ (d k : Nat) (g : Nat → Int32) (hp1 : mj_H), k + d = (C i).2.length → hp1.1 (M + 1) = some (ma 160 (upd fk j (nI (C i).1))) → hp1.1 (M + 2) = some (ma 160 (upd fm j (nI (C i).2.length))) → hp1.1 (M + 3) = some (ma 20480 g) → (∀ q, q < k → g (128 * j + q) = nI ((C i).2.getD q 0)) → (∀ x, (x < 128 * j ∨ 128 * j + 128 ≤ x) → g x = fl x) → sm hp hp1 (M + 1) (M + 4) → mj_wp 93 26 [some (.ref M), some (.int (nI i)), some (.int (nI j)), some (.int (nI k))] [] hp1 Q := by
    intro d
    induction d with
    | zero =>
      intro k g hp1 hk k1 k2 k3 g1 g2 s1
      have ho1 := (s1.2 M (by omega)).trans h
      have e1 : nI (C i).2.length ≤ nI k := nI_le (by omega) (by omega)
      rw [x_93_26]
      simp only [x_93_27, x_93_28, x_93_31, x_93_32, x_93_33, x_93_66, mw_nx, mw_no, mw_ite, mw_call, mw_ret, mw_cst, mw_ii, mw_i1, mw_ll, mw_l1, mw_li, mw_i2l, mw_l2i, mw_lcm, mw_if, mw_ic, mw_ifnN, mw_ifnR, mw_go, mw_dupi, mw_dupr, mw_popi, mw_popr, mw_nw, mw_rti, mw_rtl, mw_rtr, mw_rtn, mw_rtv, mw_rt0, mw_rt1, mj_ild, mj_lld, mj_ald, mj_ist, mj_lst, mj_ast, mj_inc, mj_iz, mj_get, mj_put, mj_len, mj_iar, mj_aar, mj_iaw, mj_aaw, mj_ivs, mj_ivv, mj_ivi, mj_ob, mj_tk, mj_cat, mj_st1, mj_st2, mj_clr, mj_nwi, mj_nwq, List.getElem?_cons_zero, List.getElem?_cons_succ, List.length_cons, List.length_nil, List.set_cons_zero, List.set_cons_succ, Value.category, decide_eq_true_eq, List.map_cons, List.map_nil, List.sum_cons, List.sum_nil, Option.toList, List.cons_append, List.nil_append, ite_true, ite_false, if_true, if_false, reduceCtorEq, true_and, and_true, narrow_i, narrow_l, narrow_r, narrow_n, fits_i, fits_l, fits_ro, fits_ra, fits_no, fits_na, Nat.reduceAdd, Nat.reduceLT, Nat.reduceLeDiff, Nat.reduceEqDiff, Nat.reduceSub, zero_add0, true_or, or_true, false_or, or_false, not_true_eq_false, not_false_eq_true, eq_self, i10, i01, im0, im1, ho1, k2, at_0, i0, i1, i2, um, e1]
      refine hQ hp1 ⟨_, _, g, k1, k2, k3, rw_set r4 ⟨upd_at, upd_at, fun q hq => g1 q (by omega), a4, a5⟩ (fun i' hne => ⟨upd_off hne, upd_off hne, fun q hq => g2 _ (by omega)⟩)⟩ s1
    | succ d ih =>
      intro k g hp1 hk k1 k2 k3 g1 g2 s1
      have ho1 := (s1.2 M (by omega)).trans h
      have e1 : ¬ nI (C i).2.length ≤ nI k := nI_ge (by omega) (by omega)
      have p0 : ¬ nI (128 * i + k) < 0 := nI_pos (by omega)
      have p1 : (nI (128 * i + k)).toNatClampNeg = 128 * i + k := nI_clamp (by omega)
      have p2 : ¬ 20480 ≤ 128 * i + k := by omega
      have q0 : ¬ nI (128 * j + k) < 0 := nI_pos (by omega)
      have q1 : (nI (128 * j + k)).toNatClampNeg = 128 * j + k := nI_clamp (by omega)
      have q2 : ¬ 20480 ≤ 128 * j + k := by omega
      have e2 : g (128 * i + k) = nI ((C i).2.getD k 0) := by rw [g2 _ (by omega)]; exact a3 k (by omega)
      rw [x_93_26]
      simp only [x_93_27, x_93_28, x_93_31, x_93_32, x_93_33, x_93_36, x_93_37, x_93_40, x_93_43, x_93_44, x_93_45, x_93_46, x_93_47, x_93_48, x_93_51, x_93_54, x_93_55, x_93_56, x_93_57, x_93_58, x_93_59, x_93_60, x_93_63, mw_nx, mw_no, mw_ite, mw_call, mw_ret, mw_cst, mw_ii, mw_i1, mw_ll, mw_l1, mw_li, mw_i2l, mw_l2i, mw_lcm, mw_if, mw_ic, mw_ifnN, mw_ifnR, mw_go, mw_dupi, mw_dupr, mw_popi, mw_popr, mw_nw, mw_rti, mw_rtl, mw_rtr, mw_rtn, mw_rtv, mw_rt0, mw_rt1, mj_ild, mj_lld, mj_ald, mj_ist, mj_lst, mj_ast, mj_inc, mj_iz, mj_get, mj_put, mj_len, mj_iar, mj_aar, mj_iaw, mj_aaw, mj_ivs, mj_ivv, mj_ivi, mj_ob, mj_tk, mj_cat, mj_st1, mj_st2, mj_clr, mj_nwi, mj_nwq, List.getElem?_cons_zero, List.getElem?_cons_succ, List.length_cons, List.length_nil, List.set_cons_zero, List.set_cons_succ, Value.category, decide_eq_true_eq, List.map_cons, List.map_nil, List.sum_cons, List.sum_nil, Option.toList, List.cons_append, List.nil_append, ite_true, ite_false, if_true, if_false, reduceCtorEq, true_and, and_true, narrow_i, narrow_l, narrow_r, narrow_n, fits_i, fits_l, fits_ro, fits_ra, fits_no, fits_na, Nat.reduceAdd, Nat.reduceLT, Nat.reduceLeDiff, Nat.reduceEqDiff, Nat.reduceSub, zero_add0, true_or, or_true, false_or, or_false, not_true_eq_false, not_false_eq_true, eq_self, i10, i01, im0, im1, ho1, k2, k3, at_0, i0, i1, i2, um, e1, ix128, p0, p1, p2, q0, q1, q2, e2, nI_1]
      refine ih (k + 1) (upd g (128 * j + k) (nI ((C i).2.getD k 0))) _ (by omega) (by rw [u_3_1]; exact k1) (by rw [u_3_2]; exact k2) mj_up_at (fun q hq => ?_) (fun x hx => ?_) (s1.tr (sm.up (by omega) (by omega)))
      · by_cases hqk : q = k
        · subst hqk; exact upd_at
        · rw [upd_off (by omega)]; exact g1 q (by omega)
      · rw [upd_off (by omega)]; exact g2 x hx
  rw [en_93]
  simp only [x_93_0, x_93_1, x_93_4, x_93_5, x_93_6, x_93_9, x_93_10, x_93_11, x_93_12, x_93_13, x_93_16, x_93_17, x_93_18, x_93_21, x_93_22, x_93_23, x_93_24, x_93_25, mw_nx, mw_no, mw_ite, mw_call, mw_ret, mw_cst, mw_ii, mw_i1, mw_ll, mw_l1, mw_li, mw_i2l, mw_l2i, mw_lcm, mw_if, mw_ic, mw_ifnN, mw_ifnR, mw_go, mw_dupi, mw_dupr, mw_popi, mw_popr, mw_nw, mw_rti, mw_rtl, mw_rtr, mw_rtn, mw_rtv, mw_rt0, mw_rt1, mj_ild, mj_lld, mj_ald, mj_ist, mj_lst, mj_ast, mj_inc, mj_iz, mj_get, mj_put, mj_len, mj_iar, mj_aar, mj_iaw, mj_aaw, mj_ivs, mj_ivv, mj_ivi, mj_ob, mj_tk, mj_cat, mj_st1, mj_st2, mj_clr, mj_nwi, mj_nwq, List.getElem?_cons_zero, List.getElem?_cons_succ, List.length_cons, List.length_nil, List.set_cons_zero, List.set_cons_succ, Value.category, decide_eq_true_eq, List.map_cons, List.map_nil, List.sum_cons, List.sum_nil, Option.toList, List.cons_append, List.nil_append, ite_true, ite_false, if_true, if_false, reduceCtorEq, true_and, and_true, narrow_i, narrow_l, narrow_r, narrow_n, fits_i, fits_l, fits_ro, fits_ra, fits_no, fits_na, Nat.reduceAdd, Nat.reduceLT, Nat.reduceLeDiff, Nat.reduceEqDiff, Nat.reduceSub, zero_add0, true_or, or_true, false_or, or_false, not_true_eq_false, not_false_eq_true, eq_self, i10, i01, im0, im1, h, r1, r2, at_0, i0, i1, i2, j0, j1, j2, a1, a2, u_0_1, u_0_2, u_0_3, u_0_4, u_0_5, u_0_6, u_0_7, u_1_0, u_1_2, u_1_3, u_1_4, u_1_5, u_1_6, u_1_7, u_2_0, u_2_1, u_2_3, u_2_4, u_2_5, u_2_6, u_2_7, u_3_0, u_3_1, u_3_2, u_3_4, u_3_5, u_3_6, u_3_7, u_4_0, u_4_1, u_4_2, u_4_3, u_4_5, u_4_6, u_4_7, u_5_0, u_5_1, u_5_2, u_5_3, u_5_4, u_5_6, u_5_7, u_6_0, u_6_1, u_6_2, u_6_3, u_6_4, u_6_5, u_6_7, u_7_0, u_7_1, u_7_2, u_7_3, u_7_4, u_7_5, u_7_6]
  exact key (C i).2.length 0 fl _ (by omega) (by rw [u_2_1, mj_up_at]) mj_up_at (by rw [u_2_3, u_1_3]; exact r3) (fun q hq => absurd hq (by omega)) (fun x _ => rfl) ((sm.up (by omega) (by omega)).tr (sm.up (by omega) (by omega)))
theorem m_takeOut (h : hp.1 M = some (mo_o M n ln cm ul a b t)) (hr : rows hp M C) (hl : ln ≤ 80) {v : Nat} (hv : v < ln) (hQ : ∀ hp' : mj_H, hp'.1 M = some (mo_o M n (ln - 1) cm ul a b t) → rows hp' M (sh C v (ln - 1)) → sm hp hp' M (M + 4) → Q none hp') : mj_call 94 [.ref M, .int (nI v)] hp Q := by
  have key : ∀ (d k : Nat) (hp1 : mj_H), k + d = ln - 1 → v ≤ k → hp1.1 M = some (mo_o M n (ln - 1) cm ul a b t) → rows hp1 M (sh C v k) → sm hp hp1 M (M + 4) → mj_wp 94 12 [some (.ref M), some (.int (nI v)), some (.int (nI k))] [] hp1 Q := by
    intro d
    induction d with
    | zero =>
      intro k hp1 hk hvk o1 r1 s1
      obtain rfl : k = ln - 1 := by omega
      have e1 : nI (ln - 1) ≤ nI (ln - 1) := nI_le (Nat.le_refl _) (by omega)
      rw [x_94_12]
      simp only [x_94_13, x_94_14, x_94_17, x_94_34, mw_nx, mw_no, mw_ite, mw_call, mw_ret, mw_cst, mw_ii, mw_i1, mw_ll, mw_l1, mw_li, mw_i2l, mw_l2i, mw_lcm, mw_if, mw_ic, mw_ifnN, mw_ifnR, mw_go, mw_dupi, mw_dupr, mw_popi, mw_popr, mw_nw, mw_rti, mw_rtl, mw_rtr, mw_rtn, mw_rtv, mw_rt0, mw_rt1, mj_ild, mj_lld, mj_ald, mj_ist, mj_lst, mj_ast, mj_inc, mj_iz, mj_get, mj_put, mj_len, mj_iar, mj_aar, mj_iaw, mj_aaw, mj_ivs, mj_ivv, mj_ivi, mj_ob, mj_tk, mj_cat, mj_st1, mj_st2, mj_clr, mj_nwi, mj_nwq, List.getElem?_cons_zero, List.getElem?_cons_succ, List.length_cons, List.length_nil, List.set_cons_zero, List.set_cons_succ, Value.category, decide_eq_true_eq, List.map_cons, List.map_nil, List.sum_cons, List.sum_nil, Option.toList, List.cons_append, List.nil_append, ite_true, ite_false, if_true, if_false, reduceCtorEq, true_and, and_true, narrow_i, narrow_l, narrow_r, narrow_n, fits_i, fits_l, fits_ro, fits_ra, fits_no, fits_na, Nat.reduceAdd, Nat.reduceLT, Nat.reduceLeDiff, Nat.reduceEqDiff, Nat.reduceSub, zero_add0, true_or, or_true, false_or, or_false, not_true_eq_false, not_false_eq_true, eq_self, i10, i01, im0, im1, o1, e1]
      exact hQ hp1 o1 r1 s1
    | succ d ih =>
      intro k hp1 hk hvk o1 r1 s1
      have e1 : ¬ nI (ln - 1) ≤ nI k := nI_ge (by omega) (by omega)
      rw [x_94_12]
      simp only [x_94_13, x_94_14, x_94_17, x_94_20, x_94_21, x_94_22, x_94_23, x_94_24, x_94_25, mw_nx, mw_no, mw_ite, mw_call, mw_ret, mw_cst, mw_ii, mw_i1, mw_ll, mw_l1, mw_li, mw_i2l, mw_l2i, mw_lcm, mw_if, mw_ic, mw_ifnN, mw_ifnR, mw_go, mw_dupi, mw_dupr, mw_popi, mw_popr, mw_nw, mw_rti, mw_rtl, mw_rtr, mw_rtn, mw_rtv, mw_rt0, mw_rt1, mj_ild, mj_lld, mj_ald, mj_ist, mj_lst, mj_ast, mj_inc, mj_iz, mj_get, mj_put, mj_len, mj_iar, mj_aar, mj_iaw, mj_aaw, mj_ivs, mj_ivv, mj_ivi, mj_ob, mj_tk, mj_cat, mj_st1, mj_st2, mj_clr, mj_nwi, mj_nwq, List.getElem?_cons_zero, List.getElem?_cons_succ, List.length_cons, List.length_nil, List.set_cons_zero, List.set_cons_succ, Value.category, decide_eq_true_eq, List.map_cons, List.map_nil, List.sum_cons, List.sum_nil, Option.toList, List.cons_append, List.nil_append, ite_true, ite_false, if_true, if_false, reduceCtorEq, true_and, and_true, narrow_i, narrow_l, narrow_r, narrow_n, fits_i, fits_l, fits_ro, fits_ra, fits_no, fits_na, Nat.reduceAdd, Nat.reduceLT, Nat.reduceLeDiff, Nat.reduceEqDiff, Nat.reduceSub, zero_add0, true_or, or_true, false_or, or_false, not_true_eq_false, not_false_eq_true, eq_self, i10, i01, im0, im1, o1, e1, nI_1]
      refine m_copyLine o1 r1 (show k + 1 < 160 by omega) (show k < 160 by omega) (by omega) (fun hp2 r2 s2 => ?_)
      rw [sh_step hvk] at r2
      simp only [x_94_28, x_94_31, mw_nx, mw_no, mw_ite, mw_call, mw_ret, mw_cst, mw_ii, mw_i1, mw_ll, mw_l1, mw_li, mw_i2l, mw_l2i, mw_lcm, mw_if, mw_ic, mw_ifnN, mw_ifnR, mw_go, mw_dupi, mw_dupr, mw_popi, mw_popr, mw_nw, mw_rti, mw_rtl, mw_rtr, mw_rtn, mw_rtv, mw_rt0, mw_rt1, mj_ild, mj_lld, mj_ald, mj_ist, mj_lst, mj_ast, mj_inc, mj_iz, mj_get, mj_put, mj_len, mj_iar, mj_aar, mj_iaw, mj_aaw, mj_ivs, mj_ivv, mj_ivi, mj_ob, mj_tk, mj_cat, mj_st1, mj_st2, mj_clr, mj_nwi, mj_nwq, List.getElem?_cons_zero, List.getElem?_cons_succ, List.length_cons, List.length_nil, List.set_cons_zero, List.set_cons_succ, Value.category, decide_eq_true_eq, List.map_cons, List.map_nil, List.sum_cons, List.sum_nil, Option.toList, List.cons_append, List.nil_append, ite_true, ite_false, if_true, if_false, reduceCtorEq, true_and, and_true, narrow_i, narrow_l, narrow_r, narrow_n, fits_i, fits_l, fits_ro, fits_ra, fits_no, fits_na, Nat.reduceAdd, Nat.reduceLT, Nat.reduceLeDiff, Nat.reduceEqDiff, Nat.reduceSub, zero_add0, true_or, or_true, false_or, or_false, not_true_eq_false, not_false_eq_true, eq_self, i10, i01, im0, im1, nI_1]
      exact ih (k + 1) hp2 (by omega) (by omega) ((s2.2 _ (by omega)).trans o1) r2 (s1.tr (s2.mono (by omega) (by omega)))
  have e0 : nI ln - 1 = nI (ln - 1) := pk_sub (b := 1) (by omega)
  have h0 : sh C v v = C := by
    funext j
    unfold sh
    rw [if_neg (by omega)]
  rw [en_94]
  simp only [x_94_0, x_94_1, x_94_2, x_94_5, x_94_6, x_94_7, x_94_10, x_94_11, mw_nx, mw_no, mw_ite, mw_call, mw_ret, mw_cst, mw_ii, mw_i1, mw_ll, mw_l1, mw_li, mw_i2l, mw_l2i, mw_lcm, mw_if, mw_ic, mw_ifnN, mw_ifnR, mw_go, mw_dupi, mw_dupr, mw_popi, mw_popr, mw_nw, mw_rti, mw_rtl, mw_rtr, mw_rtn, mw_rtv, mw_rt0, mw_rt1, mj_ild, mj_lld, mj_ald, mj_ist, mj_lst, mj_ast, mj_inc, mj_iz, mj_get, mj_put, mj_len, mj_iar, mj_aar, mj_iaw, mj_aaw, mj_ivs, mj_ivv, mj_ivi, mj_ob, mj_tk, mj_cat, mj_st1, mj_st2, mj_clr, mj_nwi, mj_nwq, List.getElem?_cons_zero, List.getElem?_cons_succ, List.length_cons, List.length_nil, List.set_cons_zero, List.set_cons_succ, Value.category, decide_eq_true_eq, List.map_cons, List.map_nil, List.sum_cons, List.sum_nil, Option.toList, List.cons_append, List.nil_append, ite_true, ite_false, if_true, if_false, reduceCtorEq, true_and, and_true, narrow_i, narrow_l, narrow_r, narrow_n, fits_i, fits_l, fits_ro, fits_ra, fits_no, fits_na, Nat.reduceAdd, Nat.reduceLT, Nat.reduceLeDiff, Nat.reduceEqDiff, Nat.reduceSub, zero_add0, true_or, or_true, false_or, or_false, not_true_eq_false, not_false_eq_true, eq_self, i10, i01, im0, im1, h, e0]
  exact key (ln - 1 - v) v _ (by omega) (Nat.le_refl _) mj_up_at (by rw [h0]; exact hr.keep u_0_1 u_0_2 u_0_3) (sm.up (by omega) (by omega))
theorem m_putBack (h : hp.1 M = some (mo_o M n ln cm ul a b t)) (hr : rows hp M C) (hl : ln < 80) {v : Nat} (hv : v ≤ ln) (hQ : ∀ hp' : mj_H, hp'.1 M = some (mo_o M n (ln + 1) cm ul a b t) → rows hp' M (va_up (bk C v ln) v (C 80)) → sm hp hp' M (M + 4) → Q none hp') : mj_call 95 [.ref M, .int (nI v)] hp Q := by
  have key : ∀ (d k : Nat) (hp1 : mj_H), k = v + d → k ≤ ln → hp1.1 M = some (mo_o M n ln cm ul a b t) → rows hp1 M (bk C k ln) → sm hp hp1 M (M + 4) → mj_wp 95 5 [some (.ref M), some (.int (nI v)), some (.int (nI k))] [] hp1 Q := by
    intro d
    induction d with
    | zero =>
      intro k hp1 hk hkl o1 r1 s1
      obtain rfl : k = v := by omega
      have e1 : nI k ≤ nI k := nI_le (Nat.le_refl _) (by omega)
      have e80 : mj_call 93 [.ref M, .int 80, .int (nI k)] = mj_call 93 [.ref M, .int (nI 80), .int (nI k)] := rfl
      rw [x_95_5]
      simp only [x_95_6, x_95_7, x_95_24, x_95_25, x_95_27, x_95_28, mw_nx, mw_no, mw_ite, mw_call, mw_ret, mw_cst, mw_ii, mw_i1, mw_ll, mw_l1, mw_li, mw_i2l, mw_l2i, mw_lcm, mw_if, mw_ic, mw_ifnN, mw_ifnR, mw_go, mw_dupi, mw_dupr, mw_popi, mw_popr, mw_nw, mw_rti, mw_rtl, mw_rtr, mw_rtn, mw_rtv, mw_rt0, mw_rt1, mj_ild, mj_lld, mj_ald, mj_ist, mj_lst, mj_ast, mj_inc, mj_iz, mj_get, mj_put, mj_len, mj_iar, mj_aar, mj_iaw, mj_aaw, mj_ivs, mj_ivv, mj_ivi, mj_ob, mj_tk, mj_cat, mj_st1, mj_st2, mj_clr, mj_nwi, mj_nwq, List.getElem?_cons_zero, List.getElem?_cons_succ, List.length_cons, List.length_nil, List.set_cons_zero, List.set_cons_succ, Value.category, decide_eq_true_eq, List.map_cons, List.map_nil, List.sum_cons, List.sum_nil, Option.toList, List.cons_append, List.nil_append, ite_true, ite_false, if_true, if_false, reduceCtorEq, true_and, and_true, narrow_i, narrow_l, narrow_r, narrow_n, fits_i, fits_l, fits_ro, fits_ra, fits_no, fits_na, Nat.reduceAdd, Nat.reduceLT, Nat.reduceLeDiff, Nat.reduceEqDiff, Nat.reduceSub, zero_add0, true_or, or_true, false_or, or_false, not_true_eq_false, not_false_eq_true, eq_self, i10, i01, im0, im1, o1, e1, e80]
      refine m_copyLine o1 r1 (show 80 < 160 by omega) (show k < 160 by omega) (by omega) (fun hp2 r2 s2 => ?_)
      have o2 := (s2.2 M (by omega)).trans o1
      have hb : bk C k ln 80 = C 80 := by
        unfold bk
        rw [if_neg (by omega)]
      rw [hb] at r2
      simp only [x_95_31, x_95_32, x_95_33, x_95_36, x_95_37, x_95_38, x_95_41, mw_nx, mw_no, mw_ite, mw_call, mw_ret, mw_cst, mw_ii, mw_i1, mw_ll, mw_l1, mw_li, mw_i2l, mw_l2i, mw_lcm, mw_if, mw_ic, mw_ifnN, mw_ifnR, mw_go, mw_dupi, mw_dupr, mw_popi, mw_popr, mw_nw, mw_rti, mw_rtl, mw_rtr, mw_rtn, mw_rtv, mw_rt0, mw_rt1, mj_ild, mj_lld, mj_ald, mj_ist, mj_lst, mj_ast, mj_inc, mj_iz, mj_get, mj_put, mj_len, mj_iar, mj_aar, mj_iaw, mj_aaw, mj_ivs, mj_ivv, mj_ivi, mj_ob, mj_tk, mj_cat, mj_st1, mj_st2, mj_clr, mj_nwi, mj_nwq, List.getElem?_cons_zero, List.getElem?_cons_succ, List.length_cons, List.length_nil, List.set_cons_zero, List.set_cons_succ, Value.category, decide_eq_true_eq, List.map_cons, List.map_nil, List.sum_cons, List.sum_nil, Option.toList, List.cons_append, List.nil_append, ite_true, ite_false, if_true, if_false, reduceCtorEq, true_and, and_true, narrow_i, narrow_l, narrow_r, narrow_n, fits_i, fits_l, fits_ro, fits_ra, fits_no, fits_na, Nat.reduceAdd, Nat.reduceLT, Nat.reduceLeDiff, Nat.reduceEqDiff, Nat.reduceSub, zero_add0, true_or, or_true, false_or, or_false, not_true_eq_false, not_false_eq_true, eq_self, i10, i01, im0, im1, o2, nI_1]
      exact hQ _ mj_up_at (r2.keep u_0_1 u_0_2 u_0_3) ((s1.tr (s2.mono (by omega) (by omega))).tr (sm.up (by omega) (by omega)))
    | succ d ih =>
      intro k hp1 hk hkl o1 r1 s1
      obtain ⟨k, rfl⟩ : ∃ k', k = k' + 1 := ⟨k - 1, by omega⟩
      have e1 : ¬ nI (k + 1) ≤ nI v := nI_ge (by omega) (by omega)
      rw [x_95_5]
      simp only [x_95_6, x_95_7, x_95_10, x_95_11, x_95_12, x_95_13, x_95_14, x_95_15, mw_nx, mw_no, mw_ite, mw_call, mw_ret, mw_cst, mw_ii, mw_i1, mw_ll, mw_l1, mw_li, mw_i2l, mw_l2i, mw_lcm, mw_if, mw_ic, mw_ifnN, mw_ifnR, mw_go, mw_dupi, mw_dupr, mw_popi, mw_popr, mw_nw, mw_rti, mw_rtl, mw_rtr, mw_rtn, mw_rtv, mw_rt0, mw_rt1, mj_ild, mj_lld, mj_ald, mj_ist, mj_lst, mj_ast, mj_inc, mj_iz, mj_get, mj_put, mj_len, mj_iar, mj_aar, mj_iaw, mj_aaw, mj_ivs, mj_ivv, mj_ivi, mj_ob, mj_tk, mj_cat, mj_st1, mj_st2, mj_clr, mj_nwi, mj_nwq, List.getElem?_cons_zero, List.getElem?_cons_succ, List.length_cons, List.length_nil, List.set_cons_zero, List.set_cons_succ, Value.category, decide_eq_true_eq, List.map_cons, List.map_nil, List.sum_cons, List.sum_nil, Option.toList, List.cons_append, List.nil_append, ite_true, ite_false, if_true, if_false, reduceCtorEq, true_and, and_true, narrow_i, narrow_l, narrow_r, narrow_n, fits_i, fits_l, fits_ro, fits_ra, fits_no, fits_na, Nat.reduceAdd, Nat.reduceLT, Nat.reduceLeDiff, Nat.reduceEqDiff, Nat.reduceSub, zero_add0, true_or, or_true, false_or, or_false, not_true_eq_false, not_false_eq_true, eq_self, i10, i01, im0, im1, o1, e1, nI_pred]
      refine m_copyLine o1 r1 (show k < 160 by omega) (show k + 1 < 160 by omega) (by omega) (fun hp2 r2 s2 => ?_)
      rw [bk_step hkl] at r2
      simp only [x_95_18, x_95_21, mw_nx, mw_no, mw_ite, mw_call, mw_ret, mw_cst, mw_ii, mw_i1, mw_ll, mw_l1, mw_li, mw_i2l, mw_l2i, mw_lcm, mw_if, mw_ic, mw_ifnN, mw_ifnR, mw_go, mw_dupi, mw_dupr, mw_popi, mw_popr, mw_nw, mw_rti, mw_rtl, mw_rtr, mw_rtn, mw_rtv, mw_rt0, mw_rt1, mj_ild, mj_lld, mj_ald, mj_ist, mj_lst, mj_ast, mj_inc, mj_iz, mj_get, mj_put, mj_len, mj_iar, mj_aar, mj_iaw, mj_aaw, mj_ivs, mj_ivv, mj_ivi, mj_ob, mj_tk, mj_cat, mj_st1, mj_st2, mj_clr, mj_nwi, mj_nwq, List.getElem?_cons_zero, List.getElem?_cons_succ, List.length_cons, List.length_nil, List.set_cons_zero, List.set_cons_succ, Value.category, decide_eq_true_eq, List.map_cons, List.map_nil, List.sum_cons, List.sum_nil, Option.toList, List.cons_append, List.nil_append, ite_true, ite_false, if_true, if_false, reduceCtorEq, true_and, and_true, narrow_i, narrow_l, narrow_r, narrow_n, fits_i, fits_l, fits_ro, fits_ra, fits_no, fits_na, Nat.reduceAdd, Nat.reduceLT, Nat.reduceLeDiff, Nat.reduceEqDiff, Nat.reduceSub, zero_add0, true_or, or_true, false_or, or_false, not_true_eq_false, not_false_eq_true, eq_self, i10, i01, im0, im1, pk_m1]
      exact ih k hp2 (by omega) (by omega) ((s2.2 _ (by omega)).trans o1) r2 (s1.tr (s2.mono (by omega) (by omega)))
  have h0 : bk C ln ln = C := by
    funext j
    unfold bk
    rw [if_neg (by omega)]
  rw [en_95]
  simp only [x_95_0, x_95_1, x_95_4, mw_nx, mw_no, mw_ite, mw_call, mw_ret, mw_cst, mw_ii, mw_i1, mw_ll, mw_l1, mw_li, mw_i2l, mw_l2i, mw_lcm, mw_if, mw_ic, mw_ifnN, mw_ifnR, mw_go, mw_dupi, mw_dupr, mw_popi, mw_popr, mw_nw, mw_rti, mw_rtl, mw_rtr, mw_rtn, mw_rtv, mw_rt0, mw_rt1, mj_ild, mj_lld, mj_ald, mj_ist, mj_lst, mj_ast, mj_inc, mj_iz, mj_get, mj_put, mj_len, mj_iar, mj_aar, mj_iaw, mj_aaw, mj_ivs, mj_ivv, mj_ivi, mj_ob, mj_tk, mj_cat, mj_st1, mj_st2, mj_clr, mj_nwi, mj_nwq, List.getElem?_cons_zero, List.getElem?_cons_succ, List.length_cons, List.length_nil, List.set_cons_zero, List.set_cons_succ, Value.category, decide_eq_true_eq, List.map_cons, List.map_nil, List.sum_cons, List.sum_nil, Option.toList, List.cons_append, List.nil_append, ite_true, ite_false, if_true, if_false, reduceCtorEq, true_and, and_true, narrow_i, narrow_l, narrow_r, narrow_n, fits_i, fits_l, fits_ro, fits_ra, fits_no, fits_na, Nat.reduceAdd, Nat.reduceLT, Nat.reduceLeDiff, Nat.reduceEqDiff, Nat.reduceSub, zero_add0, true_or, or_true, false_or, or_false, not_true_eq_false, not_false_eq_true, eq_self, i10, i01, im0, im1, h]
  exact key (ln - v) ln hp (by omega) (Nat.le_refl _) h (by rw [h0]; exact hr) sm.rf
theorem gd_l {p r : List Nat} {i : Nat} (h : i < p.length) : (p ++ r).getD i 0 = p.getD i 0 := by
  simp [List.getD_eq_getElem?_getD, List.getElem?_append_left h]
theorem gd_r {p r : List Nat} {i : Nat} (h : p.length ≤ i) : (p ++ r).getD i 0 = r.getD (i - p.length) 0 := by
  simp [List.getD_eq_getElem?_getD, List.getElem?_append_right h]
theorem gd_s {r : List Nat} {c i : Nat} (h : 0 < i) : (c :: r).getD i 0 = r.getD (i - 1) 0 := by
  obtain ⟨i, rfl⟩ : ∃ j, i = j + 1 := ⟨i - 1, by omega⟩
  simp [List.getD_eq_getElem?_getD]
theorem m_removeLiteral (h : hp.1 M = some (mo_o M n ln cm ul a b t)) {i s c : Nat} {p r : List Nat} (hr : rows hp M (va_up C i (s, p ++ c :: r))) (hi : i < 160) (hQ : ∀ hp' : mj_H, rows hp' M (va_up C i (s, p ++ r)) → sm hp hp' (M + 1) (M + 4) → Q none hp') : mj_call 98 [.ref M, .int (nI i), .int (nI p.length)] hp Q := by
  obtain ⟨fk, fm, fl, r1, r2, r3, r4⟩ := hr
  obtain ⟨a1, a2, a3, a4, a5⟩ := r4 i hi
  rw [va_up_self] at a1 a2 a3 a4 a5
  dsimp only at a1 a2 a3 a4 a5
  have hlen := ln_len a4
  obtain ⟨hok2, -, -⟩ := ln_nodup a4
  have hl1 : (p ++ c :: r).length = (p ++ r).length + 1 := by simp; omega
  have hl2 : (p ++ r).length = p.length + r.length := List.length_append
  have i0 : ¬ nI i < 0 := nI_pos (by omega)
  have i1 : (nI i).toNatClampNeg = i := nI_clamp (by omega)
  have i2 : ¬ 160 ≤ i := by omega
  have um : upd fm i (nI (p ++ r).length) i = nI (p ++ r).length := upd_at
  have key : ∀ (d k : Nat) (g : Nat → Int32) (hp1 : mj_H), k + d = (p ++ r).length → p.length ≤ k → hp1.1 (M + 1) = some (ma 160 fk) → hp1.1 (M + 2) = some (ma 160 (upd fm i (nI (p ++ r).length))) → hp1.1 (M + 3) = some (ma 20480 g) → (∀ q, q < k → g (128 * i + q) = nI ((p ++ r).getD q 0)) → (∀ x, (x < 128 * i + k ∨ 128 * i + 128 ≤ x) → ¬ (128 * i ≤ x ∧ x < 128 * i + 128) → g x = fl x) → (∀ q, k ≤ q → q < 128 → g (128 * i + q) = fl (128 * i + q)) → sm hp hp1 (M + 1) (M + 4) → mj_wp 98 12 [some (.ref M), some (.int (nI i)), some (.int (nI p.length)), some (.int (nI k))] [] hp1 Q := by
    intro d
    induction d with
    | zero =>
      intro k g hp1 hk hpk k1 k2 k3 g1 g2 g3 s1
      have ho1 := (s1.2 M (by omega)).trans h
      have e1 : nI (p ++ r).length ≤ nI k := nI_le (by omega) (by omega)
      rw [x_98_12]
      simp only [x_98_13, x_98_14, x_98_17, x_98_18, x_98_19, x_98_54, mw_nx, mw_no, mw_ite, mw_call, mw_ret, mw_cst, mw_ii, mw_i1, mw_ll, mw_l1, mw_li, mw_i2l, mw_l2i, mw_lcm, mw_if, mw_ic, mw_ifnN, mw_ifnR, mw_go, mw_dupi, mw_dupr, mw_popi, mw_popr, mw_nw, mw_rti, mw_rtl, mw_rtr, mw_rtn, mw_rtv, mw_rt0, mw_rt1, mj_ild, mj_lld, mj_ald, mj_ist, mj_lst, mj_ast, mj_inc, mj_iz, mj_get, mj_put, mj_len, mj_iar, mj_aar, mj_iaw, mj_aaw, mj_ivs, mj_ivv, mj_ivi, mj_ob, mj_tk, mj_cat, mj_st1, mj_st2, mj_clr, mj_nwi, mj_nwq, List.getElem?_cons_zero, List.getElem?_cons_succ, List.length_cons, List.length_nil, List.set_cons_zero, List.set_cons_succ, Value.category, decide_eq_true_eq, List.map_cons, List.map_nil, List.sum_cons, List.sum_nil, Option.toList, List.cons_append, List.nil_append, ite_true, ite_false, if_true, if_false, reduceCtorEq, true_and, and_true, narrow_i, narrow_l, narrow_r, narrow_n, fits_i, fits_l, fits_ro, fits_ra, fits_no, fits_na, Nat.reduceAdd, Nat.reduceLT, Nat.reduceLeDiff, Nat.reduceEqDiff, Nat.reduceSub, zero_add0, true_or, or_true, false_or, or_false, not_true_eq_false, not_false_eq_true, eq_self, i10, i01, im0, im1, ho1, k2, at_0, i0, i1, i2, um, e1]
      have hfin := rw_set (i0 := i) (l := (s, p ++ r)) (fk' := fk) (fm' := upd fm i (nI (p ++ r).length)) (fl' := g) r4 ⟨a1, upd_at, fun q hq => g1 q (by dsimp only at hq; omega), hok2, a5⟩ (fun i' hne => ⟨rfl, upd_off hne, fun q hq => g2 _ (by omega) (by omega)⟩)
      rw [va_up_up2] at hfin
      exact hQ hp1 ⟨_, _, g, k1, k2, k3, hfin⟩ s1
    | succ d ih =>
      intro k g hp1 hk hpk k1 k2 k3 g1 g2 g3 s1
      have ho1 := (s1.2 M (by omega)).trans h
      have e1 : ¬ nI (p ++ r).length ≤ nI k := nI_ge (by omega) (by omega)
      have p0 : ¬ nI (128 * i + k + 1) < 0 := nI_pos (by omega)
      have p1 : (nI (128 * i + k + 1)).toNatClampNeg = 128 * i + k + 1 := nI_clamp (by omega)
      have p2 : ¬ 20480 ≤ 128 * i + k + 1 := by omega
      have q0 : ¬ nI (128 * i + k) < 0 := nI_pos (by omega)
      have q1 : (nI (128 * i + k)).toNatClampNeg = 128 * i + k := nI_clamp (by omega)
      have q2 : ¬ 20480 ≤ 128 * i + k := by omega
      have e2 : g (128 * i + k + 1) = nI ((p ++ r).getD k 0) := by
        rw [show 128 * i + k + 1 = 128 * i + (k + 1) by omega, g3 _ (by omega) (by omega), a3 (k + 1) (by omega), gd_r (by omega), gd_r hpk, gd_s (by omega)]
        congr 2; omega
      rw [x_98_12]
      simp only [x_98_13, x_98_14, x_98_17, x_98_18, x_98_19, x_98_22, x_98_23, x_98_26, x_98_29, x_98_30, x_98_31, x_98_32, x_98_33, x_98_34, x_98_37, x_98_40, x_98_41, x_98_42, x_98_43, x_98_44, x_98_45, x_98_46, x_98_47, x_98_48, x_98_51, mw_nx, mw_no, mw_ite, mw_call, mw_ret, mw_cst, mw_ii, mw_i1, mw_ll, mw_l1, mw_li, mw_i2l, mw_l2i, mw_lcm, mw_if, mw_ic, mw_ifnN, mw_ifnR, mw_go, mw_dupi, mw_dupr, mw_popi, mw_popr, mw_nw, mw_rti, mw_rtl, mw_rtr, mw_rtn, mw_rtv, mw_rt0, mw_rt1, mj_ild, mj_lld, mj_ald, mj_ist, mj_lst, mj_ast, mj_inc, mj_iz, mj_get, mj_put, mj_len, mj_iar, mj_aar, mj_iaw, mj_aaw, mj_ivs, mj_ivv, mj_ivi, mj_ob, mj_tk, mj_cat, mj_st1, mj_st2, mj_clr, mj_nwi, mj_nwq, List.getElem?_cons_zero, List.getElem?_cons_succ, List.length_cons, List.length_nil, List.set_cons_zero, List.set_cons_succ, Value.category, decide_eq_true_eq, List.map_cons, List.map_nil, List.sum_cons, List.sum_nil, Option.toList, List.cons_append, List.nil_append, ite_true, ite_false, if_true, if_false, reduceCtorEq, true_and, and_true, narrow_i, narrow_l, narrow_r, narrow_n, fits_i, fits_l, fits_ro, fits_ra, fits_no, fits_na, Nat.reduceAdd, Nat.reduceLT, Nat.reduceLeDiff, Nat.reduceEqDiff, Nat.reduceSub, zero_add0, true_or, or_true, false_or, or_false, not_true_eq_false, not_false_eq_true, eq_self, i10, i01, im0, im1, ho1, k2, k3, at_0, i0, i1, i2, um, e1, ix128, nI_1, p0, p1, p2, q0, q1, q2, e2]
      refine ih (k + 1) (upd g (128 * i + k) (nI ((p ++ r).getD k 0))) _ (by omega) (by omega) (by rw [u_3_1]; exact k1) (by rw [u_3_2]; exact k2) mj_up_at (fun q hq => ?_) (fun x hx hx2 => ?_) (fun q hq hq2 => ?_) (s1.tr (sm.up (by omega) (by omega)))
      · by_cases hqk : q = k
        · subst hqk; exact upd_at
        · rw [upd_off (by omega)]; exact g1 q (by omega)
      · rw [upd_off (by omega)]; exact g2 x (by omega) hx2
      · rw [upd_off (by omega)]; exact g3 q (by omega) hq2
  have e0 : nI (p ++ c :: r).length - 1 = nI (p ++ r).length := by rw [hl1]; exact nI_pred _
  rw [en_98]
  simp only [x_98_0, x_98_1, x_98_4, x_98_5, x_98_6, x_98_7, x_98_8, x_98_9, x_98_10, x_98_11, mw_nx, mw_no, mw_ite, mw_call, mw_ret, mw_cst, mw_ii, mw_i1, mw_ll, mw_l1, mw_li, mw_i2l, mw_l2i, mw_lcm, mw_if, mw_ic, mw_ifnN, mw_ifnR, mw_go, mw_dupi, mw_dupr, mw_popi, mw_popr, mw_nw, mw_rti, mw_rtl, mw_rtr, mw_rtn, mw_rtv, mw_rt0, mw_rt1, mj_ild, mj_lld, mj_ald, mj_ist, mj_lst, mj_ast, mj_inc, mj_iz, mj_get, mj_put, mj_len, mj_iar, mj_aar, mj_iaw, mj_aaw, mj_ivs, mj_ivv, mj_ivi, mj_ob, mj_tk, mj_cat, mj_st1, mj_st2, mj_clr, mj_nwi, mj_nwq, List.getElem?_cons_zero, List.getElem?_cons_succ, List.length_cons, List.length_nil, List.set_cons_zero, List.set_cons_succ, Value.category, decide_eq_true_eq, List.map_cons, List.map_nil, List.sum_cons, List.sum_nil, Option.toList, List.cons_append, List.nil_append, ite_true, ite_false, if_true, if_false, reduceCtorEq, true_and, and_true, narrow_i, narrow_l, narrow_r, narrow_n, fits_i, fits_l, fits_ro, fits_ra, fits_no, fits_na, Nat.reduceAdd, Nat.reduceLT, Nat.reduceLeDiff, Nat.reduceEqDiff, Nat.reduceSub, zero_add0, true_or, or_true, false_or, or_false, not_true_eq_false, not_false_eq_true, eq_self, i10, i01, im0, im1, mw_d2ir, h, r2, at_0, i0, i1, i2, a2, e0]
  refine key r.length p.length fl _ (by omega) (Nat.le_refl _) (by rw [u_2_1]; exact r1) mj_up_at (by rw [u_2_3]; exact r3) (fun q hq => ?_) (fun x _ _ => rfl) (fun q _ _ => rfl) (sm.up (by omega) (by omega))
  rw [a3 q (by omega), gd_l hq, gd_l hq]
theorem m_insertLiteral (h : hp.1 M = some (mo_o M n ln cm ul a b t)) {i s c : Nat} {p r : List Nat} (hr : rows hp M (va_up C i (s, p ++ r))) (hok : ln_ok (p ++ c :: r)) (hi : i < 160) (hQ : ∀ hp' : mj_H, rows hp' M (va_up C i (s, p ++ c :: r)) → sm hp hp' (M + 1) (M + 4) → Q none hp') : mj_call 99 [.ref M, .int (nI i), .int (nI p.length), .int (nI c)] hp Q := by
  obtain ⟨fk, fm, fl, r1, r2, r3, r4⟩ := hr
  obtain ⟨a1, a2, a3, a4, a5⟩ := r4 i hi
  rw [va_up_self] at a1 a2 a3 a4 a5
  dsimp only at a1 a2 a3 a4 a5
  have hlen := ln_len hok
  have hl1 : (p ++ c :: r).length = (p ++ r).length + 1 := by simp; omega
  have hl2 : (p ++ r).length = p.length + r.length := List.length_append
  have i0 : ¬ nI i < 0 := nI_pos (by omega)
  have i1 : (nI i).toNatClampNeg = i := nI_clamp (by omega)
  have i2 : ¬ 160 ≤ i := by omega
  have key : ∀ (d k : Nat) (g : Nat → Int32) (hp1 : mj_H), k = p.length + d → k ≤ (p ++ r).length → hp1.1 (M + 1) = some (ma 160 fk) → hp1.1 (M + 2) = some (ma 160 fm) → hp1.1 (M + 3) = some (ma 20480 g) → (∀ q, k < q → q ≤ (p ++ r).length → g (128 * i + q) = nI ((p ++ r).getD (q - 1) 0)) → (∀ q, q < k → g (128 * i + q) = fl (128 * i + q)) → (∀ x, ¬ (128 * i ≤ x ∧ x < 128 * i + 128) → g x = fl x) → sm hp hp1 (M + 1) (M + 4) → mj_wp 99 8 [some (.ref M), some (.int (nI i)), some (.int (nI p.length)), some (.int (nI c)), some (.int (nI k))] [] hp1 Q := by
    intro d
    induction d with
    | zero =>
      intro k g hp1 hk hkl k1 k2 k3 g1 g2 g3 s1
      obtain rfl : k = p.length := by omega
      have ho1 := (s1.2 M (by omega)).trans h
      have e1 : nI p.length ≤ nI p.length := nI_le (Nat.le_refl _) (by omega)
      have q0 : ¬ nI (128 * i + p.length) < 0 := nI_pos (by omega)
      have q1 : (nI (128 * i + p.length)).toNatClampNeg = 128 * i + p.length := nI_clamp (by omega)
      have q2 : ¬ 20480 ≤ 128 * i + p.length := by omega
      rw [x_99_8]
      simp only [x_99_10, x_99_11, x_99_48, x_99_49, x_99_52, x_99_55, x_99_56, x_99_57, x_99_58, x_99_59, x_99_60, x_99_61, x_99_62, x_99_65, x_99_66, x_99_67, x_99_68, x_99_69, x_99_70, x_99_71, mw_nx, mw_no, mw_ite, mw_call, mw_ret, mw_cst, mw_ii, mw_i1, mw_ll, mw_l1, mw_li, mw_i2l, mw_l2i, mw_lcm, mw_if, mw_ic, mw_ifnN, mw_ifnR, mw_go, mw_dupi, mw_dupr, mw_popi, mw_popr, mw_nw, mw_rti, mw_rtl, mw_rtr, mw_rtn, mw_rtv, mw_rt0, mw_rt1, mj_ild, mj_lld, mj_ald, mj_ist, mj_lst, mj_ast, mj_inc, mj_iz, mj_get, mj_put, mj_len, mj_iar, mj_aar, mj_iaw, mj_aaw, mj_ivs, mj_ivv, mj_ivi, mj_ob, mj_tk, mj_cat, mj_st1, mj_st2, mj_clr, mj_nwi, mj_nwq, List.getElem?_cons_zero, List.getElem?_cons_succ, List.length_cons, List.length_nil, List.set_cons_zero, List.set_cons_succ, Value.category, decide_eq_true_eq, List.map_cons, List.map_nil, List.sum_cons, List.sum_nil, Option.toList, List.cons_append, List.nil_append, ite_true, ite_false, if_true, if_false, reduceCtorEq, true_and, and_true, narrow_i, narrow_l, narrow_r, narrow_n, fits_i, fits_l, fits_ro, fits_ra, fits_no, fits_na, Nat.reduceAdd, Nat.reduceLT, Nat.reduceLeDiff, Nat.reduceEqDiff, Nat.reduceSub, zero_add0, true_or, or_true, false_or, or_false, not_true_eq_false, not_false_eq_true, eq_self, i10, i01, im0, im1, mw_d2ir, ho1, k2, k3, at_0, i0, i1, i2, e1, ix128, q0, q1, q2, a2, u_0_1, u_0_2, u_0_3, u_0_4, u_0_5, u_0_6, u_0_7, u_1_0, u_1_2, u_1_3, u_1_4, u_1_5, u_1_6, u_1_7, u_2_0, u_2_1, u_2_3, u_2_4, u_2_5, u_2_6, u_2_7, u_3_0, u_3_1, u_3_2, u_3_4, u_3_5, u_3_6, u_3_7, u_4_0, u_4_1, u_4_2, u_4_3, u_4_5, u_4_6, u_4_7, u_5_0, u_5_1, u_5_2, u_5_3, u_5_4, u_5_6, u_5_7, u_6_0, u_6_1, u_6_2, u_6_3, u_6_4, u_6_5, u_6_7, u_7_0, u_7_1, u_7_2, u_7_3, u_7_4, u_7_5, u_7_6, nI_1]
      have hfin := rw_set (i0 := i) (l := (s, p ++ c :: r)) (fk' := fk) (fm' := upd fm i (nI ((p ++ r).length + 1))) (fl' := upd g (128 * i + p.length) (nI c)) r4 ⟨a1, by rw [upd_at, hl1], fun q hq => ?_, hok, a5⟩ (fun i' hne => ⟨rfl, upd_off hne, fun q hq => by rw [upd_off (by omega)]; exact g3 _ (by omega)⟩)
      · rw [va_up_up2] at hfin
        exact hQ _ ⟨_, _, _, by rw [u_2_1, u_3_1]; exact k1, mj_up_at, by rw [u_2_3, mj_up_at], hfin⟩ ((s1.tr (sm.up (by omega) (by omega))).tr (sm.up (by omega) (by omega)))
      · dsimp only at hq ⊢
        by_cases hqp : q = p.length
        · subst hqp
          rw [upd_at, gd_r (Nat.le_refl _)]
          simp
        · rw [upd_off (by omega)]
          by_cases hql : q < p.length
          · rw [g2 q hql, a3 q (by omega), gd_l hql, gd_l hql]
          · rw [g1 q (by omega) (by omega), gd_r (by omega), gd_r (by omega), gd_s (by omega)]
            congr 2; omega
    | succ d ih =>
      intro k g hp1 hk hkl k1 k2 k3 g1 g2 g3 s1
      obtain ⟨k, rfl⟩ : ∃ k', k = k' + 1 := ⟨k - 1, by omega⟩
      have ho1 := (s1.2 M (by omega)).trans h
      have e1 : ¬ nI (k + 1) ≤ nI p.length := nI_ge (by omega) (by omega)
      have p0 : ¬ nI (128 * i + k) < 0 := nI_pos (by omega)
      have p1 : (nI (128 * i + k)).toNatClampNeg = 128 * i + k := nI_clamp (by omega)
      have p2 : ¬ 20480 ≤ 128 * i + k := by omega
      have q0 : ¬ nI (128 * i + (k + 1)) < 0 := nI_pos (by omega)
      have q1 : (nI (128 * i + (k + 1))).toNatClampNeg = 128 * i + (k + 1) := nI_clamp (by omega)
      have q2 : ¬ 20480 ≤ 128 * i + (k + 1) := by omega
      have e2 : nI (128 * i + (k + 1)) - 1 = nI (128 * i + k) := nI_pred _
      have e3 : g (128 * i + k) = nI ((p ++ r).getD k 0) := by rw [g2 k (by omega)]; exact a3 k (by omega)
      rw [x_99_8]
      simp only [x_99_10, x_99_11, x_99_14, x_99_15, x_99_18, x_99_21, x_99_22, x_99_23, x_99_25, x_99_26, x_99_27, x_99_30, x_99_33, x_99_34, x_99_35, x_99_37, x_99_38, x_99_39, x_99_40, x_99_41, x_99_42, x_99_45, mw_nx, mw_no, mw_ite, mw_call, mw_ret, mw_cst, mw_ii, mw_i1, mw_ll, mw_l1, mw_li, mw_i2l, mw_l2i, mw_lcm, mw_if, mw_ic, mw_ifnN, mw_ifnR, mw_go, mw_dupi, mw_dupr, mw_popi, mw_popr, mw_nw, mw_rti, mw_rtl, mw_rtr, mw_rtn, mw_rtv, mw_rt0, mw_rt1, mj_ild, mj_lld, mj_ald, mj_ist, mj_lst, mj_ast, mj_inc, mj_iz, mj_get, mj_put, mj_len, mj_iar, mj_aar, mj_iaw, mj_aaw, mj_ivs, mj_ivv, mj_ivi, mj_ob, mj_tk, mj_cat, mj_st1, mj_st2, mj_clr, mj_nwi, mj_nwq, List.getElem?_cons_zero, List.getElem?_cons_succ, List.length_cons, List.length_nil, List.set_cons_zero, List.set_cons_succ, Value.category, decide_eq_true_eq, List.map_cons, List.map_nil, List.sum_cons, List.sum_nil, Option.toList, List.cons_append, List.nil_append, ite_true, ite_false, if_true, if_false, reduceCtorEq, true_and, and_true, narrow_i, narrow_l, narrow_r, narrow_n, fits_i, fits_l, fits_ro, fits_ra, fits_no, fits_na, Nat.reduceAdd, Nat.reduceLT, Nat.reduceLeDiff, Nat.reduceEqDiff, Nat.reduceSub, zero_add0, true_or, or_true, false_or, or_false, not_true_eq_false, not_false_eq_true, eq_self, i10, i01, im0, im1, ho1, k2, k3, at_0, e1, ix128, p0, p1, p2, q0, q1, q2, e2, e3, pk_m1]
      refine ih k (upd g (128 * i + (k + 1)) (nI ((p ++ r).getD k 0))) _ (by omega) (by omega) (by rw [u_3_1]; exact k1) (by rw [u_3_2]; exact k2) mj_up_at (fun q hq hq2 => ?_) (fun q hq => ?_) (fun x hx => ?_) (s1.tr (sm.up (by omega) (by omega)))
      · by_cases hqk : q = k + 1
        · subst hqk; exact upd_at
        · rw [upd_off (by omega)]; exact g1 q (by omega) hq2
      · rw [upd_off (by omega)]; exact g2 q (by omega)
      · rw [upd_off (by omega)]; exact g3 x hx
  rw [en_99]
  simp only [x_99_0, x_99_1, x_99_4, x_99_5, x_99_6, mw_nx, mw_no, mw_ite, mw_call, mw_ret, mw_cst, mw_ii, mw_i1, mw_ll, mw_l1, mw_li, mw_i2l, mw_l2i, mw_lcm, mw_if, mw_ic, mw_ifnN, mw_ifnR, mw_go, mw_dupi, mw_dupr, mw_popi, mw_popr, mw_nw, mw_rti, mw_rtl, mw_rtr, mw_rtn, mw_rtv, mw_rt0, mw_rt1, mj_ild, mj_lld, mj_ald, mj_ist, mj_lst, mj_ast, mj_inc, mj_iz, mj_get, mj_put, mj_len, mj_iar, mj_aar, mj_iaw, mj_aaw, mj_ivs, mj_ivv, mj_ivi, mj_ob, mj_tk, mj_cat, mj_st1, mj_st2, mj_clr, mj_nwi, mj_nwq, List.getElem?_cons_zero, List.getElem?_cons_succ, List.length_cons, List.length_nil, List.set_cons_zero, List.set_cons_succ, Value.category, decide_eq_true_eq, List.map_cons, List.map_nil, List.sum_cons, List.sum_nil, Option.toList, List.cons_append, List.nil_append, ite_true, ite_false, if_true, if_false, reduceCtorEq, true_and, and_true, narrow_i, narrow_l, narrow_r, narrow_n, fits_i, fits_l, fits_ro, fits_ra, fits_no, fits_na, Nat.reduceAdd, Nat.reduceLT, Nat.reduceLeDiff, Nat.reduceEqDiff, Nat.reduceSub, zero_add0, true_or, or_true, false_or, or_false, not_true_eq_false, not_false_eq_true, eq_self, i10, i01, im0, im1, h, r2, at_0, i0, i1, i2, a2]
  exact key r.length (p ++ r).length fl hp (by omega) (Nat.le_refl _) r1 r2 r3 (fun q h1 h2 => absurd h2 (by omega)) (fun q _ => rfl) (fun x _ => rfl) sm.rf
end MC
