/-! The reference: what is RIGHT -/
theorem cp_up {p q : Nat → Bool} {x : Nat} (h : ∀ y, y ≠ x → p y = q y) (hp : p x = false) (hq : q x = true) : ∀ l : List Nat, l.countP p ≤ l.countP q ∧ (x ∈ l → l.countP p + 1 ≤ l.countP q) := by
  intro l
  induction l with
  | nil => exact ⟨Nat.le_refl _, fun q => absurd q List.not_mem_nil⟩
  | cons y l ih =>
    rw [List.countP_cons, List.countP_cons]
    by_cases hy : y = x
    · subst hy
      rw [hp, hq]
      simp only [if_true]
      have := ih.1
      exact ⟨by simp; omega, fun _ => by simp; omega⟩
    · rw [h y hy]
      refine ⟨by have := ih.1; omega, fun hm => ?_⟩
      rcases List.mem_cons.mp hm with z | z
      · exact absurd z.symm hy
      · have := ih.2 z; omega
def cnt (fh : Nat → Int32) : Nat := (List.range 128).countP (fun x => decide (fh x = 1))
theorem cnt_le (fh : Nat → Int32) : cnt fh ≤ 128 := by
  unfold cnt
  have := List.countP_le_length (p := fun x => decide (fh x = 1)) (l := List.range 128)
  simpa using this
theorem cnt_upd {fh : Nat → Int32} {x : Nat} (hx : x < 128) (h : ¬ fh x = 1) : cnt fh + 1 ≤ cnt (upd fh x 1) := by
  unfold cnt
  refine (cp_up (x := x) (fun y hy => ?_) (decide_eq_false h) (decide_eq_true upd_at) _).2 (List.mem_range.mpr hx)
  rw [upd_off hy]
theorem un_lt2 {y n : Nat} (h : y < 2 * n) : un_neg y < 2 * n := by
  unfold un_neg
  split <;> omega
def hx (fh : Nat → Int32) (n x : Nat) : Prop := x < 2 * n ∧ fh x = 1
theorem i2n1 : ((-1 : Int32) = -2) = False := by decide
theorem ineg1 : ((-1 : Int32) < 0) = True := by decide
section MR
variable {hp : mj_H} {Q : mj_Q} {M n ln cm ul : Nat} {a b t : Int32} {C : Nat → sp_Ln}
theorem m_leadsTo {fh : Nat → Int32} (h : hp.1 M = some (mo_o M n ln cm ul a b t)) (hr : rows hp M C) {i : Nat} (hi : i < 160) (hh : hp.1 (M + 6) = some (mz 128 fh)) (h01 : ∀ x, x < 128 → fh x = 0 ∨ fh x = 1)
    (hd : (∀ y ∈ (C i).2, fh (un_neg y) = 1) → Q (some (.int (-2))) hp)
    (hu : ∀ x, x ∈ (C i).2 → ¬ fh x = 1 → (∀ y ∈ (C i).2, y ≠ x → fh (un_neg y) = 1) → ¬ fh (un_neg x) = 1 → Q (some (.int (nI x))) hp)
    (hq : st_quiet (fun x => fh x = 1) (C i).2 → Q (some (.int (-1))) hp) : mj_call 88 [.ref M, .int (nI i)] hp Q := by
  obtain ⟨fk, fm, fl, r1, r2, r3, r4⟩ := hr
  obtain ⟨a1, a2, a3, a4, a5⟩ := r4 i hi
  have hlen := ln_len a4
  have i0 : ¬ nI i < 0 := nI_pos (by omega)
  have i1 : (nI i).toNatClampNeg = i := nI_clamp (by omega)
  have i2 : ¬ 160 ≤ i := by omega
  have key : ∀ (rest done : List Nat) (ov : Int32) (cn : Nat) (o5 : Option Value), (C i).2 = done ++ rest → cn = (done.filter (fun y => decide (¬ fh (un_neg y) = 1))).length → (∀ x, done.filter (fun y => decide (¬ fh (un_neg y) = 1)) = [x] → ov = nI x) → (∀ y ∈ done, ¬ fh (un_neg y) = 1 → ¬ fh y = 1) → mj_wp 88 7 [some (.ref M), some (.int (nI i)), some (.int ov), some (.int (nI cn)), some (.int (nI done.length)), o5] [] hp Q := by
    intro rest
    induction rest with
    | nil =>
      intro done ov cn o5 hdn hcn hov hno
      rw [List.append_nil] at hdn
      have e1 : nI (C i).2.length ≤ nI done.length := by rw [hdn]; exact nI_le (Nat.le_refl _) (by rw [hdn] at hlen; omega)
      have hcl : cn ≤ 128 := by
        rw [hcn]
        have := List.length_filter_le (fun y => decide (¬ fh (un_neg y) = 1)) done
        rw [hdn] at hlen; omega
      have e2 : (nI cn = 0) = (cn = 0) := propext (nI_eq (b := 0) (by omega) (by omega))
      have e3 : (nI cn = 1) = (cn = 1) := propext (nI_eq (b := 1) (by omega) (by omega))
      rw [x_88_7]
      generalize hos : done.filter (fun y => decide (¬ fh (un_neg y) = 1)) = os at hcn hov
      have hmem : ∀ y, y ∈ os ↔ y ∈ done ∧ ¬ fh (un_neg y) = 1 := by
        intro y; rw [← hos, List.mem_filter, decide_eq_true_eq]
      rcases os with _ | ⟨x, _ | ⟨y, r⟩⟩
      · have q1 : (cn = 0) = True := eq_true (by rw [hcn]; rfl)
        simp only [x_88_9, x_88_10, x_88_13, x_88_14, x_88_15, x_88_69, x_88_70, x_88_73, x_88_75, x_88_78, x_88_79, x_88_80, x_88_83, x_88_84, x_88_87, x_88_88, mw_nx, mw_no, mw_ite, mw_call, mw_ret, mw_cst, mw_ii, mw_i1, mw_ll, mw_l1, mw_li, mw_i2l, mw_l2i, mw_lcm, mw_if, mw_ic, mw_ifnN, mw_ifnR, mw_go, mw_dupi, mw_dupr, mw_popi, mw_popr, mw_nw, mw_rti, mw_rtl, mw_rtr, mw_rtn, mw_rtv, mw_rt0, mw_rt1, mj_ild, mj_lld, mj_ald, mj_ist, mj_lst, mj_ast, mj_inc, mj_iz, mj_get, mj_put, mj_len, mj_iar, mj_aar, mj_iaw, mj_aaw, mj_ivs, mj_ivv, mj_ivi, mj_ob, mj_tk, mj_cat, mj_st1, mj_st2, mj_clr, mj_nwi, mj_nwq, List.getElem?_cons_zero, List.getElem?_cons_succ, List.length_cons, List.length_nil, List.set_cons_zero, List.set_cons_succ, Value.category, decide_eq_true_eq, List.map_cons, List.map_nil, List.sum_cons, List.sum_nil, Option.toList, List.cons_append, List.nil_append, ite_true, ite_false, if_true, if_false, reduceCtorEq, true_and, and_true, narrow_i, narrow_l, narrow_r, narrow_n, fits_i, fits_l, fits_ro, fits_ra, fits_no, fits_na, Nat.reduceAdd, Nat.reduceLT, Nat.reduceLeDiff, Nat.reduceEqDiff, Nat.reduceSub, zero_add0, true_or, or_true, false_or, or_false, not_true_eq_false, not_false_eq_true, eq_self, i10, i01, im0, im1, h, r2, at_0, i0, i1, i2, a2, e1, e2, q1]
        refine hd (fun y hy => ?_)
        rw [hdn] at hy
        by_cases w : fh (un_neg y) = 1
        · exact w
        · exact absurd ((hmem y).mpr ⟨hy, w⟩) List.not_mem_nil
      · have q1 : (cn = 0) = False := eq_false (by rw [hcn]; simp)
        have q2 : (cn = 1) = True := eq_true (by rw [hcn]; rfl)
        simp only [x_88_9, x_88_10, x_88_13, x_88_14, x_88_15, x_88_69, x_88_70, x_88_73, x_88_75, x_88_78, x_88_79, x_88_80, x_88_83, x_88_84, x_88_87, x_88_88, mw_nx, mw_no, mw_ite, mw_call, mw_ret, mw_cst, mw_ii, mw_i1, mw_ll, mw_l1, mw_li, mw_i2l, mw_l2i, mw_lcm, mw_if, mw_ic, mw_ifnN, mw_ifnR, mw_go, mw_dupi, mw_dupr, mw_popi, mw_popr, mw_nw, mw_rti, mw_rtl, mw_rtr, mw_rtn, mw_rtv, mw_rt0, mw_rt1, mj_ild, mj_lld, mj_ald, mj_ist, mj_lst, mj_ast, mj_inc, mj_iz, mj_get, mj_put, mj_len, mj_iar, mj_aar, mj_iaw, mj_aaw, mj_ivs, mj_ivv, mj_ivi, mj_ob, mj_tk, mj_cat, mj_st1, mj_st2, mj_clr, mj_nwi, mj_nwq, List.getElem?_cons_zero, List.getElem?_cons_succ, List.length_cons, List.length_nil, List.set_cons_zero, List.set_cons_succ, Value.category, decide_eq_true_eq, List.map_cons, List.map_nil, List.sum_cons, List.sum_nil, Option.toList, List.cons_append, List.nil_append, ite_true, ite_false, if_true, if_false, reduceCtorEq, true_and, and_true, narrow_i, narrow_l, narrow_r, narrow_n, fits_i, fits_l, fits_ro, fits_ra, fits_no, fits_na, Nat.reduceAdd, Nat.reduceLT, Nat.reduceLeDiff, Nat.reduceEqDiff, Nat.reduceSub, zero_add0, true_or, or_true, false_or, or_false, not_true_eq_false, not_false_eq_true, eq_self, i10, i01, im0, im1, h, r2, at_0, i0, i1, i2, a2, e1, e2, q1, e3, q2]
        rw [hov x rfl]
        have hx1 := (hmem x).mp (List.mem_singleton.mpr rfl)
        refine hu x (by rw [hdn]; exact hx1.1) (hno x hx1.1 hx1.2) (fun y hy hne => ?_) hx1.2
        rw [hdn] at hy
        by_cases w : fh (un_neg y) = 1
        · exact w
        · exact absurd (List.mem_singleton.mp ((hmem y).mpr ⟨hy, w⟩)) hne
      · have q1 : (cn = 0) = False := eq_false (by rw [hcn]; simp)
        have q2 : (cn = 1) = False := eq_false (by rw [hcn]; simp)
        simp only [x_88_9, x_88_10, x_88_13, x_88_14, x_88_15, x_88_69, x_88_70, x_88_73, x_88_75, x_88_78, x_88_79, x_88_80, x_88_83, x_88_84, x_88_87, x_88_88, mw_nx, mw_no, mw_ite, mw_call, mw_ret, mw_cst, mw_ii, mw_i1, mw_ll, mw_l1, mw_li, mw_i2l, mw_l2i, mw_lcm, mw_if, mw_ic, mw_ifnN, mw_ifnR, mw_go, mw_dupi, mw_dupr, mw_popi, mw_popr, mw_nw, mw_rti, mw_rtl, mw_rtr, mw_rtn, mw_rtv, mw_rt0, mw_rt1, mj_ild, mj_lld, mj_ald, mj_ist, mj_lst, mj_ast, mj_inc, mj_iz, mj_get, mj_put, mj_len, mj_iar, mj_aar, mj_iaw, mj_aaw, mj_ivs, mj_ivv, mj_ivi, mj_ob, mj_tk, mj_cat, mj_st1, mj_st2, mj_clr, mj_nwi, mj_nwq, List.getElem?_cons_zero, List.getElem?_cons_succ, List.length_cons, List.length_nil, List.set_cons_zero, List.set_cons_succ, Value.category, decide_eq_true_eq, List.map_cons, List.map_nil, List.sum_cons, List.sum_nil, Option.toList, List.cons_append, List.nil_append, ite_true, ite_false, if_true, if_false, reduceCtorEq, true_and, and_true, narrow_i, narrow_l, narrow_r, narrow_n, fits_i, fits_l, fits_ro, fits_ra, fits_no, fits_na, Nat.reduceAdd, Nat.reduceLT, Nat.reduceLeDiff, Nat.reduceEqDiff, Nat.reduceSub, zero_add0, true_or, or_true, false_or, or_false, not_true_eq_false, not_false_eq_true, eq_self, i10, i01, im0, im1, h, r2, at_0, i0, i1, i2, a2, e1, e2, q1, e3, q2]
        have hnd : (x :: y :: r).Nodup := by rw [← hos, ← hdn]; exact a4.1.filter _
        have hxy : x ≠ y := by
          have := (List.nodup_cons.mp hnd).1
          intro e; exact this (by rw [e]; exact List.mem_cons_self)
        have hx1 := (hmem x).mp List.mem_cons_self
        have hy1 := (hmem y).mp (List.mem_cons_of_mem _ List.mem_cons_self)
        refine hq ⟨fun q => hx1.2 (q x (by rw [hdn]; exact hx1.1)), fun x' hx' q => ?_⟩
        by_cases e : x = x'
        · exact absurd (q y (by rw [hdn]; exact hy1.1) (fun z => hxy (e.trans z.symm))) hy1.2
        · exact absurd (q x (by rw [hdn]; exact hx1.1) e) hx1.2
    | cons c rest ih =>
      intro done ov cn o5 hdn hcn hov hno
      have hlt : done.length < (C i).2.length := by rw [hdn]; simp
      have hc : (C i).2.getD done.length 0 = c := by rw [hdn]; simp [List.getD_eq_getElem?_getD]
      have hc2 : c < 128 := a4.2 c (by rw [hdn]; simp)
      have hn2 := un_lt c hc2
      have e1 : ¬ nI (C i).2.length ≤ nI done.length := nI_ge hlt (by omega)
      have j0 : ¬ nI (128 * i + done.length) < 0 := nI_pos (by omega)
      have j1 : (nI (128 * i + done.length)).toNatClampNeg = 128 * i + done.length := nI_clamp (by omega)
      have j2 : ¬ 20480 ≤ 128 * i + done.length := by omega
      have e2 : fl (128 * i + done.length) = nI c := by rw [a3 _ hlt, hc]
      have k0 : ¬ nI (un_neg c) < 0 := nI_pos (by omega)
      have k1 : (nI (un_neg c)).toNatClampNeg = un_neg c := nI_clamp (by omega)
      have k2 : ¬ 128 ≤ un_neg c := by omega
      have l0 : ¬ nI c < 0 := nI_pos (by omega)
      have l1 : (nI c).toNatClampNeg = c := nI_clamp (by omega)
      have l2 : ¬ 128 ≤ c := by omega
      rw [x_88_7]
      by_cases w : fh (un_neg c) = 1
      · simp only [x_88_9, x_88_10, x_88_13, x_88_14, x_88_15, x_88_18, x_88_19, x_88_22, x_88_25, x_88_26, x_88_27, x_88_29, x_88_30, x_88_31, x_88_33, x_88_34, x_88_37, x_88_39, x_88_40, x_88_41, x_88_42, x_88_45, x_88_46, x_88_49, x_88_51, x_88_52, x_88_55, x_88_56, x_88_57, x_88_59, x_88_60, x_88_63, x_88_66, mw_nx, mw_no, mw_ite, mw_call, mw_ret, mw_cst, mw_ii, mw_i1, mw_ll, mw_l1, mw_li, mw_i2l, mw_l2i, mw_lcm, mw_if, mw_ic, mw_ifnN, mw_ifnR, mw_go, mw_dupi, mw_dupr, mw_popi, mw_popr, mw_nw, mw_rti, mw_rtl, mw_rtr, mw_rtn, mw_rtv, mw_rt0, mw_rt1, mj_ild, mj_lld, mj_ald, mj_ist, mj_lst, mj_ast, mj_inc, mj_iz, mj_get, mj_put, mj_len, mj_iar, mj_aar, mj_iaw, mj_aaw, mj_ivs, mj_ivv, mj_ivi, mj_ob, mj_tk, mj_cat, mj_st1, mj_st2, mj_clr, mj_nwi, mj_nwq, List.getElem?_cons_zero, List.getElem?_cons_succ, List.length_cons, List.length_nil, List.set_cons_zero, List.set_cons_succ, Value.category, decide_eq_true_eq, List.map_cons, List.map_nil, List.sum_cons, List.sum_nil, Option.toList, List.cons_append, List.nil_append, ite_true, ite_false, if_true, if_false, reduceCtorEq, true_and, and_true, narrow_i, narrow_l, narrow_r, narrow_n, fits_i, fits_l, fits_ro, fits_ra, fits_no, fits_na, Nat.reduceAdd, Nat.reduceLT, Nat.reduceLeDiff, Nat.reduceEqDiff, Nat.reduceSub, zero_add0, true_or, or_true, false_or, or_false, not_true_eq_false, not_false_eq_true, eq_self, i10, i01, im0, im1, h, r2, r3, at_0, i0, i1, i2, a2, e1, ix128, j0, j1, j2, e2, hh, at_1, un_xor c hc2, k0, k1, k2, w, nI_1]
        have hf : (done ++ [c]).filter (fun y => decide (¬ fh (un_neg y) = 1)) = done.filter (fun y => decide (¬ fh (un_neg y) = 1)) := by
          rw [List.filter_append, List.filter_cons, List.filter_nil]
          simp [w]
        have := ih (done ++ [c]) ov cn (some (.int (nI c))) (by rw [hdn]; simp) (by rw [hf]; exact hcn) (by rw [hf]; exact hov) (by
          intro y hy hyn
          rcases List.mem_append.mp hy with z | z
          · exact hno y z hyn
          · rw [List.mem_singleton] at z; rw [z] at hyn; exact absurd w hyn)
        simpa using this
      · have w0 : fh (un_neg c) = 0 := by rcases h01 _ hn2 with z | z; exact z; exact absurd z w
        by_cases w1 : fh c = 1
        · simp only [x_88_9, x_88_10, x_88_13, x_88_14, x_88_15, x_88_18, x_88_19, x_88_22, x_88_25, x_88_26, x_88_27, x_88_29, x_88_30, x_88_31, x_88_33, x_88_34, x_88_37, x_88_39, x_88_40, x_88_41, x_88_42, x_88_45, x_88_46, x_88_49, x_88_51, x_88_52, x_88_55, x_88_56, mw_nx, mw_no, mw_ite, mw_call, mw_ret, mw_cst, mw_ii, mw_i1, mw_ll, mw_l1, mw_li, mw_i2l, mw_l2i, mw_lcm, mw_if, mw_ic, mw_ifnN, mw_ifnR, mw_go, mw_dupi, mw_dupr, mw_popi, mw_popr, mw_nw, mw_rti, mw_rtl, mw_rtr, mw_rtn, mw_rtv, mw_rt0, mw_rt1, mj_ild, mj_lld, mj_ald, mj_ist, mj_lst, mj_ast, mj_inc, mj_iz, mj_get, mj_put, mj_len, mj_iar, mj_aar, mj_iaw, mj_aaw, mj_ivs, mj_ivv, mj_ivi, mj_ob, mj_tk, mj_cat, mj_st1, mj_st2, mj_clr, mj_nwi, mj_nwq, List.getElem?_cons_zero, List.getElem?_cons_succ, List.length_cons, List.length_nil, List.set_cons_zero, List.set_cons_succ, Value.category, decide_eq_true_eq, List.map_cons, List.map_nil, List.sum_cons, List.sum_nil, Option.toList, List.cons_append, List.nil_append, ite_true, ite_false, if_true, if_false, reduceCtorEq, true_and, and_true, narrow_i, narrow_l, narrow_r, narrow_n, fits_i, fits_l, fits_ro, fits_ra, fits_no, fits_na, Nat.reduceAdd, Nat.reduceLT, Nat.reduceLeDiff, Nat.reduceEqDiff, Nat.reduceSub, zero_add0, true_or, or_true, false_or, or_false, not_true_eq_false, not_false_eq_true, eq_self, i10, i01, im0, im1, h, r2, r3, at_0, i0, i1, i2, a2, e1, ix128, j0, j1, j2, e2, hh, at_1, un_xor c hc2, k0, k1, k2, w0, l0, l1, l2, w1]
          have hcm : c ∈ (C i).2 := by rw [hdn]; simp
          refine hq ⟨fun q => w (q c hcm), fun x' hx' q => ?_⟩
          by_cases e : c = x'
          · rw [← e]; exact w1
          · exact absurd (q c hcm e) w
        · have w10 : fh c = 0 := by rcases h01 _ hc2 with z | z; exact z; exact absurd z w1
          simp only [x_88_9, x_88_10, x_88_13, x_88_14, x_88_15, x_88_18, x_88_19, x_88_22, x_88_25, x_88_26, x_88_27, x_88_29, x_88_30, x_88_31, x_88_33, x_88_34, x_88_37, x_88_39, x_88_40, x_88_41, x_88_42, x_88_45, x_88_46, x_88_49, x_88_51, x_88_52, x_88_55, x_88_56, x_88_57, x_88_59, x_88_60, x_88_63, x_88_66, mw_nx, mw_no, mw_ite, mw_call, mw_ret, mw_cst, mw_ii, mw_i1, mw_ll, mw_l1, mw_li, mw_i2l, mw_l2i, mw_lcm, mw_if, mw_ic, mw_ifnN, mw_ifnR, mw_go, mw_dupi, mw_dupr, mw_popi, mw_popr, mw_nw, mw_rti, mw_rtl, mw_rtr, mw_rtn, mw_rtv, mw_rt0, mw_rt1, mj_ild, mj_lld, mj_ald, mj_ist, mj_lst, mj_ast, mj_inc, mj_iz, mj_get, mj_put, mj_len, mj_iar, mj_aar, mj_iaw, mj_aaw, mj_ivs, mj_ivv, mj_ivi, mj_ob, mj_tk, mj_cat, mj_st1, mj_st2, mj_clr, mj_nwi, mj_nwq, List.getElem?_cons_zero, List.getElem?_cons_succ, List.length_cons, List.length_nil, List.set_cons_zero, List.set_cons_succ, Value.category, decide_eq_true_eq, List.map_cons, List.map_nil, List.sum_cons, List.sum_nil, Option.toList, List.cons_append, List.nil_append, ite_true, ite_false, if_true, if_false, reduceCtorEq, true_and, and_true, narrow_i, narrow_l, narrow_r, narrow_n, fits_i, fits_l, fits_ro, fits_ra, fits_no, fits_na, Nat.reduceAdd, Nat.reduceLT, Nat.reduceLeDiff, Nat.reduceEqDiff, Nat.reduceSub, zero_add0, true_or, or_true, false_or, or_false, not_true_eq_false, not_false_eq_true, eq_self, i10, i01, im0, im1, h, r2, r3, at_0, i0, i1, i2, a2, e1, ix128, j0, j1, j2, e2, hh, at_1, un_xor c hc2, k0, k1, k2, w0, l0, l1, l2, w10, nI_1]
          have hf : (done ++ [c]).filter (fun y => decide (¬ fh (un_neg y) = 1)) = done.filter (fun y => decide (¬ fh (un_neg y) = 1)) ++ [c] := by
            rw [List.filter_append, List.filter_cons, List.filter_nil]
            simp [w]
          have := ih (done ++ [c]) (nI c) (cn + 1) (some (.int (nI c))) (by rw [hdn]; simp) (by rw [hf, hcn]; simp) (by
            intro x hxe
            rw [hf] at hxe
            cases hfl : done.filter (fun y => decide (¬ fh (un_neg y) = 1)) with
            | nil => rw [hfl] at hxe; simp at hxe; rw [hxe]
            | cons y r => rw [hfl] at hxe; simp at hxe) (by
            intro y hy hyn
            rcases List.mem_append.mp hy with z | z
            · exact hno y z hyn
            · rw [List.mem_singleton] at z; rw [z]; exact w1)
          simpa using this
  rw [en_88]
  simp only [x_88_0, x_88_1, x_88_2, x_88_3, x_88_4, x_88_5, mw_nx, mw_no, mw_ite, mw_call, mw_ret, mw_cst, mw_ii, mw_i1, mw_ll, mw_l1, mw_li, mw_i2l, mw_l2i, mw_lcm, mw_if, mw_ic, mw_ifnN, mw_ifnR, mw_go, mw_dupi, mw_dupr, mw_popi, mw_popr, mw_nw, mw_rti, mw_rtl, mw_rtr, mw_rtn, mw_rtv, mw_rt0, mw_rt1, mj_ild, mj_lld, mj_ald, mj_ist, mj_lst, mj_ast, mj_inc, mj_iz, mj_get, mj_put, mj_len, mj_iar, mj_aar, mj_iaw, mj_aaw, mj_ivs, mj_ivv, mj_ivi, mj_ob, mj_tk, mj_cat, mj_st1, mj_st2, mj_clr, mj_nwi, mj_nwq, List.getElem?_cons_zero, List.getElem?_cons_succ, List.length_cons, List.length_nil, List.set_cons_zero, List.set_cons_succ, Value.category, decide_eq_true_eq, List.map_cons, List.map_nil, List.sum_cons, List.sum_nil, Option.toList, List.cons_append, List.nil_append, ite_true, ite_false, if_true, if_false, reduceCtorEq, true_and, and_true, narrow_i, narrow_l, narrow_r, narrow_n, fits_i, fits_l, fits_ro, fits_ra, fits_no, fits_na, Nat.reduceAdd, Nat.reduceLT, Nat.reduceLeDiff, Nat.reduceEqDiff, Nat.reduceSub, zero_add0, true_or, or_true, false_or, or_false, not_true_eq_false, not_false_eq_true, eq_self, i10, i01, im0, im1]
  exact key (C i).2 [] (-1) 0 none rfl rfl (fun x q => by cases q) (fun y hy => absurd hy List.not_mem_nil)
theorem m_clashes {fh0 : Nat → Int32} (h : hp.1 M = some (mo_o M n ln cm ul a b t)) (hr : rows hp M C) (hn : n ≤ 64) {ah : Nat} (hah : ah ≤ 80) (hcb : ∀ j, j < ah → ∀ c ∈ (C j).2, c < 2 * n) (hh : hp.1 (M + 6) = some (mz 128 fh0)) (h01 : ∀ x, x < 128 → fh0 x = 0 ∨ fh0 x = 1) {A : Nat → Prop} (hA : ∀ x, A x ↔ hx fh0 n x)
    (h1 : un_clash (sp_cls ((List.range ah).map C)) A → ∀ hp' : mj_H, sm hp hp' (M + 6) (M + 7) → (∃ fh, hp'.1 (M + 6) = some (mz 128 fh)) → Q (some (.int 1)) hp')
    (h0 : ¬ un_clash (sp_cls ((List.range ah).map C)) A → ∀ hp' : mj_H, sm hp hp' (M + 6) (M + 7) → (∃ fh, hp'.1 (M + 6) = some (mz 128 fh)) → Q (some (.int 0)) hp') : mj_call 89 [.ref M, .int (nI ah)] hp Q := by
  generalize hCs : sp_cls ((List.range ah).map C) = Cs at h1 h0
  have hin : ∀ j, j < ah → ¬ (C j).1 = 3 → (C j).2 ∈ Cs := fun j hj h3 => by
    rw [← hCs]; exact sp_cls_mem.mpr ⟨C j, rm_mem.mpr ⟨j, hj, rfl⟩, h3, rfl⟩
  have hout : ∀ X, X ∈ Cs → ∃ j, j < ah ∧ ¬ (C j).1 = 3 ∧ X = (C j).2 := fun X hX => by
    rw [← hCs] at hX
    obtain ⟨l, hl, h3, rfl⟩ := sp_cls_mem.mp hX
    obtain ⟨j, hj, rfl⟩ := rm_mem.mp hl
    exact ⟨j, hj, h3, rfl⟩
  have outer : ∀ (d : Nat) (fh : Nat → Int32) (hp1 : mj_H) (o3 o4 : Option Value), 129 ≤ cnt fh + d → hp1.1 (M + 6) = some (mz 128 fh) → sm hp hp1 (M + 6) (M + 7) → (∀ x, x < 128 → fh x = 0 ∨ fh x = 1) → (∀ x, A x → hx fh n x) → (∀ x, hx fh n x → un_cl Cs A x) → mj_wp 89 2 [some (.ref M), some (.int (nI ah)), some (.int 1), o3, o4] [] hp1 Q := by
    intro d
    induction d with
    | zero => intro fh hp1 o3 o4 hc; have := cnt_le fh; omega
    | succ d ih =>
      intro fh hp1 o3 o4 hcn hh1 s1 f01 i1 i2
      have ho1 : hp1.1 M = some (mo_o M n ln cm ul a b t) := (s1.2 _ (by omega)).trans h
      have inner : (∀ x, ¬ (hx fh n x ∧ hx fh n (un_neg x))) → ∀ (e i : Nat) (fh1 : Nat → Int32) (hp2 : mj_H) (more : Int32) (o4 : Option Value), i + e = ah → hp2.1 (M + 6) = some (mz 128 fh1) → sm hp hp2 (M + 6) (M + 7) → (∀ x, x < 128 → fh1 x = 0 ∨ fh1 x = 1) → (∀ x, A x → hx fh1 n x) → (∀ x, hx fh1 n x → un_cl Cs A x) → (more = 0 ∨ more = 1) → (more = 0 → fh1 = fh ∧ ∀ j, j < i → ¬ (C j).1 = 3 → st_quiet (fun x => fh x = 1) (C j).2) → (more = 1 → cnt fh + 1 ≤ cnt fh1) → mj_wp 89 52 [some (.ref M), some (.int (nI ah)), some (.int more), some (.int (nI i)), o4] [] hp2 Q := by
        intro hcons e
        induction e with
        | zero =>
          intro i fh1 hp2 more o4 hi hh2 s2 g01 k1 k2 hm hm0 hm1
          obtain rfl : i = ah := by omega
          have e1 : nI i ≤ nI i := nI_le (Nat.le_refl _) (by omega)
          rw [x_89_52]
          rcases hm with rfl | rfl
          · simp only [x_89_2, x_89_3, x_89_53, x_89_54, x_89_108, x_89_111, x_89_112, mw_nx, mw_no, mw_ite, mw_call, mw_ret, mw_cst, mw_ii, mw_i1, mw_ll, mw_l1, mw_li, mw_i2l, mw_l2i, mw_lcm, mw_if, mw_ic, mw_ifnN, mw_ifnR, mw_go, mw_dupi, mw_dupr, mw_popi, mw_popr, mw_nw, mw_rti, mw_rtl, mw_rtr, mw_rtn, mw_rtv, mw_rt0, mw_rt1, mj_ild, mj_lld, mj_ald, mj_ist, mj_lst, mj_ast, mj_inc, mj_iz, mj_get, mj_put, mj_len, mj_iar, mj_aar, mj_iaw, mj_aaw, mj_ivs, mj_ivv, mj_ivi, mj_ob, mj_tk, mj_cat, mj_st1, mj_st2, mj_clr, mj_nwi, mj_nwq, List.getElem?_cons_zero, List.getElem?_cons_succ, List.length_cons, List.length_nil, List.set_cons_zero, List.set_cons_succ, Value.category, decide_eq_true_eq, List.map_cons, List.map_nil, List.sum_cons, List.sum_nil, Option.toList, List.cons_append, List.nil_append, ite_true, ite_false, if_true, if_false, reduceCtorEq, true_and, and_true, narrow_i, narrow_l, narrow_r, narrow_n, fits_i, fits_l, fits_ro, fits_ra, fits_no, fits_na, Nat.reduceAdd, Nat.reduceLT, Nat.reduceLeDiff, Nat.reduceEqDiff, Nat.reduceSub, zero_add0, true_or, or_true, false_or, or_false, not_true_eq_false, not_false_eq_true, eq_self, i10, i01, im0, im1, e1]
            obtain ⟨rfl, hqu⟩ := hm0 rfl
            refine h0 ?_ hp2 s2 ⟨_, hh2⟩
            refine un_done k1 hcons (fun X hX => ?_) (fun X hX => ?_)
            · obtain ⟨j, q1, q2, rfl⟩ := hout X hX
              exact fun q => (hqu j q1 q2).1 (fun y hy => (q y hy).2)
            · obtain ⟨j, q1, q2, rfl⟩ := hout X hX
              intro x hxm q
              exact ⟨hcb j q1 x hxm, (hqu j q1 q2).2 x hxm (fun y hy hne => (q y hy hne).2)⟩
          · simp only [x_89_53, x_89_54, x_89_108, mw_nx, mw_no, mw_ite, mw_call, mw_ret, mw_cst, mw_ii, mw_i1, mw_ll, mw_l1, mw_li, mw_i2l, mw_l2i, mw_lcm, mw_if, mw_ic, mw_ifnN, mw_ifnR, mw_go, mw_dupi, mw_dupr, mw_popi, mw_popr, mw_nw, mw_rti, mw_rtl, mw_rtr, mw_rtn, mw_rtv, mw_rt0, mw_rt1, mj_ild, mj_lld, mj_ald, mj_ist, mj_lst, mj_ast, mj_inc, mj_iz, mj_get, mj_put, mj_len, mj_iar, mj_aar, mj_iaw, mj_aaw, mj_ivs, mj_ivv, mj_ivi, mj_ob, mj_tk, mj_cat, mj_st1, mj_st2, mj_clr, mj_nwi, mj_nwq, List.getElem?_cons_zero, List.getElem?_cons_succ, List.length_cons, List.length_nil, List.set_cons_zero, List.set_cons_succ, Value.category, decide_eq_true_eq, List.map_cons, List.map_nil, List.sum_cons, List.sum_nil, Option.toList, List.cons_append, List.nil_append, ite_true, ite_false, if_true, if_false, reduceCtorEq, true_and, and_true, narrow_i, narrow_l, narrow_r, narrow_n, fits_i, fits_l, fits_ro, fits_ra, fits_no, fits_na, Nat.reduceAdd, Nat.reduceLT, Nat.reduceLeDiff, Nat.reduceEqDiff, Nat.reduceSub, zero_add0, true_or, or_true, false_or, or_false, not_true_eq_false, not_false_eq_true, eq_self, i10, i01, im0, im1, e1]
            exact ih fh1 hp2 _ _ (by have := hm1 rfl; omega) hh2 s2 g01 k1 k2
        | succ e ih2 =>
          intro i fh1 hp2 more o4 hi hh2 s2 g01 k1 k2 hm hm0 hm1
          have ho2 : hp2.1 M = some (mo_o M n ln cm ul a b t) := (s2.2 _ (by omega)).trans h
          have hr2 : rows hp2 M C := hr.keep (s2.2 _ (by omega)) (s2.2 _ (by omega)) (s2.2 _ (by omega))
          have hr3 := hr2
          obtain ⟨fk, fm, fl, r1, r2, r3, r4⟩ := hr3
          obtain ⟨a1, a2, a3, a4, a5⟩ := r4 i (by omega)
          have e1 : ¬ nI ah ≤ nI i := nI_ge (by omega) (by omega)
          have z0 : ¬ nI i < 0 := nI_pos (by omega)
          have z1 : (nI i).toNatClampNeg = i := nI_clamp (by omega)
          have z2 : ¬ 160 ≤ i := by omega
          have e3 : (nI (C i).1 = 3) = ((C i).1 = 3) := propext (nI_eq (b := 3) (by omega) (by omega))
          have skip : ((C i).1 = 3 ∨ st_quiet (fun x => fh1 x = 1) (C i).2) → ∀ o4 : Option Value, mj_wp 89 52 [some (.ref M), some (.int (nI ah)), some (.int more), some (.int (nI (i + 1))), o4] [] hp2 Q := by
            intro hsk o4
            refine ih2 (i + 1) fh1 hp2 more o4 (by omega) hh2 s2 g01 k1 k2 hm (fun q => ?_) hm1
            obtain ⟨rfl, hqu⟩ := hm0 q
            refine ⟨rfl, fun j hj hj3 => ?_⟩
            by_cases hji : j = i
            · subst hji
              rcases hsk with z | z
              · exact absurd z hj3
              · exact z
            · exact hqu j (by omega) hj3
          rw [x_89_52]
          by_cases w3 : (C i).1 = 3
          · have q3 := eq_true w3
            simp only [x_89_53, x_89_54, x_89_57, x_89_58, x_89_61, x_89_62, x_89_63, x_89_64, x_89_67, x_89_68, x_89_71, x_89_72, x_89_73, x_89_76, x_89_78, x_89_80, x_89_82, x_89_85, x_89_86, x_89_87, x_89_89, x_89_92, x_89_93, x_89_96, x_89_98, x_89_99, x_89_100, x_89_101, x_89_102, x_89_105, mw_nx, mw_no, mw_ite, mw_call, mw_ret, mw_cst, mw_ii, mw_i1, mw_ll, mw_l1, mw_li, mw_i2l, mw_l2i, mw_lcm, mw_if, mw_ic, mw_ifnN, mw_ifnR, mw_go, mw_dupi, mw_dupr, mw_popi, mw_popr, mw_nw, mw_rti, mw_rtl, mw_rtr, mw_rtn, mw_rtv, mw_rt0, mw_rt1, mj_ild, mj_lld, mj_ald, mj_ist, mj_lst, mj_ast, mj_inc, mj_iz, mj_get, mj_put, mj_len, mj_iar, mj_aar, mj_iaw, mj_aaw, mj_ivs, mj_ivv, mj_ivi, mj_ob, mj_tk, mj_cat, mj_st1, mj_st2, mj_clr, mj_nwi, mj_nwq, List.getElem?_cons_zero, List.getElem?_cons_succ, List.length_cons, List.length_nil, List.set_cons_zero, List.set_cons_succ, Value.category, decide_eq_true_eq, List.map_cons, List.map_nil, List.sum_cons, List.sum_nil, Option.toList, List.cons_append, List.nil_append, ite_true, ite_false, if_true, if_false, reduceCtorEq, true_and, and_true, narrow_i, narrow_l, narrow_r, narrow_n, fits_i, fits_l, fits_ro, fits_ra, fits_no, fits_na, Nat.reduceAdd, Nat.reduceLT, Nat.reduceLeDiff, Nat.reduceEqDiff, Nat.reduceSub, zero_add0, true_or, or_true, false_or, or_false, not_true_eq_false, not_false_eq_true, eq_self, i10, i01, im0, im1, ho2, r1, at_0, z0, z1, z2, a1, e1, e3, q3, i2n1, ineg1, nI_1]
            exact skip (Or.inl w3) _
          · have q3 := eq_false w3
            simp only [x_89_53, x_89_54, x_89_57, x_89_58, x_89_61, x_89_62, x_89_63, x_89_64, x_89_67, x_89_68, x_89_71, x_89_72, x_89_73, mw_nx, mw_no, mw_ite, mw_call, mw_ret, mw_cst, mw_ii, mw_i1, mw_ll, mw_l1, mw_li, mw_i2l, mw_l2i, mw_lcm, mw_if, mw_ic, mw_ifnN, mw_ifnR, mw_go, mw_dupi, mw_dupr, mw_popi, mw_popr, mw_nw, mw_rti, mw_rtl, mw_rtr, mw_rtn, mw_rtv, mw_rt0, mw_rt1, mj_ild, mj_lld, mj_ald, mj_ist, mj_lst, mj_ast, mj_inc, mj_iz, mj_get, mj_put, mj_len, mj_iar, mj_aar, mj_iaw, mj_aaw, mj_ivs, mj_ivv, mj_ivi, mj_ob, mj_tk, mj_cat, mj_st1, mj_st2, mj_clr, mj_nwi, mj_nwq, List.getElem?_cons_zero, List.getElem?_cons_succ, List.length_cons, List.length_nil, List.set_cons_zero, List.set_cons_succ, Value.category, decide_eq_true_eq, List.map_cons, List.map_nil, List.sum_cons, List.sum_nil, Option.toList, List.cons_append, List.nil_append, ite_true, ite_false, if_true, if_false, reduceCtorEq, true_and, and_true, narrow_i, narrow_l, narrow_r, narrow_n, fits_i, fits_l, fits_ro, fits_ra, fits_no, fits_na, Nat.reduceAdd, Nat.reduceLT, Nat.reduceLeDiff, Nat.reduceEqDiff, Nat.reduceSub, zero_add0, true_or, or_true, false_or, or_false, not_true_eq_false, not_false_eq_true, eq_self, i10, i01, im0, im1, ho2, r1, at_0, z0, z1, z2, a1, e1, e3, q3]
            refine m_leadsTo ho2 hr2 (show i < 160 by omega) hh2 g01 (fun hdead => ?_) (fun x hxm hx0 hoth hxn => ?_) (fun hqu => ?_)
            · simp only [x_89_76, x_89_78, x_89_80, x_89_82, x_89_85, x_89_86, mw_nx, mw_no, mw_ite, mw_call, mw_ret, mw_cst, mw_ii, mw_i1, mw_ll, mw_l1, mw_li, mw_i2l, mw_l2i, mw_lcm, mw_if, mw_ic, mw_ifnN, mw_ifnR, mw_go, mw_dupi, mw_dupr, mw_popi, mw_popr, mw_nw, mw_rti, mw_rtl, mw_rtr, mw_rtn, mw_rtv, mw_rt0, mw_rt1, mj_ild, mj_lld, mj_ald, mj_ist, mj_lst, mj_ast, mj_inc, mj_iz, mj_get, mj_put, mj_len, mj_iar, mj_aar, mj_iaw, mj_aaw, mj_ivs, mj_ivv, mj_ivi, mj_ob, mj_tk, mj_cat, mj_st1, mj_st2, mj_clr, mj_nwi, mj_nwq, List.getElem?_cons_zero, List.getElem?_cons_succ, List.length_cons, List.length_nil, List.set_cons_zero, List.set_cons_succ, Value.category, decide_eq_true_eq, List.map_cons, List.map_nil, List.sum_cons, List.sum_nil, Option.toList, List.cons_append, List.nil_append, ite_true, ite_false, if_true, if_false, reduceCtorEq, true_and, and_true, narrow_i, narrow_l, narrow_r, narrow_n, fits_i, fits_l, fits_ro, fits_ra, fits_no, fits_na, Nat.reduceAdd, Nat.reduceLT, Nat.reduceLeDiff, Nat.reduceEqDiff, Nat.reduceSub, zero_add0, true_or, or_true, false_or, or_false, not_true_eq_false, not_false_eq_true, eq_self, i10, i01, im0, im1]
              refine h1 (un_dead k2 (hin i (by omega) w3) (fun y hy => ⟨un_lt2 (hcb i (by omega) y hy), hdead y hy⟩)) hp2 s2 ⟨_, hh2⟩
            · have hxlt := hcb i (by omega) x hxm
              have y0 : (nI x < 0) = False := eq_false (nI_pos (by omega))
              have y1 : (nI x).toNatClampNeg = x := nI_clamp (by omega)
              have y2 : ¬ 128 ≤ x := by omega
              have y3 : (nI x = -2) = False := eq_false (fun q => nI_pos (n := x) (by omega) (by rw [q]; decide))
              simp only [x_89_76, x_89_78, x_89_80, x_89_82, x_89_85, x_89_86, x_89_87, x_89_89, x_89_92, x_89_93, x_89_96, x_89_98, x_89_99, x_89_100, x_89_101, x_89_102, x_89_105, mw_nx, mw_no, mw_ite, mw_call, mw_ret, mw_cst, mw_ii, mw_i1, mw_ll, mw_l1, mw_li, mw_i2l, mw_l2i, mw_lcm, mw_if, mw_ic, mw_ifnN, mw_ifnR, mw_go, mw_dupi, mw_dupr, mw_popi, mw_popr, mw_nw, mw_rti, mw_rtl, mw_rtr, mw_rtn, mw_rtv, mw_rt0, mw_rt1, mj_ild, mj_lld, mj_ald, mj_ist, mj_lst, mj_ast, mj_inc, mj_iz, mj_get, mj_put, mj_len, mj_iar, mj_aar, mj_iaw, mj_aaw, mj_ivs, mj_ivv, mj_ivi, mj_ob, mj_tk, mj_cat, mj_st1, mj_st2, mj_clr, mj_nwi, mj_nwq, List.getElem?_cons_zero, List.getElem?_cons_succ, List.length_cons, List.length_nil, List.set_cons_zero, List.set_cons_succ, Value.category, decide_eq_true_eq, List.map_cons, List.map_nil, List.sum_cons, List.sum_nil, Option.toList, List.cons_append, List.nil_append, ite_true, ite_false, if_true, if_false, reduceCtorEq, true_and, and_true, narrow_i, narrow_l, narrow_r, narrow_n, fits_i, fits_l, fits_ro, fits_ra, fits_no, fits_na, Nat.reduceAdd, Nat.reduceLT, Nat.reduceLeDiff, Nat.reduceEqDiff, Nat.reduceSub, zero_add0, true_or, or_true, false_or, or_false, not_true_eq_false, not_false_eq_true, eq_self, i10, i01, im0, im1, y0, y1, y2, y3, ho2, hh2, at_1, nz1, nI_1]
              refine ih2 (i + 1) (upd fh1 x 1) _ 1 _ (by omega) mj_up_at (s2.tr (sm.up (by omega) (by omega))) (fun y hy => ?_) (fun y hy => ?_) (fun y hy => ?_) (Or.inr rfl) (fun q => absurd q (by decide)) (fun _ => ?_)
              · by_cases hyx : y = x
                · subst hyx; rw [upd_at]; exact Or.inr rfl
                · rw [upd_off hyx]; exact g01 y hy
              · obtain ⟨b1, b2⟩ := k1 y hy
                refine ⟨b1, ?_⟩
                by_cases hyx : y = x
                · subst hyx; rw [upd_at]
                · rw [upd_off hyx]; exact b2
              · by_cases hyx : y = x
                · subst hyx
                  exact un_cl_step (hin i (by omega) w3) hxm (fun z hz hne => k2 _ ⟨un_lt2 (hcb i (by omega) z hz), hoth z hz hne⟩)
                · obtain ⟨b1, b2⟩ := hy
                  rw [upd_off hyx] at b2
                  exact k2 y ⟨b1, b2⟩
              · have hup := cnt_upd (show x < 128 by omega) hx0
                rcases hm with rfl | rfl
                · obtain ⟨rfl, -⟩ := hm0 rfl; exact hup
                · have := hm1 rfl; omega
            · simp only [x_89_76, x_89_78, x_89_80, x_89_82, x_89_85, x_89_86, x_89_87, x_89_89, x_89_92, x_89_93, x_89_96, x_89_98, x_89_99, x_89_100, x_89_101, x_89_102, x_89_105, mw_nx, mw_no, mw_ite, mw_call, mw_ret, mw_cst, mw_ii, mw_i1, mw_ll, mw_l1, mw_li, mw_i2l, mw_l2i, mw_lcm, mw_if, mw_ic, mw_ifnN, mw_ifnR, mw_go, mw_dupi, mw_dupr, mw_popi, mw_popr, mw_nw, mw_rti, mw_rtl, mw_rtr, mw_rtn, mw_rtv, mw_rt0, mw_rt1, mj_ild, mj_lld, mj_ald, mj_ist, mj_lst, mj_ast, mj_inc, mj_iz, mj_get, mj_put, mj_len, mj_iar, mj_aar, mj_iaw, mj_aaw, mj_ivs, mj_ivv, mj_ivi, mj_ob, mj_tk, mj_cat, mj_st1, mj_st2, mj_clr, mj_nwi, mj_nwq, List.getElem?_cons_zero, List.getElem?_cons_succ, List.length_cons, List.length_nil, List.set_cons_zero, List.set_cons_succ, Value.category, decide_eq_true_eq, List.map_cons, List.map_nil, List.sum_cons, List.sum_nil, Option.toList, List.cons_append, List.nil_append, ite_true, ite_false, if_true, if_false, reduceCtorEq, true_and, and_true, narrow_i, narrow_l, narrow_r, narrow_n, fits_i, fits_l, fits_ro, fits_ra, fits_no, fits_na, Nat.reduceAdd, Nat.reduceLT, Nat.reduceLeDiff, Nat.reduceEqDiff, Nat.reduceSub, zero_add0, true_or, or_true, false_or, or_false, not_true_eq_false, not_false_eq_true, eq_self, i10, i01, im0, im1, i2n1, ineg1, nI_1]
              exact skip (Or.inr hqu) _
      have both : ∀ (e j : Nat), j + e = n → (∀ q, q < j → ¬ (fh (2 * q) = 1 ∧ fh (2 * q + 1) = 1)) → mj_wp 89 10 [some (.ref M), some (.int (nI ah)), some (.int 0), some (.int (nI j)), o4] [] hp1 Q := by
        intro e
        induction e with
        | zero =>
          intro j hj hno
          obtain rfl : j = n := by omega
          have e1 : nI j ≤ nI j := nI_le (Nat.le_refl _) (by omega)
          rw [x_89_10]
          simp only [x_89_11, x_89_12, x_89_15, x_89_50, x_89_51, mw_nx, mw_no, mw_ite, mw_call, mw_ret, mw_cst, mw_ii, mw_i1, mw_ll, mw_l1, mw_li, mw_i2l, mw_l2i, mw_lcm, mw_if, mw_ic, mw_ifnN, mw_ifnR, mw_go, mw_dupi, mw_dupr, mw_popi, mw_popr, mw_nw, mw_rti, mw_rtl, mw_rtr, mw_rtn, mw_rtv, mw_rt0, mw_rt1, mj_ild, mj_lld, mj_ald, mj_ist, mj_lst, mj_ast, mj_inc, mj_iz, mj_get, mj_put, mj_len, mj_iar, mj_aar, mj_iaw, mj_aaw, mj_ivs, mj_ivv, mj_ivi, mj_ob, mj_tk, mj_cat, mj_st1, mj_st2, mj_clr, mj_nwi, mj_nwq, List.getElem?_cons_zero, List.getElem?_cons_succ, List.length_cons, List.length_nil, List.set_cons_zero, List.set_cons_succ, Value.category, decide_eq_true_eq, List.map_cons, List.map_nil, List.sum_cons, List.sum_nil, Option.toList, List.cons_append, List.nil_append, ite_true, ite_false, if_true, if_false, reduceCtorEq, true_and, and_true, narrow_i, narrow_l, narrow_r, narrow_n, fits_i, fits_l, fits_ro, fits_ra, fits_no, fits_na, Nat.reduceAdd, Nat.reduceLT, Nat.reduceLeDiff, Nat.reduceEqDiff, Nat.reduceSub, zero_add0, true_or, or_true, false_or, or_false, not_true_eq_false, not_false_eq_true, eq_self, i10, i01, im0, im1, ho1, e1]
          refine inner (fun x => ?_) ah 0 fh hp1 0 o4 (by omega) hh1 s1 f01 i1 i2 (Or.inl rfl) (fun _ => ⟨rfl, fun q hq => absurd hq (by omega)⟩) (fun q => absurd q (by decide))
          rintro ⟨⟨q1, q2⟩, ⟨q3, q4⟩⟩
          unfold un_neg at q3 q4
          by_cases hx2 : x % 2 = 0
          · rw [if_pos hx2] at q4
            refine hno (x / 2) (by omega) ⟨?_, ?_⟩
            · rw [show 2 * (x / 2) = x by omega]; exact q2
            · rw [show 2 * (x / 2) + 1 = x + 1 by omega]; exact q4
          · rw [if_neg hx2] at q4
            refine hno (x / 2) (by omega) ⟨?_, ?_⟩
            · rw [show 2 * (x / 2) = x - 1 by omega]; exact q4
            · rw [show 2 * (x / 2) + 1 = x by omega]; exact q2
        | succ e ih2 =>
          intro j hj hno
          have e1 : ¬ nI n ≤ nI j := nI_ge (by omega) (by omega)
          have y0 : ¬ nI (2 * j) < 0 := nI_pos (by omega)
          have y1 : (nI (2 * j)).toNatClampNeg = 2 * j := nI_clamp (by omega)
          have y2 : ¬ 128 ≤ 2 * j := by omega
          have v0 : ¬ nI (2 * j + 1) < 0 := nI_pos (by omega)
          have v1 : (nI (2 * j + 1)).toNatClampNeg = 2 * j + 1 := nI_clamp (by omega)
          have v2 : ¬ 128 ≤ 2 * j + 1 := by omega
          rw [x_89_10]
          by_cases w : fh (2 * j) = 1
          · by_cases w2 : fh (2 * j + 1) = 1
            · simp only [x_89_11, x_89_12, x_89_15, x_89_18, x_89_19, x_89_22, x_89_23, x_89_24, x_89_25, x_89_26, x_89_29, x_89_30, x_89_33, x_89_34, x_89_35, x_89_36, x_89_37, x_89_38, x_89_39, x_89_42, x_89_43, mw_nx, mw_no, mw_ite, mw_call, mw_ret, mw_cst, mw_ii, mw_i1, mw_ll, mw_l1, mw_li, mw_i2l, mw_l2i, mw_lcm, mw_if, mw_ic, mw_ifnN, mw_ifnR, mw_go, mw_dupi, mw_dupr, mw_popi, mw_popr, mw_nw, mw_rti, mw_rtl, mw_rtr, mw_rtn, mw_rtv, mw_rt0, mw_rt1, mj_ild, mj_lld, mj_ald, mj_ist, mj_lst, mj_ast, mj_inc, mj_iz, mj_get, mj_put, mj_len, mj_iar, mj_aar, mj_iaw, mj_aaw, mj_ivs, mj_ivv, mj_ivi, mj_ob, mj_tk, mj_cat, mj_st1, mj_st2, mj_clr, mj_nwi, mj_nwq, List.getElem?_cons_zero, List.getElem?_cons_succ, List.length_cons, List.length_nil, List.set_cons_zero, List.set_cons_succ, Value.category, decide_eq_true_eq, List.map_cons, List.map_nil, List.sum_cons, List.sum_nil, Option.toList, List.cons_append, List.nil_append, ite_true, ite_false, if_true, if_false, reduceCtorEq, true_and, and_true, narrow_i, narrow_l, narrow_r, narrow_n, fits_i, fits_l, fits_ro, fits_ra, fits_no, fits_na, Nat.reduceAdd, Nat.reduceLT, Nat.reduceLeDiff, Nat.reduceEqDiff, Nat.reduceSub, zero_add0, true_or, or_true, false_or, or_false, not_true_eq_false, not_false_eq_true, eq_self, i10, i01, im0, im1, ho1, e1, hh1, at_1, dbl, y0, y1, y2, w, nI_1, v0, v1, v2, w2]
              refine h1 (Or.inr ⟨2 * j, i2 _ ⟨by omega, w⟩, ?_⟩) hp1 s1 ⟨_, hh1⟩
              have : un_neg (2 * j) = 2 * j + 1 := by unfold un_neg; rw [if_pos (by omega)]
              rw [this]
              exact i2 _ ⟨by omega, w2⟩
            · have w20 : fh (2 * j + 1) = 0 := by rcases f01 (2 * j + 1) (by omega) with z | z; exact z; exact absurd z w2
              simp only [x_89_11, x_89_12, x_89_15, x_89_18, x_89_19, x_89_22, x_89_23, x_89_24, x_89_25, x_89_26, x_89_29, x_89_30, x_89_33, x_89_34, x_89_35, x_89_36, x_89_37, x_89_38, x_89_39, x_89_42, x_89_43, x_89_44, x_89_47, mw_nx, mw_no, mw_ite, mw_call, mw_ret, mw_cst, mw_ii, mw_i1, mw_ll, mw_l1, mw_li, mw_i2l, mw_l2i, mw_lcm, mw_if, mw_ic, mw_ifnN, mw_ifnR, mw_go, mw_dupi, mw_dupr, mw_popi, mw_popr, mw_nw, mw_rti, mw_rtl, mw_rtr, mw_rtn, mw_rtv, mw_rt0, mw_rt1, mj_ild, mj_lld, mj_ald, mj_ist, mj_lst, mj_ast, mj_inc, mj_iz, mj_get, mj_put, mj_len, mj_iar, mj_aar, mj_iaw, mj_aaw, mj_ivs, mj_ivv, mj_ivi, mj_ob, mj_tk, mj_cat, mj_st1, mj_st2, mj_clr, mj_nwi, mj_nwq, List.getElem?_cons_zero, List.getElem?_cons_succ, List.length_cons, List.length_nil, List.set_cons_zero, List.set_cons_succ, Value.category, decide_eq_true_eq, List.map_cons, List.map_nil, List.sum_cons, List.sum_nil, Option.toList, List.cons_append, List.nil_append, ite_true, ite_false, if_true, if_false, reduceCtorEq, true_and, and_true, narrow_i, narrow_l, narrow_r, narrow_n, fits_i, fits_l, fits_ro, fits_ra, fits_no, fits_na, Nat.reduceAdd, Nat.reduceLT, Nat.reduceLeDiff, Nat.reduceEqDiff, Nat.reduceSub, zero_add0, true_or, or_true, false_or, or_false, not_true_eq_false, not_false_eq_true, eq_self, i10, i01, im0, im1, ho1, e1, hh1, at_1, dbl, y0, y1, y2, w, nI_1, v0, v1, v2, w20]
              refine ih2 (j + 1) (by omega) (fun q hq => ?_)
              by_cases hqj : q = j
              · subst hqj; exact fun z => w2 z.2
              · exact hno q (by omega)
          · have w0 : fh (2 * j) = 0 := by rcases f01 (2 * j) (by omega) with z | z; exact z; exact absurd z w
            simp only [x_89_11, x_89_12, x_89_15, x_89_18, x_89_19, x_89_22, x_89_23, x_89_24, x_89_25, x_89_26, x_89_29, x_89_30, x_89_33, x_89_34, x_89_35, x_89_36, x_89_37, x_89_38, x_89_39, x_89_42, x_89_43, x_89_44, x_89_47, mw_nx, mw_no, mw_ite, mw_call, mw_ret, mw_cst, mw_ii, mw_i1, mw_ll, mw_l1, mw_li, mw_i2l, mw_l2i, mw_lcm, mw_if, mw_ic, mw_ifnN, mw_ifnR, mw_go, mw_dupi, mw_dupr, mw_popi, mw_popr, mw_nw, mw_rti, mw_rtl, mw_rtr, mw_rtn, mw_rtv, mw_rt0, mw_rt1, mj_ild, mj_lld, mj_ald, mj_ist, mj_lst, mj_ast, mj_inc, mj_iz, mj_get, mj_put, mj_len, mj_iar, mj_aar, mj_iaw, mj_aaw, mj_ivs, mj_ivv, mj_ivi, mj_ob, mj_tk, mj_cat, mj_st1, mj_st2, mj_clr, mj_nwi, mj_nwq, List.getElem?_cons_zero, List.getElem?_cons_succ, List.length_cons, List.length_nil, List.set_cons_zero, List.set_cons_succ, Value.category, decide_eq_true_eq, List.map_cons, List.map_nil, List.sum_cons, List.sum_nil, Option.toList, List.cons_append, List.nil_append, ite_true, ite_false, if_true, if_false, reduceCtorEq, true_and, and_true, narrow_i, narrow_l, narrow_r, narrow_n, fits_i, fits_l, fits_ro, fits_ra, fits_no, fits_na, Nat.reduceAdd, Nat.reduceLT, Nat.reduceLeDiff, Nat.reduceEqDiff, Nat.reduceSub, zero_add0, true_or, or_true, false_or, or_false, not_true_eq_false, not_false_eq_true, eq_self, i10, i01, im0, im1, ho1, e1, hh1, at_1, dbl, y0, y1, y2, w0, nI_1]
            refine ih2 (j + 1) (by omega) (fun q hq => ?_)
            by_cases hqj : q = j
            · subst hqj; exact fun z => w z.1
            · exact hno q (by omega)
      rw [x_89_2]
      simp only [x_89_3, x_89_6, x_89_7, x_89_8, x_89_9, mw_nx, mw_no, mw_ite, mw_call, mw_ret, mw_cst, mw_ii, mw_i1, mw_ll, mw_l1, mw_li, mw_i2l, mw_l2i, mw_lcm, mw_if, mw_ic, mw_ifnN, mw_ifnR, mw_go, mw_dupi, mw_dupr, mw_popi, mw_popr, mw_nw, mw_rti, mw_rtl, mw_rtr, mw_rtn, mw_rtv, mw_rt0, mw_rt1, mj_ild, mj_lld, mj_ald, mj_ist, mj_lst, mj_ast, mj_inc, mj_iz, mj_get, mj_put, mj_len, mj_iar, mj_aar, mj_iaw, mj_aaw, mj_ivs, mj_ivv, mj_ivi, mj_ob, mj_tk, mj_cat, mj_st1, mj_st2, mj_clr, mj_nwi, mj_nwq, List.getElem?_cons_zero, List.getElem?_cons_succ, List.length_cons, List.length_nil, List.set_cons_zero, List.set_cons_succ, Value.category, decide_eq_true_eq, List.map_cons, List.map_nil, List.sum_cons, List.sum_nil, Option.toList, List.cons_append, List.nil_append, ite_true, ite_false, if_true, if_false, reduceCtorEq, true_and, and_true, narrow_i, narrow_l, narrow_r, narrow_n, fits_i, fits_l, fits_ro, fits_ra, fits_no, fits_na, Nat.reduceAdd, Nat.reduceLT, Nat.reduceLeDiff, Nat.reduceEqDiff, Nat.reduceSub, zero_add0, true_or, or_true, false_or, or_false, not_true_eq_false, not_false_eq_true, eq_self, i10, i01, im0, im1]
      exact both n 0 (by omega) (fun q hq => absurd hq (by omega))
  rw [en_89]
  simp only [x_89_0, x_89_1, mw_nx, mw_no, mw_ite, mw_call, mw_ret, mw_cst, mw_ii, mw_i1, mw_ll, mw_l1, mw_li, mw_i2l, mw_l2i, mw_lcm, mw_if, mw_ic, mw_ifnN, mw_ifnR, mw_go, mw_dupi, mw_dupr, mw_popi, mw_popr, mw_nw, mw_rti, mw_rtl, mw_rtr, mw_rtn, mw_rtv, mw_rt0, mw_rt1, mj_ild, mj_lld, mj_ald, mj_ist, mj_lst, mj_ast, mj_inc, mj_iz, mj_get, mj_put, mj_len, mj_iar, mj_aar, mj_iaw, mj_aaw, mj_ivs, mj_ivv, mj_ivi, mj_ob, mj_tk, mj_cat, mj_st1, mj_st2, mj_clr, mj_nwi, mj_nwq, List.getElem?_cons_zero, List.getElem?_cons_succ, List.length_cons, List.length_nil, List.set_cons_zero, List.set_cons_succ, Value.category, decide_eq_true_eq, List.map_cons, List.map_nil, List.sum_cons, List.sum_nil, Option.toList, List.cons_append, List.nil_append, ite_true, ite_false, if_true, if_false, reduceCtorEq, true_and, and_true, narrow_i, narrow_l, narrow_r, narrow_n, fits_i, fits_l, fits_ro, fits_ra, fits_no, fits_na, Nat.reduceAdd, Nat.reduceLT, Nat.reduceLeDiff, Nat.reduceEqDiff, Nat.reduceSub, zero_add0, true_or, or_true, false_or, or_false, not_true_eq_false, not_false_eq_true, eq_self, i10, i01, im0, im1]
  exact outer 129 fh0 hp none none (by omega) hh sm.rf h01 (fun x hx => (hA x).mp hx) (fun x hx => un_cl_in ((hA x).mpr hx))
theorem m_answers (h : hp.1 M = some (mo_o M n ln cm ul a b t)) (hr : rows hp M C) (hn : n ≤ 64) {i : Nat} (hi : i ≤ 80)
    (h1 : ((∀ j, j < n → (2 * j ∈ (C i).2 ↔ ¬ 2 * j + 1 ∈ (C i).2)) ∧ ∀ g, g < i → (C g).1 = 0 → ∃ c ∈ (C g).2, c ∈ (C i).2) → Q (some (.int 1)) hp)
    (h0 : ¬ ((∀ j, j < n → (2 * j ∈ (C i).2 ↔ ¬ 2 * j + 1 ∈ (C i).2)) ∧ ∀ g, g < i → (C g).1 = 0 → ∃ c ∈ (C g).2, c ∈ (C i).2) → Q (some (.int 0)) hp) : mj_call 90 [.ref M, .int (nI i)] hp Q := by
  have hi6 : i < 160 := by omega
  have hr0 := hr
  obtain ⟨fk, fm, fl, r1, r2, r3, r4⟩ := hr0
  have second : (∀ j, j < n → (2 * j ∈ (C i).2 ↔ ¬ 2 * j + 1 ∈ (C i).2)) → ∀ (e g : Nat) (o3 o4 : Option Value), g + e = i → (∀ q, q < g → (C q).1 = 0 → ∃ c ∈ (C q).2, c ∈ (C i).2) → mj_wp 90 41 [some (.ref M), some (.int (nI i)), some (.int (nI g)), o3, o4] [] hp Q := by
    intro hfull e
    induction e with
    | zero =>
      intro g o3 o4 hg hdone
      obtain rfl : g = i := by omega
      have e1 : nI g ≤ nI g := nI_le (Nat.le_refl _) (by omega)
      rw [x_90_41]
      simp only [x_90_42, x_90_43, x_90_116, x_90_117, mw_nx, mw_no, mw_ite, mw_call, mw_ret, mw_cst, mw_ii, mw_i1, mw_ll, mw_l1, mw_li, mw_i2l, mw_l2i, mw_lcm, mw_if, mw_ic, mw_ifnN, mw_ifnR, mw_go, mw_dupi, mw_dupr, mw_popi, mw_popr, mw_nw, mw_rti, mw_rtl, mw_rtr, mw_rtn, mw_rtv, mw_rt0, mw_rt1, mj_ild, mj_lld, mj_ald, mj_ist, mj_lst, mj_ast, mj_inc, mj_iz, mj_get, mj_put, mj_len, mj_iar, mj_aar, mj_iaw, mj_aaw, mj_ivs, mj_ivv, mj_ivi, mj_ob, mj_tk, mj_cat, mj_st1, mj_st2, mj_clr, mj_nwi, mj_nwq, List.getElem?_cons_zero, List.getElem?_cons_succ, List.length_cons, List.length_nil, List.set_cons_zero, List.set_cons_succ, Value.category, decide_eq_true_eq, List.map_cons, List.map_nil, List.sum_cons, List.sum_nil, Option.toList, List.cons_append, List.nil_append, ite_true, ite_false, if_true, if_false, reduceCtorEq, true_and, and_true, narrow_i, narrow_l, narrow_r, narrow_n, fits_i, fits_l, fits_ro, fits_ra, fits_no, fits_na, Nat.reduceAdd, Nat.reduceLT, Nat.reduceLeDiff, Nat.reduceEqDiff, Nat.reduceSub, zero_add0, true_or, or_true, false_or, or_false, not_true_eq_false, not_false_eq_true, eq_self, i10, i01, im0, im1, e1]
      exact h1 ⟨hfull, hdone⟩
    | succ e ih =>
      intro g o3 o4 hg hdone
      have e1 : ¬ nI i ≤ nI g := nI_ge (by omega) (by omega)
      obtain ⟨a1, a2, a3, a4, a5⟩ := r4 g (by omega)
      have hlen := ln_len a4
      have z0 : ¬ nI g < 0 := nI_pos (by omega)
      have z1 : (nI g).toNatClampNeg = g := nI_clamp (by omega)
      have z2 : ¬ 160 ≤ g := by omega
      have e0 : (nI (C g).1 = 0) = ((C g).1 = 0) := propext (nI_eq (b := 0) (by omega) (by omega))
      have loop : ∀ (rest done : List Nat) (z : Int32), (C g).2 = done ++ rest → (z = 0 ∨ z = 1) → (z = 1 ↔ (¬ (C g).1 = 0 ∨ ∃ c ∈ done, c ∈ (C i).2)) → mj_wp 90 64 [some (.ref M), some (.int (nI i)), some (.int (nI g)), some (.int z), some (.int (nI done.length))] [] hp Q := by
        intro rest
        induction rest with
        | nil =>
          intro done z hd hz hzi
          rw [List.append_nil] at hd
          have e2 : nI (C g).2.length ≤ nI done.length := by rw [hd]; exact nI_le (Nat.le_refl _) (by rw [hd] at hlen; omega)
          rw [x_90_64]
          rcases hz with rfl | rfl
          · simp only [x_90_66, x_90_67, x_90_70, x_90_71, x_90_72, x_90_104, x_90_105, x_90_108, x_90_109, mw_nx, mw_no, mw_ite, mw_call, mw_ret, mw_cst, mw_ii, mw_i1, mw_ll, mw_l1, mw_li, mw_i2l, mw_l2i, mw_lcm, mw_if, mw_ic, mw_ifnN, mw_ifnR, mw_go, mw_dupi, mw_dupr, mw_popi, mw_popr, mw_nw, mw_rti, mw_rtl, mw_rtr, mw_rtn, mw_rtv, mw_rt0, mw_rt1, mj_ild, mj_lld, mj_ald, mj_ist, mj_lst, mj_ast, mj_inc, mj_iz, mj_get, mj_put, mj_len, mj_iar, mj_aar, mj_iaw, mj_aaw, mj_ivs, mj_ivv, mj_ivi, mj_ob, mj_tk, mj_cat, mj_st1, mj_st2, mj_clr, mj_nwi, mj_nwq, List.getElem?_cons_zero, List.getElem?_cons_succ, List.length_cons, List.length_nil, List.set_cons_zero, List.set_cons_succ, Value.category, decide_eq_true_eq, List.map_cons, List.map_nil, List.sum_cons, List.sum_nil, Option.toList, List.cons_append, List.nil_append, ite_true, ite_false, if_true, if_false, reduceCtorEq, true_and, and_true, narrow_i, narrow_l, narrow_r, narrow_n, fits_i, fits_l, fits_ro, fits_ra, fits_no, fits_na, Nat.reduceAdd, Nat.reduceLT, Nat.reduceLeDiff, Nat.reduceEqDiff, Nat.reduceSub, zero_add0, true_or, or_true, false_or, or_false, not_true_eq_false, not_false_eq_true, eq_self, i10, i01, im0, im1, h, r2, at_0, z0, z1, z2, a2, e2]
            refine h0 (fun q => ?_)
            have hno : ¬ (¬ (C g).1 = 0 ∨ ∃ c ∈ done, c ∈ (C i).2) := fun w => absurd (hzi.mpr w) (by decide)
            have hg0 : (C g).1 = 0 := by
              by_cases w : (C g).1 = 0
              · exact w
              · exact absurd (Or.inl w) hno
            have := q.2 g (by omega) hg0
            rw [hd] at this
            exact hno (Or.inr this)
          · simp only [x_90_66, x_90_67, x_90_70, x_90_71, x_90_72, x_90_104, x_90_105, x_90_108, x_90_109, x_90_110, x_90_113, mw_nx, mw_no, mw_ite, mw_call, mw_ret, mw_cst, mw_ii, mw_i1, mw_ll, mw_l1, mw_li, mw_i2l, mw_l2i, mw_lcm, mw_if, mw_ic, mw_ifnN, mw_ifnR, mw_go, mw_dupi, mw_dupr, mw_popi, mw_popr, mw_nw, mw_rti, mw_rtl, mw_rtr, mw_rtn, mw_rtv, mw_rt0, mw_rt1, mj_ild, mj_lld, mj_ald, mj_ist, mj_lst, mj_ast, mj_inc, mj_iz, mj_get, mj_put, mj_len, mj_iar, mj_aar, mj_iaw, mj_aaw, mj_ivs, mj_ivv, mj_ivi, mj_ob, mj_tk, mj_cat, mj_st1, mj_st2, mj_clr, mj_nwi, mj_nwq, List.getElem?_cons_zero, List.getElem?_cons_succ, List.length_cons, List.length_nil, List.set_cons_zero, List.set_cons_succ, Value.category, decide_eq_true_eq, List.map_cons, List.map_nil, List.sum_cons, List.sum_nil, Option.toList, List.cons_append, List.nil_append, ite_true, ite_false, if_true, if_false, reduceCtorEq, true_and, and_true, narrow_i, narrow_l, narrow_r, narrow_n, fits_i, fits_l, fits_ro, fits_ra, fits_no, fits_na, Nat.reduceAdd, Nat.reduceLT, Nat.reduceLeDiff, Nat.reduceEqDiff, Nat.reduceSub, zero_add0, true_or, or_true, false_or, or_false, not_true_eq_false, not_false_eq_true, eq_self, i10, i01, im0, im1, h, r2, at_0, z0, z1, z2, a2, e2, nI_1]
            refine ih (g + 1) _ _ (by omega) (fun q hq hq0 => ?_)
            by_cases hqg : q = g
            · subst hqg
              rcases hzi.mp rfl with w | w
              · exact absurd hq0 w
              · rw [hd]; exact w
            · exact hdone q (by omega) hq0
        | cons c rest ih2 =>
          intro done z hd hz hzi
          have hlt : done.length < (C g).2.length := by rw [hd]; simp
          have hc : (C g).2.getD done.length 0 = c := by rw [hd]; simp [List.getD_eq_getElem?_getD]
          have hc2 : c < 128 := a4.2 c (by rw [hd]; simp)
          have e2 : ¬ nI (C g).2.length ≤ nI done.length := nI_ge hlt (by omega)
          have j0 : ¬ nI (128 * g + done.length) < 0 := nI_pos (by omega)
          have j1 : (nI (128 * g + done.length)).toNatClampNeg = 128 * g + done.length := nI_clamp (by omega)
          have j2 : ¬ 20480 ≤ 128 * g + done.length := by omega
          have e3 : fl (128 * g + done.length) = nI c := by rw [a3 _ hlt, hc]
          rw [x_90_64]
          by_cases w : c ∈ (C i).2
          · have q := eq_true w
            simp only [x_90_66, x_90_67, x_90_70, x_90_71, x_90_72, x_90_75, x_90_76, x_90_77, x_90_78, x_90_81, x_90_84, x_90_85, x_90_86, x_90_88, x_90_89, x_90_90, x_90_93, x_90_96, x_90_97, x_90_98, x_90_101, mw_nx, mw_no, mw_ite, mw_call, mw_ret, mw_cst, mw_ii, mw_i1, mw_ll, mw_l1, mw_li, mw_i2l, mw_l2i, mw_lcm, mw_if, mw_ic, mw_ifnN, mw_ifnR, mw_go, mw_dupi, mw_dupr, mw_popi, mw_popr, mw_nw, mw_rti, mw_rtl, mw_rtr, mw_rtn, mw_rtv, mw_rt0, mw_rt1, mj_ild, mj_lld, mj_ald, mj_ist, mj_lst, mj_ast, mj_inc, mj_iz, mj_get, mj_put, mj_len, mj_iar, mj_aar, mj_iaw, mj_aaw, mj_ivs, mj_ivv, mj_ivi, mj_ob, mj_tk, mj_cat, mj_st1, mj_st2, mj_clr, mj_nwi, mj_nwq, List.getElem?_cons_zero, List.getElem?_cons_succ, List.length_cons, List.length_nil, List.set_cons_zero, List.set_cons_succ, Value.category, decide_eq_true_eq, List.map_cons, List.map_nil, List.sum_cons, List.sum_nil, Option.toList, List.cons_append, List.nil_append, ite_true, ite_false, if_true, if_false, reduceCtorEq, true_and, and_true, narrow_i, narrow_l, narrow_r, narrow_n, fits_i, fits_l, fits_ro, fits_ra, fits_no, fits_na, Nat.reduceAdd, Nat.reduceLT, Nat.reduceLeDiff, Nat.reduceEqDiff, Nat.reduceSub, zero_add0, true_or, or_true, false_or, or_false, not_true_eq_false, not_false_eq_true, eq_self, i10, i01, im0, im1, h, r2, r3, at_0, z0, z1, z2, a2, e2, ix128, j0, j1, j2, e3, m_has h hr hi6 (show c < 2 ^ 31 by omega), q, nI_1]
            have := ih2 (done ++ [c]) 1 (by rw [hd]; simp) (Or.inr rfl) ⟨fun _ => Or.inr ⟨c, by simp, w⟩, fun _ => rfl⟩
            simpa using this
          · have q := eq_false w
            simp only [x_90_66, x_90_67, x_90_70, x_90_71, x_90_72, x_90_75, x_90_76, x_90_77, x_90_78, x_90_81, x_90_84, x_90_85, x_90_86, x_90_88, x_90_89, x_90_90, x_90_93, x_90_96, x_90_97, x_90_98, x_90_101, mw_nx, mw_no, mw_ite, mw_call, mw_ret, mw_cst, mw_ii, mw_i1, mw_ll, mw_l1, mw_li, mw_i2l, mw_l2i, mw_lcm, mw_if, mw_ic, mw_ifnN, mw_ifnR, mw_go, mw_dupi, mw_dupr, mw_popi, mw_popr, mw_nw, mw_rti, mw_rtl, mw_rtr, mw_rtn, mw_rtv, mw_rt0, mw_rt1, mj_ild, mj_lld, mj_ald, mj_ist, mj_lst, mj_ast, mj_inc, mj_iz, mj_get, mj_put, mj_len, mj_iar, mj_aar, mj_iaw, mj_aaw, mj_ivs, mj_ivv, mj_ivi, mj_ob, mj_tk, mj_cat, mj_st1, mj_st2, mj_clr, mj_nwi, mj_nwq, List.getElem?_cons_zero, List.getElem?_cons_succ, List.length_cons, List.length_nil, List.set_cons_zero, List.set_cons_succ, Value.category, decide_eq_true_eq, List.map_cons, List.map_nil, List.sum_cons, List.sum_nil, Option.toList, List.cons_append, List.nil_append, ite_true, ite_false, if_true, if_false, reduceCtorEq, true_and, and_true, narrow_i, narrow_l, narrow_r, narrow_n, fits_i, fits_l, fits_ro, fits_ra, fits_no, fits_na, Nat.reduceAdd, Nat.reduceLT, Nat.reduceLeDiff, Nat.reduceEqDiff, Nat.reduceSub, zero_add0, true_or, or_true, false_or, or_false, not_true_eq_false, not_false_eq_true, eq_self, i10, i01, im0, im1, h, r2, r3, at_0, z0, z1, z2, a2, e2, ix128, j0, j1, j2, e3, m_has h hr hi6 (show c < 2 ^ 31 by omega), q, nI_1]
            have := ih2 (done ++ [c]) z (by rw [hd]; simp) hz (by
              rw [hzi]
              constructor
              · rintro (w1 | ⟨d, hd1, hd2⟩)
                · exact Or.inl w1
                · exact Or.inr ⟨d, List.mem_append.mpr (Or.inl hd1), hd2⟩
              · rintro (w1 | ⟨d, hd1, hd2⟩)
                · exact Or.inl w1
                · rcases List.mem_append.mp hd1 with y | y
                  · exact Or.inr ⟨d, y, hd2⟩
                  · rw [List.mem_singleton] at y; rw [y] at hd2; exact absurd hd2 w)
            simpa using this
      rw [x_90_41]
      by_cases w : (C g).1 = 0
      · have q := eq_true w
        simp only [x_90_42, x_90_43, x_90_46, x_90_47, x_90_50, x_90_51, x_90_52, x_90_55, x_90_56, x_90_59, x_90_60, x_90_61, x_90_62, mw_nx, mw_no, mw_ite, mw_call, mw_ret, mw_cst, mw_ii, mw_i1, mw_ll, mw_l1, mw_li, mw_i2l, mw_l2i, mw_lcm, mw_if, mw_ic, mw_ifnN, mw_ifnR, mw_go, mw_dupi, mw_dupr, mw_popi, mw_popr, mw_nw, mw_rti, mw_rtl, mw_rtr, mw_rtn, mw_rtv, mw_rt0, mw_rt1, mj_ild, mj_lld, mj_ald, mj_ist, mj_lst, mj_ast, mj_inc, mj_iz, mj_get, mj_put, mj_len, mj_iar, mj_aar, mj_iaw, mj_aaw, mj_ivs, mj_ivv, mj_ivi, mj_ob, mj_tk, mj_cat, mj_st1, mj_st2, mj_clr, mj_nwi, mj_nwq, List.getElem?_cons_zero, List.getElem?_cons_succ, List.length_cons, List.length_nil, List.set_cons_zero, List.set_cons_succ, Value.category, decide_eq_true_eq, List.map_cons, List.map_nil, List.sum_cons, List.sum_nil, Option.toList, List.cons_append, List.nil_append, ite_true, ite_false, if_true, if_false, reduceCtorEq, true_and, and_true, narrow_i, narrow_l, narrow_r, narrow_n, fits_i, fits_l, fits_ro, fits_ra, fits_no, fits_na, Nat.reduceAdd, Nat.reduceLT, Nat.reduceLeDiff, Nat.reduceEqDiff, Nat.reduceSub, zero_add0, true_or, or_true, false_or, or_false, not_true_eq_false, not_false_eq_true, eq_self, i10, i01, im0, im1, h, r1, at_0, z0, z1, z2, a1, e1, e0, q]
        exact loop (C g).2 [] 0 rfl (Or.inl rfl) ⟨fun z => absurd z (by decide), by rintro (z | ⟨c, hc, -⟩); exact absurd w z; exact absurd hc List.not_mem_nil⟩
      · have q := eq_false w
        simp only [x_90_42, x_90_43, x_90_46, x_90_47, x_90_50, x_90_51, x_90_52, x_90_55, x_90_56, x_90_59, x_90_60, x_90_61, x_90_62, mw_nx, mw_no, mw_ite, mw_call, mw_ret, mw_cst, mw_ii, mw_i1, mw_ll, mw_l1, mw_li, mw_i2l, mw_l2i, mw_lcm, mw_if, mw_ic, mw_ifnN, mw_ifnR, mw_go, mw_dupi, mw_dupr, mw_popi, mw_popr, mw_nw, mw_rti, mw_rtl, mw_rtr, mw_rtn, mw_rtv, mw_rt0, mw_rt1, mj_ild, mj_lld, mj_ald, mj_ist, mj_lst, mj_ast, mj_inc, mj_iz, mj_get, mj_put, mj_len, mj_iar, mj_aar, mj_iaw, mj_aaw, mj_ivs, mj_ivv, mj_ivi, mj_ob, mj_tk, mj_cat, mj_st1, mj_st2, mj_clr, mj_nwi, mj_nwq, List.getElem?_cons_zero, List.getElem?_cons_succ, List.length_cons, List.length_nil, List.set_cons_zero, List.set_cons_succ, Value.category, decide_eq_true_eq, List.map_cons, List.map_nil, List.sum_cons, List.sum_nil, Option.toList, List.cons_append, List.nil_append, ite_true, ite_false, if_true, if_false, reduceCtorEq, true_and, and_true, narrow_i, narrow_l, narrow_r, narrow_n, fits_i, fits_l, fits_ro, fits_ra, fits_no, fits_na, Nat.reduceAdd, Nat.reduceLT, Nat.reduceLeDiff, Nat.reduceEqDiff, Nat.reduceSub, zero_add0, true_or, or_true, false_or, or_false, not_true_eq_false, not_false_eq_true, eq_self, i10, i01, im0, im1, h, r1, at_0, z0, z1, z2, a1, e1, e0, q]
        exact loop (C g).2 [] 1 rfl (Or.inr rfl) ⟨fun _ => Or.inl w, fun _ => rfl⟩
  have first : ∀ (e j : Nat), j + e = n → (∀ q, q < j → (2 * q ∈ (C i).2 ↔ ¬ 2 * q + 1 ∈ (C i).2)) → mj_wp 90 2 [some (.ref M), some (.int (nI i)), some (.int (nI j)), none, none] [] hp Q := by
    intro e
    induction e with
    | zero =>
      intro j hj hdone
      obtain rfl : j = n := by omega
      have e1 : nI j ≤ nI j := nI_le (Nat.le_refl _) (by omega)
      rw [x_90_2]
      simp only [x_90_3, x_90_4, x_90_7, x_90_39, x_90_40, mw_nx, mw_no, mw_ite, mw_call, mw_ret, mw_cst, mw_ii, mw_i1, mw_ll, mw_l1, mw_li, mw_i2l, mw_l2i, mw_lcm, mw_if, mw_ic, mw_ifnN, mw_ifnR, mw_go, mw_dupi, mw_dupr, mw_popi, mw_popr, mw_nw, mw_rti, mw_rtl, mw_rtr, mw_rtn, mw_rtv, mw_rt0, mw_rt1, mj_ild, mj_lld, mj_ald, mj_ist, mj_lst, mj_ast, mj_inc, mj_iz, mj_get, mj_put, mj_len, mj_iar, mj_aar, mj_iaw, mj_aaw, mj_ivs, mj_ivv, mj_ivi, mj_ob, mj_tk, mj_cat, mj_st1, mj_st2, mj_clr, mj_nwi, mj_nwq, List.getElem?_cons_zero, List.getElem?_cons_succ, List.length_cons, List.length_nil, List.set_cons_zero, List.set_cons_succ, Value.category, decide_eq_true_eq, List.map_cons, List.map_nil, List.sum_cons, List.sum_nil, Option.toList, List.cons_append, List.nil_append, ite_true, ite_false, if_true, if_false, reduceCtorEq, true_and, and_true, narrow_i, narrow_l, narrow_r, narrow_n, fits_i, fits_l, fits_ro, fits_ra, fits_no, fits_na, Nat.reduceAdd, Nat.reduceLT, Nat.reduceLeDiff, Nat.reduceEqDiff, Nat.reduceSub, zero_add0, true_or, or_true, false_or, or_false, not_true_eq_false, not_false_eq_true, eq_self, i10, i01, im0, im1, h, e1]
      exact second hdone i 0 none none (by omega) (fun q hq => absurd hq (by omega))
    | succ e ih =>
      intro j hj hdone
      have e1 : ¬ nI n ≤ nI j := nI_ge (by omega) (by omega)
      have step : (2 * j ∈ (C i).2 ↔ ¬ 2 * j + 1 ∈ (C i).2) → mj_wp 90 2 [some (.ref M), some (.int (nI i)), some (.int (nI (j + 1))), none, none] [] hp Q := fun hj2 => ih (j + 1) (by omega) (fun q hq => by
        by_cases hqj : q = j
        · subst hqj; exact hj2
        · exact hdone q (by omega))
      rw [x_90_2]
      by_cases w : 2 * j ∈ (C i).2 <;> by_cases w2 : 2 * j + 1 ∈ (C i).2
      · have q1 := eq_true w
        have q2 := eq_true w2
        simp only [x_90_3, x_90_4, x_90_7, x_90_10, x_90_11, x_90_12, x_90_13, x_90_14, x_90_15, x_90_18, x_90_19, x_90_20, x_90_21, x_90_22, x_90_23, x_90_24, x_90_25, x_90_28, x_90_31, x_90_32, mw_nx, mw_no, mw_ite, mw_call, mw_ret, mw_cst, mw_ii, mw_i1, mw_ll, mw_l1, mw_li, mw_i2l, mw_l2i, mw_lcm, mw_if, mw_ic, mw_ifnN, mw_ifnR, mw_go, mw_dupi, mw_dupr, mw_popi, mw_popr, mw_nw, mw_rti, mw_rtl, mw_rtr, mw_rtn, mw_rtv, mw_rt0, mw_rt1, mj_ild, mj_lld, mj_ald, mj_ist, mj_lst, mj_ast, mj_inc, mj_iz, mj_get, mj_put, mj_len, mj_iar, mj_aar, mj_iaw, mj_aaw, mj_ivs, mj_ivv, mj_ivi, mj_ob, mj_tk, mj_cat, mj_st1, mj_st2, mj_clr, mj_nwi, mj_nwq, List.getElem?_cons_zero, List.getElem?_cons_succ, List.length_cons, List.length_nil, List.set_cons_zero, List.set_cons_succ, Value.category, decide_eq_true_eq, List.map_cons, List.map_nil, List.sum_cons, List.sum_nil, Option.toList, List.cons_append, List.nil_append, ite_true, ite_false, if_true, if_false, reduceCtorEq, true_and, and_true, narrow_i, narrow_l, narrow_r, narrow_n, fits_i, fits_l, fits_ro, fits_ra, fits_no, fits_na, Nat.reduceAdd, Nat.reduceLT, Nat.reduceLeDiff, Nat.reduceEqDiff, Nat.reduceSub, zero_add0, true_or, or_true, false_or, or_false, not_true_eq_false, not_false_eq_true, eq_self, i10, i01, im0, im1, h, e1, dbl, nI_1, m_has h hr hi6 (show 2 * j < 2 ^ 31 by omega), m_has h hr hi6 (show 2 * j + 1 < 2 ^ 31 by omega), q1, q2]
        exact h0 (fun z => (z.1 j (by omega)).mp w w2)
      · have q1 := eq_true w
        have q2 := eq_false w2
        simp only [x_90_3, x_90_4, x_90_7, x_90_10, x_90_11, x_90_12, x_90_13, x_90_14, x_90_15, x_90_18, x_90_19, x_90_20, x_90_21, x_90_22, x_90_23, x_90_24, x_90_25, x_90_28, x_90_31, x_90_32, x_90_33, x_90_36, mw_nx, mw_no, mw_ite, mw_call, mw_ret, mw_cst, mw_ii, mw_i1, mw_ll, mw_l1, mw_li, mw_i2l, mw_l2i, mw_lcm, mw_if, mw_ic, mw_ifnN, mw_ifnR, mw_go, mw_dupi, mw_dupr, mw_popi, mw_popr, mw_nw, mw_rti, mw_rtl, mw_rtr, mw_rtn, mw_rtv, mw_rt0, mw_rt1, mj_ild, mj_lld, mj_ald, mj_ist, mj_lst, mj_ast, mj_inc, mj_iz, mj_get, mj_put, mj_len, mj_iar, mj_aar, mj_iaw, mj_aaw, mj_ivs, mj_ivv, mj_ivi, mj_ob, mj_tk, mj_cat, mj_st1, mj_st2, mj_clr, mj_nwi, mj_nwq, List.getElem?_cons_zero, List.getElem?_cons_succ, List.length_cons, List.length_nil, List.set_cons_zero, List.set_cons_succ, Value.category, decide_eq_true_eq, List.map_cons, List.map_nil, List.sum_cons, List.sum_nil, Option.toList, List.cons_append, List.nil_append, ite_true, ite_false, if_true, if_false, reduceCtorEq, true_and, and_true, narrow_i, narrow_l, narrow_r, narrow_n, fits_i, fits_l, fits_ro, fits_ra, fits_no, fits_na, Nat.reduceAdd, Nat.reduceLT, Nat.reduceLeDiff, Nat.reduceEqDiff, Nat.reduceSub, zero_add0, true_or, or_true, false_or, or_false, not_true_eq_false, not_false_eq_true, eq_self, i10, i01, im0, im1, h, e1, dbl, nI_1, m_has h hr hi6 (show 2 * j < 2 ^ 31 by omega), m_has h hr hi6 (show 2 * j + 1 < 2 ^ 31 by omega), q1, q2]
        exact step ⟨fun _ => w2, fun _ => w⟩
      · have q1 := eq_false w
        have q2 := eq_true w2
        simp only [x_90_3, x_90_4, x_90_7, x_90_10, x_90_11, x_90_12, x_90_13, x_90_14, x_90_15, x_90_18, x_90_19, x_90_20, x_90_21, x_90_22, x_90_23, x_90_24, x_90_25, x_90_28, x_90_31, x_90_32, x_90_33, x_90_36, mw_nx, mw_no, mw_ite, mw_call, mw_ret, mw_cst, mw_ii, mw_i1, mw_ll, mw_l1, mw_li, mw_i2l, mw_l2i, mw_lcm, mw_if, mw_ic, mw_ifnN, mw_ifnR, mw_go, mw_dupi, mw_dupr, mw_popi, mw_popr, mw_nw, mw_rti, mw_rtl, mw_rtr, mw_rtn, mw_rtv, mw_rt0, mw_rt1, mj_ild, mj_lld, mj_ald, mj_ist, mj_lst, mj_ast, mj_inc, mj_iz, mj_get, mj_put, mj_len, mj_iar, mj_aar, mj_iaw, mj_aaw, mj_ivs, mj_ivv, mj_ivi, mj_ob, mj_tk, mj_cat, mj_st1, mj_st2, mj_clr, mj_nwi, mj_nwq, List.getElem?_cons_zero, List.getElem?_cons_succ, List.length_cons, List.length_nil, List.set_cons_zero, List.set_cons_succ, Value.category, decide_eq_true_eq, List.map_cons, List.map_nil, List.sum_cons, List.sum_nil, Option.toList, List.cons_append, List.nil_append, ite_true, ite_false, if_true, if_false, reduceCtorEq, true_and, and_true, narrow_i, narrow_l, narrow_r, narrow_n, fits_i, fits_l, fits_ro, fits_ra, fits_no, fits_na, Nat.reduceAdd, Nat.reduceLT, Nat.reduceLeDiff, Nat.reduceEqDiff, Nat.reduceSub, zero_add0, true_or, or_true, false_or, or_false, not_true_eq_false, not_false_eq_true, eq_self, i10, i01, im0, im1, h, e1, dbl, nI_1, m_has h hr hi6 (show 2 * j < 2 ^ 31 by omega), m_has h hr hi6 (show 2 * j + 1 < 2 ^ 31 by omega), q1, q2]
        exact step ⟨fun z => absurd z w, fun z => absurd w2 z⟩
      · have q1 := eq_false w
        have q2 := eq_false w2
        simp only [x_90_3, x_90_4, x_90_7, x_90_10, x_90_11, x_90_12, x_90_13, x_90_14, x_90_15, x_90_18, x_90_19, x_90_20, x_90_21, x_90_22, x_90_23, x_90_24, x_90_25, x_90_28, x_90_31, x_90_32, mw_nx, mw_no, mw_ite, mw_call, mw_ret, mw_cst, mw_ii, mw_i1, mw_ll, mw_l1, mw_li, mw_i2l, mw_l2i, mw_lcm, mw_if, mw_ic, mw_ifnN, mw_ifnR, mw_go, mw_dupi, mw_dupr, mw_popi, mw_popr, mw_nw, mw_rti, mw_rtl, mw_rtr, mw_rtn, mw_rtv, mw_rt0, mw_rt1, mj_ild, mj_lld, mj_ald, mj_ist, mj_lst, mj_ast, mj_inc, mj_iz, mj_get, mj_put, mj_len, mj_iar, mj_aar, mj_iaw, mj_aaw, mj_ivs, mj_ivv, mj_ivi, mj_ob, mj_tk, mj_cat, mj_st1, mj_st2, mj_clr, mj_nwi, mj_nwq, List.getElem?_cons_zero, List.getElem?_cons_succ, List.length_cons, List.length_nil, List.set_cons_zero, List.set_cons_succ, Value.category, decide_eq_true_eq, List.map_cons, List.map_nil, List.sum_cons, List.sum_nil, Option.toList, List.cons_append, List.nil_append, ite_true, ite_false, if_true, if_false, reduceCtorEq, true_and, and_true, narrow_i, narrow_l, narrow_r, narrow_n, fits_i, fits_l, fits_ro, fits_ra, fits_no, fits_na, Nat.reduceAdd, Nat.reduceLT, Nat.reduceLeDiff, Nat.reduceEqDiff, Nat.reduceSub, zero_add0, true_or, or_true, false_or, or_false, not_true_eq_false, not_false_eq_true, eq_self, i10, i01, im0, im1, h, e1, dbl, nI_1, m_has h hr hi6 (show 2 * j < 2 ^ 31 by omega), m_has h hr hi6 (show 2 * j + 1 < 2 ^ 31 by omega), q1, q2]
        exact h0 (fun z => w ((z.1 j (by omega)).mpr w2))
  rw [en_90]
  simp only [x_90_0, x_90_1, mw_nx, mw_no, mw_ite, mw_call, mw_ret, mw_cst, mw_ii, mw_i1, mw_ll, mw_l1, mw_li, mw_i2l, mw_l2i, mw_lcm, mw_if, mw_ic, mw_ifnN, mw_ifnR, mw_go, mw_dupi, mw_dupr, mw_popi, mw_popr, mw_nw, mw_rti, mw_rtl, mw_rtr, mw_rtn, mw_rtv, mw_rt0, mw_rt1, mj_ild, mj_lld, mj_ald, mj_ist, mj_lst, mj_ast, mj_inc, mj_iz, mj_get, mj_put, mj_len, mj_iar, mj_aar, mj_iaw, mj_aaw, mj_ivs, mj_ivv, mj_ivi, mj_ob, mj_tk, mj_cat, mj_st1, mj_st2, mj_clr, mj_nwi, mj_nwq, List.getElem?_cons_zero, List.getElem?_cons_succ, List.length_cons, List.length_nil, List.set_cons_zero, List.set_cons_succ, Value.category, decide_eq_true_eq, List.map_cons, List.map_nil, List.sum_cons, List.sum_nil, Option.toList, List.cons_append, List.nil_append, ite_true, ite_false, if_true, if_false, reduceCtorEq, true_and, and_true, narrow_i, narrow_l, narrow_r, narrow_n, fits_i, fits_l, fits_ro, fits_ra, fits_no, fits_na, Nat.reduceAdd, Nat.reduceLT, Nat.reduceLeDiff, Nat.reduceEqDiff, Nat.reduceSub, zero_add0, true_or, or_true, false_or, or_false, not_true_eq_false, not_false_eq_true, eq_self, i10, i01, im0, im1]
  exact first n 0 (by omega) (fun q hq => absurd hq (by omega))
theorem m_isRight (h : hp.1 M = some (mo_o M n ln cm ul a b t)) (hr : rows hp M C) (hn : n ≤ 64) {i : Nat} (hi : i ≤ 80) (hcb : ∀ j, j ≤ i → ∀ c ∈ (C j).2, c < 2 * n) (hh : ∃ fh, hp.1 (M + 6) = some (mz 128 fh))
    (h1 : sp_right n ((List.range i).map C) (C i) → ∀ hp' : mj_H, sm hp hp' (M + 6) (M + 7) → (∃ fh, hp'.1 (M + 6) = some (mz 128 fh)) → Q (some (.int 1)) hp')
    (h0 : ¬ sp_right n ((List.range i).map C) (C i) → ∀ hp' : mj_H, sm hp hp' (M + 6) (M + 7) → (∃ fh, hp'.1 (M + 6) = some (mz 128 fh)) → Q (some (.int 0)) hp') : mj_call 91 [.ref M, .int (nI i)] hp Q := by
  have hr0 := hr
  obtain ⟨fk, fm, fl, r1, r2, r3, r4⟩ := hr0
  obtain ⟨a1, a2, a3, a4, a5⟩ := r4 i (by omega)
  have hlen := ln_len a4
  have z0 : ¬ nI i < 0 := nI_pos (by omega)
  have z1 : (nI i).toNatClampNeg = i := nI_clamp (by omega)
  have z2 : ¬ 160 ≤ i := by omega
  have e0 : (nI (C i).1 = 0) = ((C i).1 = 0) := propext (nI_eq (b := 0) (by omega) (by omega))
  have e3 : (nI (C i).1 = 3) = ((C i).1 = 3) := propext (nI_eq (b := 3) (by omega) (by omega))
  rw [en_91]
  by_cases w0 : (C i).1 = 0
  · have q0 := eq_true w0
    simp only [x_91_0, x_91_1, x_91_4, x_91_5, x_91_6, x_91_9, x_91_10, mw_nx, mw_no, mw_ite, mw_call, mw_ret, mw_cst, mw_ii, mw_i1, mw_ll, mw_l1, mw_li, mw_i2l, mw_l2i, mw_lcm, mw_if, mw_ic, mw_ifnN, mw_ifnR, mw_go, mw_dupi, mw_dupr, mw_popi, mw_popr, mw_nw, mw_rti, mw_rtl, mw_rtr, mw_rtn, mw_rtv, mw_rt0, mw_rt1, mj_ild, mj_lld, mj_ald, mj_ist, mj_lst, mj_ast, mj_inc, mj_iz, mj_get, mj_put, mj_len, mj_iar, mj_aar, mj_iaw, mj_aaw, mj_ivs, mj_ivv, mj_ivi, mj_ob, mj_tk, mj_cat, mj_st1, mj_st2, mj_clr, mj_nwi, mj_nwq, List.getElem?_cons_zero, List.getElem?_cons_succ, List.length_cons, List.length_nil, List.set_cons_zero, List.set_cons_succ, Value.category, decide_eq_true_eq, List.map_cons, List.map_nil, List.sum_cons, List.sum_nil, Option.toList, List.cons_append, List.nil_append, ite_true, ite_false, if_true, if_false, reduceCtorEq, true_and, and_true, narrow_i, narrow_l, narrow_r, narrow_n, fits_i, fits_l, fits_ro, fits_ra, fits_no, fits_na, Nat.reduceAdd, Nat.reduceLT, Nat.reduceLeDiff, Nat.reduceEqDiff, Nat.reduceSub, zero_add0, true_or, or_true, false_or, or_false, not_true_eq_false, not_false_eq_true, eq_self, i10, i01, im0, im1, h, r1, at_0, z0, z1, z2, a1, e0, q0]
    exact h1 (Or.inl w0) hp sm.rf hh
  · have q0 := eq_false w0
    by_cases w3 : (C i).1 = 3
    · have q3 := eq_true w3
      simp only [x_91_0, x_91_1, x_91_4, x_91_5, x_91_6, x_91_9, x_91_10, x_91_11, x_91_12, x_91_15, x_91_16, x_91_17, x_91_18, x_91_21, x_91_22, x_91_23, mw_nx, mw_no, mw_ite, mw_call, mw_ret, mw_cst, mw_ii, mw_i1, mw_ll, mw_l1, mw_li, mw_i2l, mw_l2i, mw_lcm, mw_if, mw_ic, mw_ifnN, mw_ifnR, mw_go, mw_dupi, mw_dupr, mw_popi, mw_popr, mw_nw, mw_rti, mw_rtl, mw_rtr, mw_rtn, mw_rtv, mw_rt0, mw_rt1, mj_ild, mj_lld, mj_ald, mj_ist, mj_lst, mj_ast, mj_inc, mj_iz, mj_get, mj_put, mj_len, mj_iar, mj_aar, mj_iaw, mj_aaw, mj_ivs, mj_ivv, mj_ivi, mj_ob, mj_tk, mj_cat, mj_st1, mj_st2, mj_clr, mj_nwi, mj_nwq, List.getElem?_cons_zero, List.getElem?_cons_succ, List.length_cons, List.length_nil, List.set_cons_zero, List.set_cons_succ, Value.category, decide_eq_true_eq, List.map_cons, List.map_nil, List.sum_cons, List.sum_nil, Option.toList, List.cons_append, List.nil_append, ite_true, ite_false, if_true, if_false, reduceCtorEq, true_and, and_true, narrow_i, narrow_l, narrow_r, narrow_n, fits_i, fits_l, fits_ro, fits_ra, fits_no, fits_na, Nat.reduceAdd, Nat.reduceLT, Nat.reduceLeDiff, Nat.reduceEqDiff, Nat.reduceSub, zero_add0, true_or, or_true, false_or, or_false, not_true_eq_false, not_false_eq_true, eq_self, i10, i01, im0, im1, h, r1, at_0, z0, z1, z2, a1, e0, q0, e3, q3]
      refine m_answers h hr hn hi (fun w => ?_) (fun w => ?_)
      · simp only [x_91_26, mw_nx, mw_no, mw_ite, mw_call, mw_ret, mw_cst, mw_ii, mw_i1, mw_ll, mw_l1, mw_li, mw_i2l, mw_l2i, mw_lcm, mw_if, mw_ic, mw_ifnN, mw_ifnR, mw_go, mw_dupi, mw_dupr, mw_popi, mw_popr, mw_nw, mw_rti, mw_rtl, mw_rtr, mw_rtn, mw_rtv, mw_rt0, mw_rt1, mj_ild, mj_lld, mj_ald, mj_ist, mj_lst, mj_ast, mj_inc, mj_iz, mj_get, mj_put, mj_len, mj_iar, mj_aar, mj_iaw, mj_aaw, mj_ivs, mj_ivv, mj_ivi, mj_ob, mj_tk, mj_cat, mj_st1, mj_st2, mj_clr, mj_nwi, mj_nwq, List.getElem?_cons_zero, List.getElem?_cons_succ, List.length_cons, List.length_nil, List.set_cons_zero, List.set_cons_succ, Value.category, decide_eq_true_eq, List.map_cons, List.map_nil, List.sum_cons, List.sum_nil, Option.toList, List.cons_append, List.nil_append, ite_true, ite_false, if_true, if_false, reduceCtorEq, true_and, and_true, narrow_i, narrow_l, narrow_r, narrow_n, fits_i, fits_l, fits_ro, fits_ra, fits_no, fits_na, Nat.reduceAdd, Nat.reduceLT, Nat.reduceLeDiff, Nat.reduceEqDiff, Nat.reduceSub, zero_add0, true_or, or_true, false_or, or_false, not_true_eq_false, not_false_eq_true, eq_self, i10, i01, im0, im1]
        refine h1 (Or.inr (Or.inr ⟨w3, w.1, fun g hg hg0 => ?_⟩)) hp sm.rf hh
        obtain ⟨j, hj, rfl⟩ := rm_mem.mp hg
        exact w.2 j hj hg0
      · simp only [x_91_26, mw_nx, mw_no, mw_ite, mw_call, mw_ret, mw_cst, mw_ii, mw_i1, mw_ll, mw_l1, mw_li, mw_i2l, mw_l2i, mw_lcm, mw_if, mw_ic, mw_ifnN, mw_ifnR, mw_go, mw_dupi, mw_dupr, mw_popi, mw_popr, mw_nw, mw_rti, mw_rtl, mw_rtr, mw_rtn, mw_rtv, mw_rt0, mw_rt1, mj_ild, mj_lld, mj_ald, mj_ist, mj_lst, mj_ast, mj_inc, mj_iz, mj_get, mj_put, mj_len, mj_iar, mj_aar, mj_iaw, mj_aaw, mj_ivs, mj_ivv, mj_ivi, mj_ob, mj_tk, mj_cat, mj_st1, mj_st2, mj_clr, mj_nwi, mj_nwq, List.getElem?_cons_zero, List.getElem?_cons_succ, List.length_cons, List.length_nil, List.set_cons_zero, List.set_cons_succ, Value.category, decide_eq_true_eq, List.map_cons, List.map_nil, List.sum_cons, List.sum_nil, Option.toList, List.cons_append, List.nil_append, ite_true, ite_false, if_true, if_false, reduceCtorEq, true_and, and_true, narrow_i, narrow_l, narrow_r, narrow_n, fits_i, fits_l, fits_ro, fits_ra, fits_no, fits_na, Nat.reduceAdd, Nat.reduceLT, Nat.reduceLeDiff, Nat.reduceEqDiff, Nat.reduceSub, zero_add0, true_or, or_true, false_or, or_false, not_true_eq_false, not_false_eq_true, eq_self, i10, i01, im0, im1]
        refine h0 (fun q => w ?_) hp sm.rf hh
        rcases q with q | ⟨q, -⟩ | ⟨-, q1, q2⟩
        · exact absurd q w0
        · omega
        · exact ⟨q1, fun g hg hg0 => q2 (C g) (rm_mem.mpr ⟨g, hg, rfl⟩) hg0⟩
    · have q3 := eq_false w3
      obtain ⟨fh, hfh⟩ := hh
      have hder : (C i).1 = 1 ∨ (C i).1 = 2 := by omega
      have hiff : sp_right n ((List.range i).map C) (C i) ↔ un_clash (sp_cls ((List.range i).map C)) (fun x => un_neg x ∈ (C i).2) := sp_right_der (s := (C i).1) (cs := (C i).2) hder
      simp only [x_91_0, x_91_1, x_91_4, x_91_5, x_91_6, x_91_9, x_91_10, x_91_11, x_91_12, x_91_15, x_91_16, x_91_17, x_91_18, x_91_21, x_91_22, x_91_23, x_91_26, x_91_27, x_91_28, mw_nx, mw_no, mw_ite, mw_call, mw_ret, mw_cst, mw_ii, mw_i1, mw_ll, mw_l1, mw_li, mw_i2l, mw_l2i, mw_lcm, mw_if, mw_ic, mw_ifnN, mw_ifnR, mw_go, mw_dupi, mw_dupr, mw_popi, mw_popr, mw_nw, mw_rti, mw_rtl, mw_rtr, mw_rtn, mw_rtv, mw_rt0, mw_rt1, mj_ild, mj_lld, mj_ald, mj_ist, mj_lst, mj_ast, mj_inc, mj_iz, mj_get, mj_put, mj_len, mj_iar, mj_aar, mj_iaw, mj_aaw, mj_ivs, mj_ivv, mj_ivi, mj_ob, mj_tk, mj_cat, mj_st1, mj_st2, mj_clr, mj_nwi, mj_nwq, List.getElem?_cons_zero, List.getElem?_cons_succ, List.length_cons, List.length_nil, List.set_cons_zero, List.set_cons_succ, Value.category, decide_eq_true_eq, List.map_cons, List.map_nil, List.sum_cons, List.sum_nil, Option.toList, List.cons_append, List.nil_append, ite_true, ite_false, if_true, if_false, reduceCtorEq, true_and, and_true, narrow_i, narrow_l, narrow_r, narrow_n, fits_i, fits_l, fits_ro, fits_ra, fits_no, fits_na, Nat.reduceAdd, Nat.reduceLT, Nat.reduceLeDiff, Nat.reduceEqDiff, Nat.reduceSub, zero_add0, true_or, or_true, false_or, or_false, not_true_eq_false, not_false_eq_true, eq_self, i10, i01, im0, im1, h, r1, at_0, z0, z1, z2, a1, e0, q0, e3, q3]
      have set1 : ∀ (rest done : List Nat) (f : Nat → Int32) (hp2 : mj_H), (C i).2 = done ++ rest → hp2.1 (M + 6) = some (mz 128 f) → sm hp hp2 (M + 6) (M + 7) → (∀ x, x < 128 → f x = 0 ∨ f x = 1) → (∀ x, x < 128 → (f x = 1 ↔ un_neg x ∈ done)) → mj_wp 91 51 [some (.ref M), some (.int (nI i)), some (.int (nI done.length))] [] hp2 Q := by
        intro rest
        induction rest with
        | nil =>
          intro done f hp2 hd hf s2 f01 hfi
          rw [List.append_nil] at hd
          have ho2 : hp2.1 M = some (mo_o M n ln cm ul a b t) := (s2.2 _ (by omega)).trans h
          have hr2 : rows hp2 M C := hr.keep (s2.2 _ (by omega)) (s2.2 _ (by omega)) (s2.2 _ (by omega))
          have r2' : hp2.1 (M + 2) = some (ma 160 fm) := (s2.2 _ (by omega)).trans r2
          have e2 : nI (C i).2.length ≤ nI done.length := by rw [hd]; exact nI_le (Nat.le_refl _) (by rw [hd] at hlen; omega)
          rw [x_91_51]
          simp only [x_91_52, x_91_53, x_91_56, x_91_57, x_91_58, x_91_87, x_91_88, x_91_89, mw_nx, mw_no, mw_ite, mw_call, mw_ret, mw_cst, mw_ii, mw_i1, mw_ll, mw_l1, mw_li, mw_i2l, mw_l2i, mw_lcm, mw_if, mw_ic, mw_ifnN, mw_ifnR, mw_go, mw_dupi, mw_dupr, mw_popi, mw_popr, mw_nw, mw_rti, mw_rtl, mw_rtr, mw_rtn, mw_rtv, mw_rt0, mw_rt1, mj_ild, mj_lld, mj_ald, mj_ist, mj_lst, mj_ast, mj_inc, mj_iz, mj_get, mj_put, mj_len, mj_iar, mj_aar, mj_iaw, mj_aaw, mj_ivs, mj_ivv, mj_ivi, mj_ob, mj_tk, mj_cat, mj_st1, mj_st2, mj_clr, mj_nwi, mj_nwq, List.getElem?_cons_zero, List.getElem?_cons_succ, List.length_cons, List.length_nil, List.set_cons_zero, List.set_cons_succ, Value.category, decide_eq_true_eq, List.map_cons, List.map_nil, List.sum_cons, List.sum_nil, Option.toList, List.cons_append, List.nil_append, ite_true, ite_false, if_true, if_false, reduceCtorEq, true_and, and_true, narrow_i, narrow_l, narrow_r, narrow_n, fits_i, fits_l, fits_ro, fits_ra, fits_no, fits_na, Nat.reduceAdd, Nat.reduceLT, Nat.reduceLeDiff, Nat.reduceEqDiff, Nat.reduceSub, zero_add0, true_or, or_true, false_or, or_false, not_true_eq_false, not_false_eq_true, eq_self, i10, i01, im0, im1, ho2, r2', at_0, z0, z1, z2, a2, e2]
          refine m_clashes (A := fun x => un_neg x ∈ (C i).2) ho2 hr2 hn hi (fun j hj => hcb j (by omega)) hf f01 (fun x => ?_) (fun hc hp3 s3 f3 => ?_) (fun hc hp3 s3 f3 => ?_)
          · rw [hd]
            constructor
            · intro q
              have hb := hcb i (Nat.le_refl _) (un_neg x) (by rw [hd]; exact q)
              have hb2 := un_lt2 hb
              rw [un_neg_neg] at hb2
              exact ⟨hb2, (hfi x (by omega)).mpr q⟩
            · rintro ⟨q1, q2⟩
              exact (hfi x (by omega)).mp q2
          · simp only [x_91_92, mw_nx, mw_no, mw_ite, mw_call, mw_ret, mw_cst, mw_ii, mw_i1, mw_ll, mw_l1, mw_li, mw_i2l, mw_l2i, mw_lcm, mw_if, mw_ic, mw_ifnN, mw_ifnR, mw_go, mw_dupi, mw_dupr, mw_popi, mw_popr, mw_nw, mw_rti, mw_rtl, mw_rtr, mw_rtn, mw_rtv, mw_rt0, mw_rt1, mj_ild, mj_lld, mj_ald, mj_ist, mj_lst, mj_ast, mj_inc, mj_iz, mj_get, mj_put, mj_len, mj_iar, mj_aar, mj_iaw, mj_aaw, mj_ivs, mj_ivv, mj_ivi, mj_ob, mj_tk, mj_cat, mj_st1, mj_st2, mj_clr, mj_nwi, mj_nwq, List.getElem?_cons_zero, List.getElem?_cons_succ, List.length_cons, List.length_nil, List.set_cons_zero, List.set_cons_succ, Value.category, decide_eq_true_eq, List.map_cons, List.map_nil, List.sum_cons, List.sum_nil, Option.toList, List.cons_append, List.nil_append, ite_true, ite_false, if_true, if_false, reduceCtorEq, true_and, and_true, narrow_i, narrow_l, narrow_r, narrow_n, fits_i, fits_l, fits_ro, fits_ra, fits_no, fits_na, Nat.reduceAdd, Nat.reduceLT, Nat.reduceLeDiff, Nat.reduceEqDiff, Nat.reduceSub, zero_add0, true_or, or_true, false_or, or_false, not_true_eq_false, not_false_eq_true, eq_self, i10, i01, im0, im1]
            exact h1 (hiff.mpr hc) hp3 (s2.tr s3) f3
          · simp only [x_91_92, mw_nx, mw_no, mw_ite, mw_call, mw_ret, mw_cst, mw_ii, mw_i1, mw_ll, mw_l1, mw_li, mw_i2l, mw_l2i, mw_lcm, mw_if, mw_ic, mw_ifnN, mw_ifnR, mw_go, mw_dupi, mw_dupr, mw_popi, mw_popr, mw_nw, mw_rti, mw_rtl, mw_rtr, mw_rtn, mw_rtv, mw_rt0, mw_rt1, mj_ild, mj_lld, mj_ald, mj_ist, mj_lst, mj_ast, mj_inc, mj_iz, mj_get, mj_put, mj_len, mj_iar, mj_aar, mj_iaw, mj_aaw, mj_ivs, mj_ivv, mj_ivi, mj_ob, mj_tk, mj_cat, mj_st1, mj_st2, mj_clr, mj_nwi, mj_nwq, List.getElem?_cons_zero, List.getElem?_cons_succ, List.length_cons, List.length_nil, List.set_cons_zero, List.set_cons_succ, Value.category, decide_eq_true_eq, List.map_cons, List.map_nil, List.sum_cons, List.sum_nil, Option.toList, List.cons_append, List.nil_append, ite_true, ite_false, if_true, if_false, reduceCtorEq, true_and, and_true, narrow_i, narrow_l, narrow_r, narrow_n, fits_i, fits_l, fits_ro, fits_ra, fits_no, fits_na, Nat.reduceAdd, Nat.reduceLT, Nat.reduceLeDiff, Nat.reduceEqDiff, Nat.reduceSub, zero_add0, true_or, or_true, false_or, or_false, not_true_eq_false, not_false_eq_true, eq_self, i10, i01, im0, im1]
            exact h0 (fun q => hc (hiff.mp q)) hp3 (s2.tr s3) f3
        | cons c rest ih =>
          intro done f hp2 hd hf s2 f01 hfi
          have ho2 : hp2.1 M = some (mo_o M n ln cm ul a b t) := (s2.2 _ (by omega)).trans h
          have r2' : hp2.1 (M + 2) = some (ma 160 fm) := (s2.2 _ (by omega)).trans r2
          have r3' : hp2.1 (M + 3) = some (ma 20480 fl) := (s2.2 _ (by omega)).trans r3
          have hlt : done.length < (C i).2.length := by rw [hd]; simp
          have hc : (C i).2.getD done.length 0 = c := by rw [hd]; simp [List.getD_eq_getElem?_getD]
          have hc2 : c < 128 := a4.2 c (by rw [hd]; simp)
          have hn2 := un_lt c hc2
          have e2 : ¬ nI (C i).2.length ≤ nI done.length := nI_ge hlt (by omega)
          have j0 : ¬ nI (128 * i + done.length) < 0 := nI_pos (by omega)
          have j1 : (nI (128 * i + done.length)).toNatClampNeg = 128 * i + done.length := nI_clamp (by omega)
          have j2 : ¬ 20480 ≤ 128 * i + done.length := by omega
          have e4 : fl (128 * i + done.length) = nI c := by rw [a3 _ hlt, hc]
          have k0 : ¬ nI (un_neg c) < 0 := nI_pos (by omega)
          have k1 : (nI (un_neg c)).toNatClampNeg = un_neg c := nI_clamp (by omega)
          have k2 : ¬ 128 ≤ un_neg c := by omega
          rw [x_91_51]
          simp only [x_91_52, x_91_53, x_91_56, x_91_57, x_91_58, x_91_61, x_91_62, x_91_65, x_91_66, x_91_69, x_91_72, x_91_73, x_91_74, x_91_75, x_91_76, x_91_77, x_91_78, x_91_79, x_91_80, x_91_81, x_91_84, mw_nx, mw_no, mw_ite, mw_call, mw_ret, mw_cst, mw_ii, mw_i1, mw_ll, mw_l1, mw_li, mw_i2l, mw_l2i, mw_lcm, mw_if, mw_ic, mw_ifnN, mw_ifnR, mw_go, mw_dupi, mw_dupr, mw_popi, mw_popr, mw_nw, mw_rti, mw_rtl, mw_rtr, mw_rtn, mw_rtv, mw_rt0, mw_rt1, mj_ild, mj_lld, mj_ald, mj_ist, mj_lst, mj_ast, mj_inc, mj_iz, mj_get, mj_put, mj_len, mj_iar, mj_aar, mj_iaw, mj_aaw, mj_ivs, mj_ivv, mj_ivi, mj_ob, mj_tk, mj_cat, mj_st1, mj_st2, mj_clr, mj_nwi, mj_nwq, List.getElem?_cons_zero, List.getElem?_cons_succ, List.length_cons, List.length_nil, List.set_cons_zero, List.set_cons_succ, Value.category, decide_eq_true_eq, List.map_cons, List.map_nil, List.sum_cons, List.sum_nil, Option.toList, List.cons_append, List.nil_append, ite_true, ite_false, if_true, if_false, reduceCtorEq, true_and, and_true, narrow_i, narrow_l, narrow_r, narrow_n, fits_i, fits_l, fits_ro, fits_ra, fits_no, fits_na, Nat.reduceAdd, Nat.reduceLT, Nat.reduceLeDiff, Nat.reduceEqDiff, Nat.reduceSub, zero_add0, true_or, or_true, false_or, or_false, not_true_eq_false, not_false_eq_true, eq_self, i10, i01, im0, im1, ho2, r2', r3', at_0, z0, z1, z2, a2, e2, ix128, j0, j1, j2, e4, hf, at_1, un_xor c hc2, k0, k1, k2, nz1, nI_1]
          have := ih (done ++ [c]) (upd f (un_neg c) 1) _ (by rw [hd]; simp) (mj_up_at (hp := hp2)) (s2.tr (sm.up (by omega) (by omega))) (fun x hx => by
            by_cases hxe : x = un_neg c
            · subst hxe; rw [upd_at]; exact Or.inr rfl
            · rw [upd_off hxe]; exact f01 x hx) (fun x hx => by
            by_cases hxe : x = un_neg c
            · subst hxe; rw [upd_at, un_neg_neg]; simp
            · rw [upd_off hxe, hfi x hx]
              constructor
              · intro q; exact List.mem_append.mpr (Or.inl q)
              · intro q
                rcases List.mem_append.mp q with y | y
                · exact y
                · rw [List.mem_singleton] at y
                  exact absurd (by rw [← y, un_neg_neg]) hxe)
          simpa using this
      have clr : ∀ (e j : Nat) (f : Nat → Int32) (hp2 : mj_H), j + e = 128 → hp2.1 (M + 6) = some (mz 128 f) → sm hp hp2 (M + 6) (M + 7) → (∀ x, x < j → f x = 0) → mj_wp 91 29 [some (.ref M), some (.int (nI i)), some (.int (nI j))] [] hp2 Q := by
        intro e
        induction e with
        | zero =>
          intro j f hp2 hj hf s2 hz
          obtain rfl : j = 128 := by omega
          have e1 : (128 : Int32) ≤ nI 128 := by decide
          rw [x_91_29]
          simp only [x_91_30, x_91_33, x_91_49, x_91_50, mw_nx, mw_no, mw_ite, mw_call, mw_ret, mw_cst, mw_ii, mw_i1, mw_ll, mw_l1, mw_li, mw_i2l, mw_l2i, mw_lcm, mw_if, mw_ic, mw_ifnN, mw_ifnR, mw_go, mw_dupi, mw_dupr, mw_popi, mw_popr, mw_nw, mw_rti, mw_rtl, mw_rtr, mw_rtn, mw_rtv, mw_rt0, mw_rt1, mj_ild, mj_lld, mj_ald, mj_ist, mj_lst, mj_ast, mj_inc, mj_iz, mj_get, mj_put, mj_len, mj_iar, mj_aar, mj_iaw, mj_aaw, mj_ivs, mj_ivv, mj_ivi, mj_ob, mj_tk, mj_cat, mj_st1, mj_st2, mj_clr, mj_nwi, mj_nwq, List.getElem?_cons_zero, List.getElem?_cons_succ, List.length_cons, List.length_nil, List.set_cons_zero, List.set_cons_succ, Value.category, decide_eq_true_eq, List.map_cons, List.map_nil, List.sum_cons, List.sum_nil, Option.toList, List.cons_append, List.nil_append, ite_true, ite_false, if_true, if_false, reduceCtorEq, true_and, and_true, narrow_i, narrow_l, narrow_r, narrow_n, fits_i, fits_l, fits_ro, fits_ra, fits_no, fits_na, Nat.reduceAdd, Nat.reduceLT, Nat.reduceLeDiff, Nat.reduceEqDiff, Nat.reduceSub, zero_add0, true_or, or_true, false_or, or_false, not_true_eq_false, not_false_eq_true, eq_self, i10, i01, im0, im1, e1]
          exact set1 (C i).2 [] f hp2 rfl hf s2 (fun x hx => Or.inl (hz x hx)) (fun x hx => ⟨fun q => by rw [hz x hx] at q; exact absurd q (by decide), fun q => absurd q List.not_mem_nil⟩)
        | succ e ih =>
          intro j f hp2 hj hf s2 hz
          have ho2 : hp2.1 M = some (mo_o M n ln cm ul a b t) := (s2.2 _ (by omega)).trans h
          have e1 : ¬ (128 : Int32) ≤ nI j := nI_ge (b := 128) (by omega) (by omega)
          have k0 : ¬ nI j < 0 := nI_pos (by omega)
          have k1 : (nI j).toNatClampNeg = j := nI_clamp (by omega)
          have k2 : ¬ 128 ≤ j := by omega
          rw [x_91_29]
          simp only [x_91_30, x_91_33, x_91_36, x_91_37, x_91_40, x_91_41, x_91_42, x_91_43, x_91_46, mw_nx, mw_no, mw_ite, mw_call, mw_ret, mw_cst, mw_ii, mw_i1, mw_ll, mw_l1, mw_li, mw_i2l, mw_l2i, mw_lcm, mw_if, mw_ic, mw_ifnN, mw_ifnR, mw_go, mw_dupi, mw_dupr, mw_popi, mw_popr, mw_nw, mw_rti, mw_rtl, mw_rtr, mw_rtn, mw_rtv, mw_rt0, mw_rt1, mj_ild, mj_lld, mj_ald, mj_ist, mj_lst, mj_ast, mj_inc, mj_iz, mj_get, mj_put, mj_len, mj_iar, mj_aar, mj_iaw, mj_aaw, mj_ivs, mj_ivv, mj_ivi, mj_ob, mj_tk, mj_cat, mj_st1, mj_st2, mj_clr, mj_nwi, mj_nwq, List.getElem?_cons_zero, List.getElem?_cons_succ, List.length_cons, List.length_nil, List.set_cons_zero, List.set_cons_succ, Value.category, decide_eq_true_eq, List.map_cons, List.map_nil, List.sum_cons, List.sum_nil, Option.toList, List.cons_append, List.nil_append, ite_true, ite_false, if_true, if_false, reduceCtorEq, true_and, and_true, narrow_i, narrow_l, narrow_r, narrow_n, fits_i, fits_l, fits_ro, fits_ra, fits_no, fits_na, Nat.reduceAdd, Nat.reduceLT, Nat.reduceLeDiff, Nat.reduceEqDiff, Nat.reduceSub, zero_add0, true_or, or_true, false_or, or_false, not_true_eq_false, not_false_eq_true, eq_self, i10, i01, im0, im1, e1, ho2, hf, at_1, k0, k1, k2, nz0, nI_1]
          refine ih (j + 1) (upd f j 0) _ (by omega) mj_up_at (s2.tr (sm.up (by omega) (by omega))) (fun x hx => ?_)
          by_cases hxj : x = j
          · subst hxj; exact upd_at
          · rw [upd_off hxj]; exact hz x (by omega)
      exact clr 128 0 fh hp (by omega) hfh sm.rf (fun x hx => absurd hx (by omega))
end MR
