/-! A Reader: its object at R, its units at R + 1 -/
abbrev re_o (R n z p : Nat) : va_E := .inr (2, [.int (nI n), .ref (R + 1), .int (nI z), .int (nI p)])
abbrev re_u (f : Nat → Int32) : va_E := .inl (0, 4000, .inl f)
def re_at (hp : mj_H) (R n : Nat) (xs : List Nat) (p : Nat) : Prop := hp.1 R = some (re_o R n xs.length p) ∧ ∃ f, hp.1 (R + 1) = some (re_u f) ∧ (∀ j, j < xs.length → f j = nI (xs.getD j 0)) ∧ xs.length ≤ 4000 ∧ ∀ c ∈ xs, c < 256
theorem hv_some {xs : List Nat} {p c : Nat} (h : xs[p]? = some c) : hv xs p = nI c := by unfold hv; rw [h]
theorem hv_none {xs : List Nat} {p : Nat} (h : xs.length ≤ p) : hv xs p = -1 := by unfold hv; rw [List.getElem?_eq_none h]
theorem hv_eq {xs : List Nat} {p v : Nat} (hb : ∀ c ∈ xs, c < 256) (hv2 : v < 256) : (hv xs p = nI v) = (xs[p]? = some v) := by
  apply propext
  unfold hv
  cases h : xs[p]? with
  | none =>
    constructor
    · intro q
      exact absurd q (fun q => nI_pos (n := v) (by omega) (by rw [← q]; decide))
    · intro q; cases q
  | some c =>
    have := hb c (List.mem_of_getElem? h)
    constructor
    · intro q; rw [(nI_eq (by omega) (by omega)).mp q]
    · intro q; cases q; rfl
section RE
variable {hp : mj_H} {Q : mj_Q} {R n p : Nat} {xs : List Nat}
theorem re_at.pl (h : re_at hp R n xs p) (p' : Nat) : re_at (mj_up hp R (re_o R n xs.length p')) R n xs p' := by
  obtain ⟨h1, f, h2, h3⟩ := h
  exact ⟨mj_up_at, f, by rw [mj_up_off (by omega)]; exact h2, h3⟩
theorem c_here (h : re_at hp R n xs p) (hp31 : p < 2 ^ 31) : mj_call 72 [.ref R] hp Q = Q (some (.int (hv xs p))) hp := by
  obtain ⟨h1, f, h2, h3, h4, h5⟩ := h
  have z0 : ¬ nI p < 0 := nI_pos hp31
  rw [en_72]
  by_cases hlt : p < xs.length
  · have e1 : ¬ nI xs.length ≤ nI p := nI_ge hlt (by omega)
    have e2 : ¬ Int32.ofNat 4000 ≤ nI p := nI_ge (b := 4000) (by omega) (by omega)
    have z1 : (nI p).toNatClampNeg = p := nI_clamp hp31
    have z2 : ¬ 4000 ≤ p := by omega
    have e3 : f p = hv xs p := by rw [h3 p hlt, hv_some (List.getElem?_eq_getElem hlt), List.getD_eq_getElem?_getD, List.getElem?_eq_getElem hlt]; rfl
    simp only [x_72_0, x_72_1, x_72_4, x_72_7, x_72_8, x_72_11, x_72_12, x_72_15, x_72_18, x_72_19, x_72_22, x_72_23, x_72_26, x_72_27, x_72_30, x_72_31, x_72_34, x_72_35, x_72_38, x_72_39, x_72_42, x_72_43, mw_nx, mw_no, mw_ite, mw_call, mw_ret, mw_cst, mw_ii, mw_i1, mw_ll, mw_l1, mw_li, mw_i2l, mw_l2i, mw_lcm, mw_if, mw_ic, mw_ifnN, mw_ifnR, mw_go, mw_dupi, mw_dupr, mw_popi, mw_popr, mw_nw, mw_rti, mw_rtl, mw_rtr, mw_rtn, mw_rtv, mw_rt0, mw_rt1, mj_ild, mj_lld, mj_ald, mj_ist, mj_lst, mj_ast, mj_inc, mj_iz, mj_get, mj_put, mj_len, mj_iar, mj_aar, mj_iaw, mj_aaw, mj_ivs, mj_ivv, mj_ivi, mj_ob, mj_tk, mj_cat, mj_st1, mj_st2, mj_clr, mj_nwi, mj_nwq, List.getElem?_cons_zero, List.getElem?_cons_succ, List.length_cons, List.length_nil, List.set_cons_zero, List.set_cons_succ, Value.category, decide_eq_true_eq, List.map_cons, List.map_nil, List.sum_cons, List.sum_nil, Option.toList, List.cons_append, List.nil_append, ite_true, ite_false, if_true, if_false, reduceCtorEq, true_and, and_true, narrow_i, narrow_l, narrow_r, narrow_n, fits_i, fits_l, fits_ro, fits_ra, fits_no, fits_na, Nat.reduceAdd, Nat.reduceLT, Nat.reduceLeDiff, Nat.reduceEqDiff, Nat.reduceSub, zero_add0, true_or, or_true, false_or, or_false, not_true_eq_false, not_false_eq_true, eq_self, i10, i01, im0, im1, h1, h2, z0, z1, z2, e1, e2, e3, at_0, at_len]
  · have e1 : nI xs.length ≤ nI p := nI_le (by omega) hp31
    rw [hv_none (by omega)]
    simp only [x_72_0, x_72_1, x_72_4, x_72_7, x_72_8, x_72_11, x_72_12, x_72_15, x_72_18, x_72_19, x_72_22, x_72_23, x_72_26, x_72_27, x_72_30, x_72_31, x_72_34, x_72_35, x_72_38, x_72_39, x_72_42, x_72_43, mw_nx, mw_no, mw_ite, mw_call, mw_ret, mw_cst, mw_ii, mw_i1, mw_ll, mw_l1, mw_li, mw_i2l, mw_l2i, mw_lcm, mw_if, mw_ic, mw_ifnN, mw_ifnR, mw_go, mw_dupi, mw_dupr, mw_popi, mw_popr, mw_nw, mw_rti, mw_rtl, mw_rtr, mw_rtn, mw_rtv, mw_rt0, mw_rt1, mj_ild, mj_lld, mj_ald, mj_ist, mj_lst, mj_ast, mj_inc, mj_iz, mj_get, mj_put, mj_len, mj_iar, mj_aar, mj_iaw, mj_aaw, mj_ivs, mj_ivv, mj_ivi, mj_ob, mj_tk, mj_cat, mj_st1, mj_st2, mj_clr, mj_nwi, mj_nwq, List.getElem?_cons_zero, List.getElem?_cons_succ, List.length_cons, List.length_nil, List.set_cons_zero, List.set_cons_succ, Value.category, decide_eq_true_eq, List.map_cons, List.map_nil, List.sum_cons, List.sum_nil, Option.toList, List.cons_append, List.nil_append, ite_true, ite_false, if_true, if_false, reduceCtorEq, true_and, and_true, narrow_i, narrow_l, narrow_r, narrow_n, fits_i, fits_l, fits_ro, fits_ra, fits_no, fits_na, Nat.reduceAdd, Nat.reduceLT, Nat.reduceLeDiff, Nat.reduceEqDiff, Nat.reduceSub, zero_add0, true_or, or_true, false_or, or_false, not_true_eq_false, not_false_eq_true, eq_self, i10, i01, im0, im1, h1, z0, e1]
theorem c_place (h : re_at hp R n xs p) : mj_call 67 [.ref R] hp Q = Q (some (.int (nI p))) hp := by
  rw [en_67]; simp only [x_67_0, x_67_1, x_67_4, mw_nx, mw_no, mw_ite, mw_call, mw_ret, mw_cst, mw_ii, mw_i1, mw_ll, mw_l1, mw_li, mw_i2l, mw_l2i, mw_lcm, mw_if, mw_ic, mw_ifnN, mw_ifnR, mw_go, mw_dupi, mw_dupr, mw_popi, mw_popr, mw_nw, mw_rti, mw_rtl, mw_rtr, mw_rtn, mw_rtv, mw_rt0, mw_rt1, mj_ild, mj_lld, mj_ald, mj_ist, mj_lst, mj_ast, mj_inc, mj_iz, mj_get, mj_put, mj_len, mj_iar, mj_aar, mj_iaw, mj_aaw, mj_ivs, mj_ivv, mj_ivi, mj_ob, mj_tk, mj_cat, mj_st1, mj_st2, mj_clr, mj_nwi, mj_nwq, List.getElem?_cons_zero, List.getElem?_cons_succ, List.length_cons, List.length_nil, List.set_cons_zero, List.set_cons_succ, Value.category, decide_eq_true_eq, List.map_cons, List.map_nil, List.sum_cons, List.sum_nil, Option.toList, List.cons_append, List.nil_append, ite_true, ite_false, if_true, if_false, reduceCtorEq, true_and, and_true, narrow_i, narrow_l, narrow_r, narrow_n, fits_i, fits_l, fits_ro, fits_ra, fits_no, fits_na, Nat.reduceAdd, Nat.reduceLT, Nat.reduceLeDiff, Nat.reduceEqDiff, Nat.reduceSub, zero_add0, true_or, or_true, false_or, or_false, not_true_eq_false, not_false_eq_true, eq_self, i10, i01, im0, im1, h.1]
theorem c_forget (h : re_at hp R n xs p) : mj_call 66 [.ref R] hp Q = Q none (mj_up hp R (re_o R n 0 p)) := by
  rw [en_66]; simp only [x_66_0, x_66_1, x_66_2, x_66_5, mw_nx, mw_no, mw_ite, mw_call, mw_ret, mw_cst, mw_ii, mw_i1, mw_ll, mw_l1, mw_li, mw_i2l, mw_l2i, mw_lcm, mw_if, mw_ic, mw_ifnN, mw_ifnR, mw_go, mw_dupi, mw_dupr, mw_popi, mw_popr, mw_nw, mw_rti, mw_rtl, mw_rtr, mw_rtn, mw_rtv, mw_rt0, mw_rt1, mj_ild, mj_lld, mj_ald, mj_ist, mj_lst, mj_ast, mj_inc, mj_iz, mj_get, mj_put, mj_len, mj_iar, mj_aar, mj_iaw, mj_aaw, mj_ivs, mj_ivv, mj_ivi, mj_ob, mj_tk, mj_cat, mj_st1, mj_st2, mj_clr, mj_nwi, mj_nwq, List.getElem?_cons_zero, List.getElem?_cons_succ, List.length_cons, List.length_nil, List.set_cons_zero, List.set_cons_succ, Value.category, decide_eq_true_eq, List.map_cons, List.map_nil, List.sum_cons, List.sum_nil, Option.toList, List.cons_append, List.nil_append, ite_true, ite_false, if_true, if_false, reduceCtorEq, true_and, and_true, narrow_i, narrow_l, narrow_r, narrow_n, fits_i, fits_l, fits_ro, fits_ra, fits_no, fits_na, Nat.reduceAdd, Nat.reduceLT, Nat.reduceLeDiff, Nat.reduceEqDiff, Nat.reduceSub, zero_add0, true_or, or_true, false_or, or_false, not_true_eq_false, not_false_eq_true, eq_self, i10, i01, im0, im1, h.1]
  rfl
theorem c_take (h : re_at hp R n xs p) (x : Int32) (ht : 0 ≤ x → x ≤ 255 → xs.length < 4000 → ∀ hp' : mj_H, re_at hp' R n (xs ++ [x.toNatClampNeg]) p → sm hp hp' R (R + 2) → Q (some (.int 1)) hp') (hf : ¬ (0 ≤ x ∧ x ≤ 255 ∧ xs.length < 4000) → Q (some (.int 0)) hp) : mj_call 65 [.ref R, .int x] hp Q := by
  obtain ⟨h1, f, h2, h3, h4, h5⟩ := h
  have z0 : ¬ nI xs.length < 0 := nI_pos (by omega)
  have e1 : (nI xs.length < Int32.ofNat 4000) = (xs.length < 4000) := propext (nI_ltI (b := 4000) (by omega) (by omega))
  rw [en_65]
  by_cases x0 : x < 0
  · simp only [x_65_0, x_65_1, x_65_4, x_65_5, x_65_8, x_65_11, x_65_12, x_65_15, x_65_18, x_65_19, x_65_22, x_65_23, x_65_26, x_65_27, x_65_30, x_65_31, x_65_32, x_65_33, x_65_36, x_65_37, x_65_40, x_65_41, x_65_42, x_65_43, x_65_44, x_65_47, x_65_48, x_65_49, x_65_52, x_65_53, mw_nx, mw_no, mw_ite, mw_call, mw_ret, mw_cst, mw_ii, mw_i1, mw_ll, mw_l1, mw_li, mw_i2l, mw_l2i, mw_lcm, mw_if, mw_ic, mw_ifnN, mw_ifnR, mw_go, mw_dupi, mw_dupr, mw_popi, mw_popr, mw_nw, mw_rti, mw_rtl, mw_rtr, mw_rtn, mw_rtv, mw_rt0, mw_rt1, mj_ild, mj_lld, mj_ald, mj_ist, mj_lst, mj_ast, mj_inc, mj_iz, mj_get, mj_put, mj_len, mj_iar, mj_aar, mj_iaw, mj_aaw, mj_ivs, mj_ivv, mj_ivi, mj_ob, mj_tk, mj_cat, mj_st1, mj_st2, mj_clr, mj_nwi, mj_nwq, List.getElem?_cons_zero, List.getElem?_cons_succ, List.length_cons, List.length_nil, List.set_cons_zero, List.set_cons_succ, Value.category, decide_eq_true_eq, List.map_cons, List.map_nil, List.sum_cons, List.sum_nil, Option.toList, List.cons_append, List.nil_append, ite_true, ite_false, if_true, if_false, reduceCtorEq, true_and, and_true, narrow_i, narrow_l, narrow_r, narrow_n, fits_i, fits_l, fits_ro, fits_ra, fits_no, fits_na, Nat.reduceAdd, Nat.reduceLT, Nat.reduceLeDiff, Nat.reduceEqDiff, Nat.reduceSub, zero_add0, true_or, or_true, false_or, or_false, not_true_eq_false, not_false_eq_true, eq_self, i10, i01, im0, im1, x0]
    refine hf (fun q => ?_)
    have := q.1
    rw [Int32.le_iff_toInt_le] at this; rw [Int32.lt_iff_toInt_lt] at x0; omega
  · by_cases x1 : 255 < x
    · simp only [x_65_0, x_65_1, x_65_4, x_65_5, x_65_8, x_65_11, x_65_12, x_65_15, x_65_18, x_65_19, x_65_22, x_65_23, x_65_26, x_65_27, x_65_30, x_65_31, x_65_32, x_65_33, x_65_36, x_65_37, x_65_40, x_65_41, x_65_42, x_65_43, x_65_44, x_65_47, x_65_48, x_65_49, x_65_52, x_65_53, mw_nx, mw_no, mw_ite, mw_call, mw_ret, mw_cst, mw_ii, mw_i1, mw_ll, mw_l1, mw_li, mw_i2l, mw_l2i, mw_lcm, mw_if, mw_ic, mw_ifnN, mw_ifnR, mw_go, mw_dupi, mw_dupr, mw_popi, mw_popr, mw_nw, mw_rti, mw_rtl, mw_rtr, mw_rtn, mw_rtv, mw_rt0, mw_rt1, mj_ild, mj_lld, mj_ald, mj_ist, mj_lst, mj_ast, mj_inc, mj_iz, mj_get, mj_put, mj_len, mj_iar, mj_aar, mj_iaw, mj_aaw, mj_ivs, mj_ivv, mj_ivi, mj_ob, mj_tk, mj_cat, mj_st1, mj_st2, mj_clr, mj_nwi, mj_nwq, List.getElem?_cons_zero, List.getElem?_cons_succ, List.length_cons, List.length_nil, List.set_cons_zero, List.set_cons_succ, Value.category, decide_eq_true_eq, List.map_cons, List.map_nil, List.sum_cons, List.sum_nil, Option.toList, List.cons_append, List.nil_append, ite_true, ite_false, if_true, if_false, reduceCtorEq, true_and, and_true, narrow_i, narrow_l, narrow_r, narrow_n, fits_i, fits_l, fits_ro, fits_ra, fits_no, fits_na, Nat.reduceAdd, Nat.reduceLT, Nat.reduceLeDiff, Nat.reduceEqDiff, Nat.reduceSub, zero_add0, true_or, or_true, false_or, or_false, not_true_eq_false, not_false_eq_true, eq_self, i10, i01, im0, im1, x0, x1]
      refine hf (fun q => ?_)
      have := q.2.1
      rw [Int32.le_iff_toInt_le] at this; rw [Int32.lt_iff_toInt_lt] at x1; omega
    · by_cases x2 : xs.length < 4000
      · have y0 : 0 ≤ x := by rw [Int32.le_iff_toInt_le]; rw [Int32.lt_iff_toInt_lt] at x0; omega
        have y1 : x ≤ 255 := by rw [Int32.le_iff_toInt_le]; rw [Int32.lt_iff_toInt_lt] at x1; omega
        obtain ⟨j, hj, rfl⟩ := nI_of2 (M := 255) (n := 255) (by decide) x0 y1
        have z1 : (nI xs.length).toNatClampNeg = xs.length := nI_clamp (by omega)
        have z2 : ¬ 4000 ≤ xs.length := by omega
        have o1 : ∀ (e : va_E), (mj_up hp (R + 1) e).1 R = hp.1 R := fun _ => mj_up_off (by omega)
        simp only [x_65_0, x_65_1, x_65_4, x_65_5, x_65_8, x_65_11, x_65_12, x_65_15, x_65_18, x_65_19, x_65_22, x_65_23, x_65_26, x_65_27, x_65_30, x_65_31, x_65_32, x_65_33, x_65_36, x_65_37, x_65_40, x_65_41, x_65_42, x_65_43, x_65_44, x_65_47, x_65_48, x_65_49, x_65_52, x_65_53, mw_nx, mw_no, mw_ite, mw_call, mw_ret, mw_cst, mw_ii, mw_i1, mw_ll, mw_l1, mw_li, mw_i2l, mw_l2i, mw_lcm, mw_if, mw_ic, mw_ifnN, mw_ifnR, mw_go, mw_dupi, mw_dupr, mw_popi, mw_popr, mw_nw, mw_rti, mw_rtl, mw_rtr, mw_rtn, mw_rtv, mw_rt0, mw_rt1, mj_ild, mj_lld, mj_ald, mj_ist, mj_lst, mj_ast, mj_inc, mj_iz, mj_get, mj_put, mj_len, mj_iar, mj_aar, mj_iaw, mj_aaw, mj_ivs, mj_ivv, mj_ivi, mj_ob, mj_tk, mj_cat, mj_st1, mj_st2, mj_clr, mj_nwi, mj_nwq, List.getElem?_cons_zero, List.getElem?_cons_succ, List.length_cons, List.length_nil, List.set_cons_zero, List.set_cons_succ, Value.category, decide_eq_true_eq, List.map_cons, List.map_nil, List.sum_cons, List.sum_nil, Option.toList, List.cons_append, List.nil_append, ite_true, ite_false, if_true, if_false, reduceCtorEq, true_and, and_true, narrow_i, narrow_l, narrow_r, narrow_n, fits_i, fits_l, fits_ro, fits_ra, fits_no, fits_na, Nat.reduceAdd, Nat.reduceLT, Nat.reduceLeDiff, Nat.reduceEqDiff, Nat.reduceSub, zero_add0, true_or, or_true, false_or, or_false, not_true_eq_false, not_false_eq_true, eq_self, i10, i01, im0, im1, x0, x1, h1, h2, z0, z1, z2, e1, x2, at_0, at_len, o1, nI_1]
        refine ht y0 y1 x2 _ ⟨?_, upd f xs.length (nI j), ?_, fun i hi => ?_, ?_, fun c hc => ?_⟩ ((sm.up (by omega) (by omega)).tr (sm.up (by omega) (by omega)))
        · rw [mj_up_at]; simp
        · rw [mj_up_off (by omega), mj_up_at]
        · rw [nI_clamp (by omega)]
          by_cases hi2 : i = xs.length
          · subst hi2
            simp [upd, List.getD_eq_getElem?_getD]
          · have hi3 : i < xs.length := by simp at hi; omega
            rw [show upd f xs.length (nI j) i = f i by simp [upd, hi2], h3 i hi3, getD_app_l hi3]
        · simp; omega
        · rcases List.mem_append.mp hc with q | q
          · exact h5 c q
          · rw [List.mem_singleton] at q; rw [q, nI_clamp (by omega)]; omega
      · have q2 := eq_false x2
        simp only [x_65_0, x_65_1, x_65_4, x_65_5, x_65_8, x_65_11, x_65_12, x_65_15, x_65_18, x_65_19, x_65_22, x_65_23, x_65_26, x_65_27, x_65_30, x_65_31, x_65_32, x_65_33, x_65_36, x_65_37, x_65_40, x_65_41, x_65_42, x_65_43, x_65_44, x_65_47, x_65_48, x_65_49, x_65_52, x_65_53, mw_nx, mw_no, mw_ite, mw_call, mw_ret, mw_cst, mw_ii, mw_i1, mw_ll, mw_l1, mw_li, mw_i2l, mw_l2i, mw_lcm, mw_if, mw_ic, mw_ifnN, mw_ifnR, mw_go, mw_dupi, mw_dupr, mw_popi, mw_popr, mw_nw, mw_rti, mw_rtl, mw_rtr, mw_rtn, mw_rtv, mw_rt0, mw_rt1, mj_ild, mj_lld, mj_ald, mj_ist, mj_lst, mj_ast, mj_inc, mj_iz, mj_get, mj_put, mj_len, mj_iar, mj_aar, mj_iaw, mj_aaw, mj_ivs, mj_ivv, mj_ivi, mj_ob, mj_tk, mj_cat, mj_st1, mj_st2, mj_clr, mj_nwi, mj_nwq, List.getElem?_cons_zero, List.getElem?_cons_succ, List.length_cons, List.length_nil, List.set_cons_zero, List.set_cons_succ, Value.category, decide_eq_true_eq, List.map_cons, List.map_nil, List.sum_cons, List.sum_nil, Option.toList, List.cons_append, List.nil_append, ite_true, ite_false, if_true, if_false, reduceCtorEq, true_and, and_true, narrow_i, narrow_l, narrow_r, narrow_n, fits_i, fits_l, fits_ro, fits_ra, fits_no, fits_na, Nat.reduceAdd, Nat.reduceLT, Nat.reduceLeDiff, Nat.reduceEqDiff, Nat.reduceSub, zero_add0, true_or, or_true, false_or, or_false, not_true_eq_false, not_false_eq_true, eq_self, i10, i01, im0, im1, x0, x1, h1, h2, z0, e1, q2, at_len]
        exact hf (fun q => x2 q.2.2)
theorem c_sortOf (hb : ∀ c ∈ xs, c < 256) : mj_call 73 [.int (hv xs p)] hp Q = Q (some (.int (match rd_kind xs p with | some k => nI k | none => -1))) hp := by
  have l0 : mj_call 46 [.int 0] = mj_call 46 [.int (nI 0)] := rfl
  have l1 : mj_call 46 [.int 1] = mj_call 46 [.int (nI 1)] := rfl
  have l2 : mj_call 46 [.int 2] = mj_call 46 [.int (nI 2)] := rfl
  have l3 : mj_call 46 [.int 3] = mj_call 46 [.int (nI 3)] := rfl
  have a0 : (0 : Int32) + 1 = 1 := by decide
  have a1 : (1 : Int32) + 1 = 2 := by decide
  have a2 : (2 : Int32) + 1 = 3 := by decide
  have a3 : (3 : Int32) + 1 = 4 := by decide
  have b0 : ((3 : Int32) < 0) = False := by decide
  have b1 : ((3 : Int32) < 1) = False := by decide
  have b2 : ((3 : Int32) < 2) = False := by decide
  have b3 : ((3 : Int32) < 3) = False := by decide
  have b4 : ((3 : Int32) < 4) = True := by decide
  have s0 : sp_letter 0 = 103 := rfl
  have s1 : sp_letter 1 = 108 := rfl
  have s2 : sp_letter 2 = 106 := rfl
  have s3 : sp_letter 3 = 97 := rfl
  have e0 : (nI 103 = hv xs p) = (xs[p]? = some 103) := by rw [eq_comm (a := nI 103)]; exact hv_eq hb (by decide)
  have e1 : (nI 108 = hv xs p) = (xs[p]? = some 108) := by rw [eq_comm (a := nI 108)]; exact hv_eq hb (by decide)
  have e2 : (nI 106 = hv xs p) = (xs[p]? = some 106) := by rw [eq_comm (a := nI 106)]; exact hv_eq hb (by decide)
  have e3 : (nI 97 = hv xs p) = (xs[p]? = some 97) := by rw [eq_comm (a := nI 97)]; exact hv_eq hb (by decide)
  rw [en_73]
  simp only [x_73_0, x_73_1, x_73_2, x_73_3, x_73_4, x_73_7, x_73_8, x_73_11, x_73_12, x_73_15, x_73_16, x_73_17, x_73_20, x_73_23, x_73_24, mw_nx, mw_no, mw_ite, mw_call, mw_ret, mw_cst, mw_ii, mw_i1, mw_ll, mw_l1, mw_li, mw_i2l, mw_l2i, mw_lcm, mw_if, mw_ic, mw_ifnN, mw_ifnR, mw_go, mw_dupi, mw_dupr, mw_popi, mw_popr, mw_nw, mw_rti, mw_rtl, mw_rtr, mw_rtn, mw_rtv, mw_rt0, mw_rt1, mj_ild, mj_lld, mj_ald, mj_ist, mj_lst, mj_ast, mj_inc, mj_iz, mj_get, mj_put, mj_len, mj_iar, mj_aar, mj_iaw, mj_aaw, mj_ivs, mj_ivv, mj_ivi, mj_ob, mj_tk, mj_cat, mj_st1, mj_st2, mj_clr, mj_nwi, mj_nwq, List.getElem?_cons_zero, List.getElem?_cons_succ, List.length_cons, List.length_nil, List.set_cons_zero, List.set_cons_succ, Value.category, decide_eq_true_eq, List.map_cons, List.map_nil, List.sum_cons, List.sum_nil, Option.toList, List.cons_append, List.nil_append, ite_true, ite_false, if_true, if_false, reduceCtorEq, true_and, and_true, narrow_i, narrow_l, narrow_r, narrow_n, fits_i, fits_l, fits_ro, fits_ra, fits_no, fits_na, Nat.reduceAdd, Nat.reduceLT, Nat.reduceLeDiff, Nat.reduceEqDiff, Nat.reduceSub, zero_add0, true_or, or_true, false_or, or_false, not_true_eq_false, not_false_eq_true, eq_self, i10, i01, im0, im1, l0, l1, l2, l3, a0, a1, a2, a3, b0, b1, b2, b3, b4, c_letterOf (show 0 ≤ 3 by omega), c_letterOf (show 1 ≤ 3 by omega), c_letterOf (show 2 ≤ 3 by omega), c_letterOf (show 3 ≤ 3 by omega), s0, s1, s2, s3, e0, e1, e2, e3]
  unfold rd_kind
  by_cases q0 : xs[p]? = some 103
  · have t0 := eq_true q0
    simp only [t0, if_true, not_true_eq_false, if_false]
    rfl
  · have t0 := eq_false q0
    by_cases q1 : xs[p]? = some 108
    · have t1 := eq_true q1
      simp only [t0, t1, if_true, not_true_eq_false, not_false_eq_true, if_false]
      rfl
    · have t1 := eq_false q1
      by_cases q2 : xs[p]? = some 106
      · have t2 := eq_true q2
        simp only [t0, t1, t2, if_true, not_true_eq_false, not_false_eq_true, if_false]
        rfl
      · have t2 := eq_false q2
        by_cases q3 : xs[p]? = some 97
        · have t3 := eq_true q3
          simp only [t0, t1, t2, t3, if_true, not_true_eq_false, not_false_eq_true, if_false]
          rfl
        · have t3 := eq_false q3
          simp only [t0, t1, t2, t3, if_true, not_true_eq_false, not_false_eq_true, if_false]
end RE
