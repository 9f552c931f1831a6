/-! A Line as text -/
theorem c_letterOf {hp : mj_H} {Q : mj_Q} {s : Nat} (hs : s ≤ 3) : mj_call 46 [.int (nI s)] hp Q = Q (some (.int (nI (sp_letter s)))) hp := by
  rw [en_46]
  simp only [x_46_0, x_46_1, x_46_4, x_46_6, x_46_9, x_46_10, x_46_11, x_46_14, x_46_16, x_46_19, x_46_20, x_46_21, x_46_24, x_46_26, x_46_29, x_46_31, mw_nx, mw_no, mw_ite, mw_call, mw_ret, mw_cst, mw_ii, mw_i1, mw_ll, mw_l1, mw_li, mw_i2l, mw_l2i, mw_lcm, mw_if, mw_ic, mw_ifnN, mw_ifnR, mw_go, mw_dupi, mw_dupr, mw_popi, mw_popr, mw_nw, mw_rti, mw_rtl, mw_rtr, mw_rtn, mw_rtv, mw_rt0, mw_rt1, mj_ild, mj_lld, mj_ald, mj_ist, mj_lst, mj_ast, mj_inc, mj_iz, mj_get, mj_put, mj_len, mj_iar, mj_aar, mj_iaw, mj_aaw, mj_ivs, mj_ivv, mj_ivi, mj_ob, mj_tk, mj_cat, mj_st1, mj_st2, mj_clr, mj_nwi, mj_nwq, List.getElem?_cons_zero, List.getElem?_cons_succ, List.length_cons, List.length_nil, List.set_cons_zero, List.set_cons_succ, Value.category, decide_eq_true_eq, List.map_cons, List.map_nil, List.sum_cons, List.sum_nil, Option.toList, List.cons_append, List.nil_append, ite_true, ite_false, if_true, if_false, reduceCtorEq, true_and, and_true, narrow_i, narrow_l, narrow_r, narrow_n, fits_i, fits_l, fits_ro, fits_ra, fits_no, fits_na, Nat.reduceAdd, Nat.reduceLT, Nat.reduceLeDiff, Nat.reduceEqDiff, Nat.reduceSub, zero_add0, true_or, or_true, false_or, or_false, not_true_eq_false, not_false_eq_true, eq_self, i10, i01, im0, im1]
  obtain rfl | rfl | rfl | rfl : s = 0 ∨ s = 1 ∨ s = 2 ∨ s = 3 := by omega
  all_goals rfl
theorem c_numberOf {hp : mj_H} {Q : mj_Q} {k : Nat} (hk : k < 128) : mj_call 44 [.int (nI k)] hp Q = Q (some (.int (nI (k / 2 + 1)))) hp := by
  rw [en_44]
  simp only [x_44_0, x_44_1, x_44_2, x_44_3, x_44_4, x_44_5, mw_nx, mw_no, mw_ite, mw_call, mw_ret, mw_cst, mw_ii, mw_i1, mw_ll, mw_l1, mw_li, mw_i2l, mw_l2i, mw_lcm, mw_if, mw_ic, mw_ifnN, mw_ifnR, mw_go, mw_dupi, mw_dupr, mw_popi, mw_popr, mw_nw, mw_rti, mw_rtl, mw_rtr, mw_rtn, mw_rtv, mw_rt0, mw_rt1, mj_ild, mj_lld, mj_ald, mj_ist, mj_lst, mj_ast, mj_inc, mj_iz, mj_get, mj_put, mj_len, mj_iar, mj_aar, mj_iaw, mj_aaw, mj_ivs, mj_ivv, mj_ivi, mj_ob, mj_tk, mj_cat, mj_st1, mj_st2, mj_clr, mj_nwi, mj_nwq, List.getElem?_cons_zero, List.getElem?_cons_succ, List.length_cons, List.length_nil, List.set_cons_zero, List.set_cons_succ, Value.category, decide_eq_true_eq, List.map_cons, List.map_nil, List.sum_cons, List.sum_nil, Option.toList, List.cons_append, List.nil_append, ite_true, ite_false, if_true, if_false, reduceCtorEq, true_and, and_true, narrow_i, narrow_l, narrow_r, narrow_n, fits_i, fits_l, fits_ro, fits_ra, fits_no, fits_na, Nat.reduceAdd, Nat.reduceLT, Nat.reduceLeDiff, Nat.reduceEqDiff, Nat.reduceSub, zero_add0, true_or, or_true, false_or, or_false, not_true_eq_false, not_false_eq_true, eq_self, i10, i01, im0, im1, cd_shr1 (show k < 2 ^ 31 by omega), nI_1]
theorem fb_0 {k : Nat} (hk : k < 128) : (fb k = 0) = ¬ (k % 2 = 0) := by
  apply propext
  rw [lb_eq0]
  constructor
  · intro h e
    have := h (k / 2) (by omega)
    rw [lb_fb hk] at this
    simp at this
    omega
  · intro e i hi
    rw [lb_fb hk]
    simp
    omega
theorem sp_lit_len {k : Nat} (hk : k < 128) : (sp_lit k).length = 2 + (if k % 2 = 0 then 1 else 0) + (if k / 2 + 1 < 10 then 0 else 1) := by
  unfold sp_lit sp_num
  by_cases h1 : k % 2 = 0 <;> by_cases h2 : k / 2 + 1 < 10 <;> simp [h1, h2]
theorem c_widthOf {hp : mj_H} {Q : mj_Q} {k : Nat} (hk : k < 128) : mj_call 43 [.int (nI k)] hp Q = Q (some (.int (nI (sp_lit k).length))) hp := by
  rw [en_43]
  have e1 : (nI (k / 2 + 1) < 10) = (k / 2 + 1 < 10) := propext (nI_ltI (b := 10) (by omega) (by omega))
  have e2 := fb_0 hk
  rw [sp_lit_len hk]
  by_cases h1 : k % 2 = 0 <;> by_cases h2 : k / 2 + 1 < 10
  all_goals
    simp only [x_43_0, x_43_1, x_43_2, x_43_5, x_43_6, x_43_7, x_43_10, x_43_11, x_43_14, x_43_15, x_43_16, x_43_17, x_43_20, x_43_22, x_43_25, x_43_26, x_43_29, x_43_30, x_43_31, mw_nx, mw_no, mw_ite, mw_call, mw_ret, mw_cst, mw_ii, mw_i1, mw_ll, mw_l1, mw_li, mw_i2l, mw_l2i, mw_lcm, mw_if, mw_ic, mw_ifnN, mw_ifnR, mw_go, mw_dupi, mw_dupr, mw_popi, mw_popr, mw_nw, mw_rti, mw_rtl, mw_rtr, mw_rtn, mw_rtv, mw_rt0, mw_rt1, mj_ild, mj_lld, mj_ald, mj_ist, mj_lst, mj_ast, mj_inc, mj_iz, mj_get, mj_put, mj_len, mj_iar, mj_aar, mj_iaw, mj_aaw, mj_ivs, mj_ivv, mj_ivi, mj_ob, mj_tk, mj_cat, mj_st1, mj_st2, mj_clr, mj_nwi, mj_nwq, List.getElem?_cons_zero, List.getElem?_cons_succ, List.length_cons, List.length_nil, List.set_cons_zero, List.set_cons_succ, Value.category, decide_eq_true_eq, List.map_cons, List.map_nil, List.sum_cons, List.sum_nil, Option.toList, List.cons_append, List.nil_append, ite_true, ite_false, if_true, if_false, reduceCtorEq, true_and, and_true, narrow_i, narrow_l, narrow_r, narrow_n, fits_i, fits_l, fits_ro, fits_ra, fits_no, fits_na, Nat.reduceAdd, Nat.reduceLT, Nat.reduceLeDiff, Nat.reduceEqDiff, Nat.reduceSub, zero_add0, true_or, or_true, false_or, or_false, not_true_eq_false, not_false_eq_true, eq_self, i10, i01, im0, im1, c_fb (show k < 2 ^ 31 by omega), c_numberOf hk, cmp0, e1, e2, h1, h2]
    rfl
def by_of (k i w : Nat) : Int32 := if nI i = 0 then 32 else if ¬ nI i = nI w - 1 then (if ¬ nI i = 1 then 48 + nI (k / 2 + 1) / 10 else if k % 2 = 0 then 45 else 48 + nI (k / 2 + 1) / 10) else 48 + (nI (k / 2 + 1) - nI (k / 2 + 1) / 10 * 10)
theorem by_of_eq : ∀ k, k < 128 → ∀ i, i < 4 → i < (sp_lit k).length → by_of k i (sp_lit k).length = nI ((sp_lit k).getD i 0) := by decide +kernel
theorem i10z : ((10 : Int32) = 0) = False := by decide
theorem c_byteOf {hp : mj_H} {Q : mj_Q} {k i : Nat} (hk : k < 128) (hi : i < (sp_lit k).length) : mj_call 45 [.int (nI k), .int (nI i), .int (nI (sp_lit k).length)] hp Q = Q (some (.int (nI ((sp_lit k).getD i 0)))) hp := by
  have hl := sp_lit_len hk
  have hi4 : i < 4 := by rw [hl] at hi; split at hi <;> split at hi <;> omega
  rw [← by_of_eq k hk i hi4 hi, en_45]
  have e2 := fb_0 hk
  simp only [x_45_0, x_45_1, x_45_4, x_45_6, x_45_7, x_45_8, x_45_9, x_45_10, x_45_11, x_45_14, x_45_16, x_45_17, x_45_20, x_45_22, x_45_23, x_45_24, x_45_25, x_45_26, x_45_27, x_45_30, x_45_31, x_45_34, x_45_35, x_45_36, x_45_39, x_45_41, x_45_44, x_45_46, x_45_47, x_45_50, x_45_52, x_45_53, x_45_54, mw_nx, mw_no, mw_ite, mw_call, mw_ret, mw_cst, mw_ii, mw_i1, mw_ll, mw_l1, mw_li, mw_i2l, mw_l2i, mw_lcm, mw_if, mw_ic, mw_ifnN, mw_ifnR, mw_go, mw_dupi, mw_dupr, mw_popi, mw_popr, mw_nw, mw_rti, mw_rtl, mw_rtr, mw_rtn, mw_rtv, mw_rt0, mw_rt1, mj_ild, mj_lld, mj_ald, mj_ist, mj_lst, mj_ast, mj_inc, mj_iz, mj_get, mj_put, mj_len, mj_iar, mj_aar, mj_iaw, mj_aaw, mj_ivs, mj_ivv, mj_ivi, mj_ob, mj_tk, mj_cat, mj_st1, mj_st2, mj_clr, mj_nwi, mj_nwq, List.getElem?_cons_zero, List.getElem?_cons_succ, List.length_cons, List.length_nil, List.set_cons_zero, List.set_cons_succ, Value.category, decide_eq_true_eq, List.map_cons, List.map_nil, List.sum_cons, List.sum_nil, Option.toList, List.cons_append, List.nil_append, ite_true, ite_false, if_true, if_false, reduceCtorEq, true_and, and_true, narrow_i, narrow_l, narrow_r, narrow_n, fits_i, fits_l, fits_ro, fits_ra, fits_no, fits_na, Nat.reduceAdd, Nat.reduceLT, Nat.reduceLeDiff, Nat.reduceEqDiff, Nat.reduceSub, zero_add0, true_or, or_true, false_or, or_false, not_true_eq_false, not_false_eq_true, eq_self, i10, i01, im0, im1, c_fb (show k < 2 ^ 31 by omega), c_numberOf hk, cmp0, e2, i10z]
  unfold by_of
  by_cases q1 : nI i = 0
  · simp only [q1, if_true]
  · by_cases q2 : nI i = nI (sp_lit k).length - 1
    · simp only [q1, q2, if_false, not_true_eq_false]
      simp only [← q2, q1, if_false]
    · by_cases q3 : nI i = 1 <;> by_cases q4 : k % 2 = 0 <;> simp only [q1, q2, q3, q4, if_false, if_true, not_false_eq_true, not_true_eq_false, i10]
/-- byteAt: byte i of the line's text, behind its last byte 10 -/
theorem c_lineByte {hp : mj_H} {Q : mj_Q} {a : Nat} {l : Nat × List Nat} (h : ln_at hp a l) {i : Nat} (hi : i < (sp_line l).length) (hi2 : i < 2 ^ 30) : mj_call 41 [.ref a, .int (nI i)] hp Q = Q (some (.int (nI ((sp_line l).getD i 0)))) hp := by
  sorry
