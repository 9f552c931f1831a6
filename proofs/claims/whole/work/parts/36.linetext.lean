/-! A Line as text -/
theorem c_letterOf {hp : mj_H} {Q : mj_Q} {s : Nat} (hs : s ≤ 3) : mj_call 46 [.int (nI s)] hp Q = Q (some (.int (nI (sp_letter s)))) hp := by
  rw [en_46]
  simp only [x_46_0, x_46_1, x_46_4, x_46_6, x_46_9, x_46_10, x_46_11, x_46_14, x_46_16, x_46_19, x_46_20, x_46_21, x_46_24, x_46_26, x_46_29, x_46_31, mw_nx, mw_no, mw_ite, mw_call, mw_ret, mw_cst, mw_ii, mw_i1, mw_ll, mw_l1, mw_li, mw_i2l, mw_l2i, mw_lcm, mw_if, mw_ic, mw_ifnN, mw_ifnR, mw_go, mw_dupi, mw_dupr, mw_popi, mw_popr, mw_nw, mw_rti, mw_rtl, mw_rtr, mw_rtn, mw_rtv, mw_rt0, mw_rt1, mj_ild, mj_lld, mj_ald, mj_ist, mj_lst, mj_ast, mj_inc, mj_iz, mj_get, mj_put, mj_len, mj_iar, mj_aar, mj_iaw, mj_aaw, mj_ivs, mj_ivv, mj_ivi, mj_ob, mj_tk, mj_cat, mj_st1, mj_st2, mj_clr, mj_nwi, mj_nwq, List.getElem?_cons_zero, List.getElem?_cons_succ, List.length_cons, List.length_nil, List.set_cons_zero, List.set_cons_succ, Value.category, decide_eq_true_eq, List.map_cons, List.map_nil, List.sum_cons, List.sum_nil, Option.toList, List.cons_append, List.nil_append, ite_true, ite_false, if_true, if_false, reduceCtorEq, true_and, and_true, narrow_i, narrow_l, narrow_r, narrow_n, fits_i, fits_l, fits_ro, fits_ra, fits_no, fits_na, Nat.reduceAdd, Nat.reduceLT, Nat.reduceLeDiff, Nat.reduceEqDiff, Nat.reduceSub, zero_add0, true_or, or_true, false_or, or_false, not_true_eq_false, not_false_eq_true, eq_self, i10, i01, im0, im1]
  obtain rfl | rfl | rfl | rfl : s = 0 ∨ s = 1 ∨ s = 2 ∨ s = 3 := by omega
  all_goals rfl
theorem c_numberOf {hp : mj_H} {Q : mj_Q} {k : Nat} (hk : k < 128) : mj_call 44 [.int (nI k)] hp Q = Q (some (.int (nI (k / 2 + 1)))) hp := by
  rw [en_44]
  simp only [x_44_0, x_44_1, x_44_2, x_44_3, x_44_4, x_44_5, mw_nx, mw_no, mw_ite, mw_call, mw_ret, mw_cst, mw_ii, mw_i1, mw_ll, mw_l1, mw_li, mw_i2l, mw_l2i, mw_lcm, mw_if, mw_ic, mw_ifnN, mw_ifnR, mw_go, mw_dupi, mw_dupr, mw_popi, mw_popr, mw_nw, mw_rti, mw_rtl, mw_rtr, mw_rtn, mw_rtv, mw_rt0, mw_rt1, mj_ild, mj_lld, mj_ald, mj_ist, mj_lst, mj_ast, mj_inc, mj_iz, mj_get, mj_put, mj_len, mj_iar, mj_aar, mj_iaw, mj_aaw, mj_ivs, mj_ivv, mj_ivi, mj_ob, mj_tk, mj_cat, mj_st1, mj_st2, mj_clr, mj_nwi, mj_nwq, List.getElem?_cons_zero, List.getElem?_cons_succ, List.length_cons, List.length_nil, List.set_cons_zero, List.set_cons_succ, Value.category, decide_eq_true_eq, List.map_cons, List.map_nil, List.sum_cons, List.sum_nil, Option.toList, List.cons_append, List.nil_append, ite_true, ite_false, if_true, if_false, reduceCtorEq, true_and, and_true, narrow_i, narrow_l, narrow_r, narrow_n, fits_i, fits_l, fits_ro, fits_ra, fits_no, fits_na, Nat.reduceAdd, Nat.reduceLT, Nat.reduceLeDiff, Nat.reduceEqDiff, Nat.reduceSub, zero_add0, true_or, or_true, false_or, or_false, not_true_eq_false, not_false_eq_true, eq_self, i10, i01, im0, im1, cd_shr1 (show k < 2 ^ 31 by omega), nI_1]
theorem fb_0 {k : Nat} (hk : k < 128) : (fb k = 0) = ¬ (k % 2 = 0) := by
  apply propext
  rw [lb_eq0]
  constructor
  · intro h e
    have := h (k / 2) (by omega)
    rw [lb_fb hk] at this
    simp at this
    omega
  · intro e i hi
    rw [lb_fb hk]
    simp
    omega
theorem sp_lit_len {k : Nat} (hk : k < 128) : (sp_lit k).length = 2 + (if k % 2 = 0 then 1 else 0) + (if k / 2 + 1 < 10 then 0 else 1) := by
  unfold sp_lit sp_num
  by_cases h1 : k % 2 = 0 <;> by_cases h2 : k / 2 + 1 < 10 <;> simp [h1, h2]
theorem c_widthOf {hp : mj_H} {Q : mj_Q} {k : Nat} (hk : k < 128) : mj_call 43 [.int (nI k)] hp Q = Q (some (.int (nI (sp_lit k).length))) hp := by
  rw [en_43]
  have e1 : (nI (k / 2 + 1) < 10) = (k / 2 + 1 < 10) := propext (nI_ltI (b := 10) (by omega) (by omega))
  have e2 := fb_0 hk
  rw [sp_lit_len hk]
  by_cases h1 : k % 2 = 0 <;> by_cases h2 : k / 2 + 1 < 10
  all_goals
    simp only [x_43_0, x_43_1, x_43_2, x_43_5, x_43_6, x_43_7, x_43_10, x_43_11, x_43_14, x_43_15, x_43_16, x_43_17, x_43_20, x_43_22, x_43_25, x_43_26, x_43_29, x_43_30, x_43_31, mw_nx, mw_no, mw_ite, mw_call, mw_ret, mw_cst, mw_ii, mw_i1, mw_ll, mw_l1, mw_li, mw_i2l, mw_l2i, mw_lcm, mw_if, mw_ic, mw_ifnN, mw_ifnR, mw_go, mw_dupi, mw_dupr, mw_popi, mw_popr, mw_nw, mw_rti, mw_rtl, mw_rtr, mw_rtn, mw_rtv, mw_rt0, mw_rt1, mj_ild, mj_lld, mj_ald, mj_ist, mj_lst, mj_ast, mj_inc, mj_iz, mj_get, mj_put, mj_len, mj_iar, mj_aar, mj_iaw, mj_aaw, mj_ivs, mj_ivv, mj_ivi, mj_ob, mj_tk, mj_cat, mj_st1, mj_st2, mj_clr, mj_nwi, mj_nwq, List.getElem?_cons_zero, List.getElem?_cons_succ, List.length_cons, List.length_nil, List.set_cons_zero, List.set_cons_succ, Value.category, decide_eq_true_eq, List.map_cons, List.map_nil, List.sum_cons, List.sum_nil, Option.toList, List.cons_append, List.nil_append, ite_true, ite_false, if_true, if_false, reduceCtorEq, true_and, and_true, narrow_i, narrow_l, narrow_r, narrow_n, fits_i, fits_l, fits_ro, fits_ra, fits_no, fits_na, Nat.reduceAdd, Nat.reduceLT, Nat.reduceLeDiff, Nat.reduceEqDiff, Nat.reduceSub, zero_add0, true_or, or_true, false_or, or_false, not_true_eq_false, not_false_eq_true, eq_self, i10, i01, im0, im1, c_fb (show k < 2 ^ 31 by omega), c_numberOf hk, cmp0, e1, e2, h1, h2]
    rfl
def by_of (k i w : Nat) : Int32 := if nI i = 0 then 32 else if ¬ nI i = nI w - 1 then (if ¬ nI i = 1 then 48 + nI (k / 2 + 1) / 10 else if k % 2 = 0 then 45 else 48 + nI (k / 2 + 1) / 10) else 48 + (nI (k / 2 + 1) - nI (k / 2 + 1) / 10 * 10)
theorem by_of_eq : ∀ k, k < 128 → ∀ i, i < 4 → i < (sp_lit k).length → by_of k i (sp_lit k).length = nI ((sp_lit k).getD i 0) := by decide +kernel
theorem i10z : ((10 : Int32) = 0) = False := by decide
theorem c_byteOf {hp : mj_H} {Q : mj_Q} {k i : Nat} (hk : k < 128) (hi : i < (sp_lit k).length) : mj_call 45 [.int (nI k), .int (nI i), .int (nI (sp_lit k).length)] hp Q = Q (some (.int (nI ((sp_lit k).getD i 0)))) hp := by
  have hl := sp_lit_len hk
  have hi4 : i < 4 := by rw [hl] at hi; split at hi <;> split at hi <;> omega
  rw [← by_of_eq k hk i hi4 hi, en_45]
  have e2 := fb_0 hk
  simp only [x_45_0, x_45_1, x_45_4, x_45_6, x_45_7, x_45_8, x_45_9, x_45_10, x_45_11, x_45_14, x_45_16, x_45_17, x_45_20, x_45_22, x_45_23, x_45_24, x_45_25, x_45_26, x_45_27, x_45_30, x_45_31, x_45_34, x_45_35, x_45_36, x_45_39, x_45_41, x_45_44, x_45_46, x_45_47, x_45_50, x_45_52, x_45_53, x_45_54, mw_nx, mw_no, mw_ite, mw_call, mw_ret, mw_cst, mw_ii, mw_i1, mw_ll, mw_l1, mw_li, mw_i2l, mw_l2i, mw_lcm, mw_if, mw_ic, mw_ifnN, mw_ifnR, mw_go, mw_dupi, mw_dupr, mw_popi, mw_popr, mw_nw, mw_rti, mw_rtl, mw_rtr, mw_rtn, mw_rtv, mw_rt0, mw_rt1, mj_ild, mj_lld, mj_ald, mj_ist, mj_lst, mj_ast, mj_inc, mj_iz, mj_get, mj_put, mj_len, mj_iar, mj_aar, mj_iaw, mj_aaw, mj_ivs, mj_ivv, mj_ivi, mj_ob, mj_tk, mj_cat, mj_st1, mj_st2, mj_clr, mj_nwi, mj_nwq, List.getElem?_cons_zero, List.getElem?_cons_succ, List.length_cons, List.length_nil, List.set_cons_zero, List.set_cons_succ, Value.category, decide_eq_true_eq, List.map_cons, List.map_nil, List.sum_cons, List.sum_nil, Option.toList, List.cons_append, List.nil_append, ite_true, ite_false, if_true, if_false, reduceCtorEq, true_and, and_true, narrow_i, narrow_l, narrow_r, narrow_n, fits_i, fits_l, fits_ro, fits_ra, fits_no, fits_na, Nat.reduceAdd, Nat.reduceLT, Nat.reduceLeDiff, Nat.reduceEqDiff, Nat.reduceSub, zero_add0, true_or, or_true, false_or, or_false, not_true_eq_false, not_false_eq_true, eq_self, i10, i01, im0, im1, c_fb (show k < 2 ^ 31 by omega), c_numberOf hk, cmp0, e2, i10z]
  unfold by_of
  by_cases q1 : nI i = 0
  · have p1 := eq_true q1
    simp only [p1, if_true, not_true_eq_false, if_false]
  · have p1 := eq_false q1
    by_cases q2 : nI i = nI (sp_lit k).length - 1
    · have p2 := eq_true q2
      simp only [p1, p2, if_false, not_true_eq_false, not_false_eq_true, if_true]
    · have p2 := eq_false q2
      by_cases q3 : nI i = 1
      · have p3 := eq_true q3
        by_cases q4 : k % 2 = 0 <;> simp only [p1, p2, p3, q4, if_false, if_true, not_false_eq_true, not_true_eq_false]
      · have p3 := eq_false q3
        simp only [p1, p2, p3, if_false, if_true, not_false_eq_true, not_true_eq_false]
theorem getD_app_l {l l' : List Nat} {i : Nat} (h : i < l.length) : (l ++ l').getD i 0 = l.getD i 0 := by
  simp only [List.getD_eq_getElem?_getD]
  rw [List.getElem?_append_left h]
theorem getD_app_r {l l' : List Nat} {i : Nat} (h : l.length ≤ i) : (l ++ l').getD i 0 = l'.getD (i - l.length) 0 := by
  simp only [List.getD_eq_getElem?_getD]
  rw [List.getElem?_append_right h]
/-- byteAt: byte i of the line's text, behind its last byte 10 -/
theorem c_lineByteI {hp : mj_H} {Q : mj_Q} {a : Nat} {l : Nat × List Nat} (h : ln_at hp a l) {i : Nat} (hi : i < (sp_line l).length) (hi2 : i < 2 ^ 30) (hq : Q (some (.int (nI ((sp_line l).getD i 0)))) hp) : mj_call 41 [.ref a, .int (nI i)] hp Q := by
  obtain ⟨s, cs⟩ := l
  obtain ⟨f, t, u, h1, h2, hv, hok, hs⟩ := h
  dsimp only at h1 h2 hv hok hs
  have hlen := ln_len hok
  have key : ∀ (rest done : List Nat) (r : Nat) (o4 : Option Value), cs = done ++ rest → r < (rest.flatMap sp_lit ++ [10]).length → r < 2 ^ 30 → Q (some (.int (nI ((rest.flatMap sp_lit ++ [10]).getD r 0)))) hp → mj_wp 41 18 [some (.ref a), some (.int (nI i)), some (.int (nI r)), some (.int (nI done.length)), o4] [] hp Q := by
    intro rest
    induction rest with
    | nil =>
      intro done r o4 hd hr hr2 hq
      rw [List.append_nil] at hd
      subst hd
      have e1 : nI cs.length ≤ nI cs.length := nI_le (Nat.le_refl _) (by omega)
      rw [x_41_18]
      simp only [x_41_19, x_41_20, x_41_23, x_41_26, x_41_27, x_41_30, x_41_31, x_41_32, x_41_35, x_41_37, x_41_38, x_41_40, x_41_43, x_41_44, x_41_47, x_41_48, x_41_49, x_41_50, x_41_52, x_41_55, x_41_56, x_41_57, x_41_59, x_41_60, x_41_61, x_41_64, x_41_67, x_41_69, mw_nx, mw_no, mw_ite, mw_call, mw_ret, mw_cst, mw_ii, mw_i1, mw_ll, mw_l1, mw_li, mw_i2l, mw_l2i, mw_lcm, mw_if, mw_ic, mw_ifnN, mw_ifnR, mw_go, mw_dupi, mw_dupr, mw_popi, mw_popr, mw_nw, mw_rti, mw_rtl, mw_rtr, mw_rtn, mw_rtv, mw_rt0, mw_rt1, mj_ild, mj_lld, mj_ald, mj_ist, mj_lst, mj_ast, mj_inc, mj_iz, mj_get, mj_put, mj_len, mj_iar, mj_aar, mj_iaw, mj_aaw, mj_ivs, mj_ivv, mj_ivi, mj_ob, mj_tk, mj_cat, mj_st1, mj_st2, mj_clr, mj_nwi, mj_nwq, List.getElem?_cons_zero, List.getElem?_cons_succ, List.length_cons, List.length_nil, List.set_cons_zero, List.set_cons_succ, Value.category, decide_eq_true_eq, List.map_cons, List.map_nil, List.sum_cons, List.sum_nil, Option.toList, List.cons_append, List.nil_append, ite_true, ite_false, if_true, if_false, reduceCtorEq, true_and, and_true, narrow_i, narrow_l, narrow_r, narrow_n, fits_i, fits_l, fits_ro, fits_ra, fits_no, fits_na, Nat.reduceAdd, Nat.reduceLT, Nat.reduceLeDiff, Nat.reduceEqDiff, Nat.reduceSub, zero_add0, true_or, or_true, false_or, or_false, not_true_eq_false, not_false_eq_true, eq_self, i10, i01, im0, im1, h1, e1]
      have : r = 0 := by simpa using hr
      subst this
      exact hq
    | cons c rest ih =>
      intro done r o4 hd hr hr2 hq
      have hlt : done.length < cs.length := by rw [hd]; simp
      have hc : c < 128 := hok.2 c (by rw [hd]; simp)
      have gi : f done.length = nI c := by
        rw [hv.1 _ hlt, hd]
        simp [List.getD_eq_getElem?_getD]
      have e1 : ¬ nI cs.length ≤ nI done.length := nI_ge hlt (by omega)
      have i0 : ¬ nI done.length < 0 := nI_pos (by omega)
      have i1 : (nI done.length).toNatClampNeg = done.length := nI_clamp (by omega)
      have i2 : ¬ 128 ≤ done.length := by omega
      have hw : (sp_lit c).length ≤ 4 := by rw [sp_lit_len hc]; split <;> split <;> omega
      have e2 : (nI (sp_lit c).length ≤ nI r) = ((sp_lit c).length ≤ r) := propext (nI_leI (by omega) (by omega))
      rw [List.flatMap_cons, List.append_assoc] at hq hr
      rw [x_41_18]
      by_cases hrw : (sp_lit c).length ≤ r
      · simp only [x_41_19, x_41_20, x_41_23, x_41_26, x_41_27, x_41_30, x_41_31, x_41_32, x_41_35, x_41_37, x_41_38, x_41_40, x_41_43, x_41_44, x_41_47, x_41_48, x_41_49, x_41_50, x_41_52, x_41_55, x_41_56, x_41_57, x_41_59, x_41_60, x_41_61, x_41_64, mw_nx, mw_no, mw_ite, mw_call, mw_ret, mw_cst, mw_ii, mw_i1, mw_ll, mw_l1, mw_li, mw_i2l, mw_l2i, mw_lcm, mw_if, mw_ic, mw_ifnN, mw_ifnR, mw_go, mw_dupi, mw_dupr, mw_popi, mw_popr, mw_nw, mw_rti, mw_rtl, mw_rtr, mw_rtn, mw_rtv, mw_rt0, mw_rt1, mj_ild, mj_lld, mj_ald, mj_ist, mj_lst, mj_ast, mj_inc, mj_iz, mj_get, mj_put, mj_len, mj_iar, mj_aar, mj_iaw, mj_aaw, mj_ivs, mj_ivv, mj_ivi, mj_ob, mj_tk, mj_cat, mj_st1, mj_st2, mj_clr, mj_nwi, mj_nwq, List.getElem?_cons_zero, List.getElem?_cons_succ, List.length_cons, List.length_nil, List.set_cons_zero, List.set_cons_succ, Value.category, decide_eq_true_eq, List.map_cons, List.map_nil, List.sum_cons, List.sum_nil, Option.toList, List.cons_append, List.nil_append, ite_true, ite_false, if_true, if_false, reduceCtorEq, true_and, and_true, narrow_i, narrow_l, narrow_r, narrow_n, fits_i, fits_l, fits_ro, fits_ra, fits_no, fits_na, Nat.reduceAdd, Nat.reduceLT, Nat.reduceLeDiff, Nat.reduceEqDiff, Nat.reduceSub, zero_add0, true_or, or_true, false_or, or_false, not_true_eq_false, not_false_eq_true, eq_self, i10, i01, im0, im1, h1, h2, e1, i0, i1, i2, gi, at_0, at_len, c_widthOf hc, e2, hrw, pk_sub hrw, nI_1]
        rw [List.length_append] at hr
        rw [getD_app_r hrw] at hq
        have := ih (done ++ [c]) (r - (sp_lit c).length) (some (.int (nI (sp_lit c).length))) (by rw [hd]; simp) (by omega) (by omega) hq
        simpa using this
      · simp only [x_41_19, x_41_20, x_41_23, x_41_26, x_41_27, x_41_30, x_41_31, x_41_32, x_41_35, x_41_37, x_41_38, x_41_40, x_41_43, x_41_44, x_41_47, x_41_48, x_41_49, x_41_50, x_41_52, x_41_55, x_41_56, x_41_57, x_41_59, x_41_60, x_41_61, x_41_64, mw_nx, mw_no, mw_ite, mw_call, mw_ret, mw_cst, mw_ii, mw_i1, mw_ll, mw_l1, mw_li, mw_i2l, mw_l2i, mw_lcm, mw_if, mw_ic, mw_ifnN, mw_ifnR, mw_go, mw_dupi, mw_dupr, mw_popi, mw_popr, mw_nw, mw_rti, mw_rtl, mw_rtr, mw_rtn, mw_rtv, mw_rt0, mw_rt1, mj_ild, mj_lld, mj_ald, mj_ist, mj_lst, mj_ast, mj_inc, mj_iz, mj_get, mj_put, mj_len, mj_iar, mj_aar, mj_iaw, mj_aaw, mj_ivs, mj_ivv, mj_ivi, mj_ob, mj_tk, mj_cat, mj_st1, mj_st2, mj_clr, mj_nwi, mj_nwq, List.getElem?_cons_zero, List.getElem?_cons_succ, List.length_cons, List.length_nil, List.set_cons_zero, List.set_cons_succ, Value.category, decide_eq_true_eq, List.map_cons, List.map_nil, List.sum_cons, List.sum_nil, Option.toList, List.cons_append, List.nil_append, ite_true, ite_false, if_true, if_false, reduceCtorEq, true_and, and_true, narrow_i, narrow_l, narrow_r, narrow_n, fits_i, fits_l, fits_ro, fits_ra, fits_no, fits_na, Nat.reduceAdd, Nat.reduceLT, Nat.reduceLeDiff, Nat.reduceEqDiff, Nat.reduceSub, zero_add0, true_or, or_true, false_or, or_false, not_true_eq_false, not_false_eq_true, eq_self, i10, i01, im0, im1, h1, h2, e1, i0, i1, i2, gi, at_0, at_len, c_widthOf hc, e2, hrw, c_byteOf hc (show r < (sp_lit c).length by omega)]
        rw [getD_app_l (by omega)] at hq
        exact hq
  rw [en_41]
  unfold sp_line at hi hq
  dsimp only at hi hq
  by_cases hi0 : i = 0
  · subst hi0
    have z : (nI 0 = 0) = True := eq_true rfl
    simp only [x_41_0, x_41_1, x_41_4, x_41_5, x_41_8, x_41_11, mw_nx, mw_no, mw_ite, mw_call, mw_ret, mw_cst, mw_ii, mw_i1, mw_ll, mw_l1, mw_li, mw_i2l, mw_l2i, mw_lcm, mw_if, mw_ic, mw_ifnN, mw_ifnR, mw_go, mw_dupi, mw_dupr, mw_popi, mw_popr, mw_nw, mw_rti, mw_rtl, mw_rtr, mw_rtn, mw_rtv, mw_rt0, mw_rt1, mj_ild, mj_lld, mj_ald, mj_ist, mj_lst, mj_ast, mj_inc, mj_iz, mj_get, mj_put, mj_len, mj_iar, mj_aar, mj_iaw, mj_aaw, mj_ivs, mj_ivv, mj_ivi, mj_ob, mj_tk, mj_cat, mj_st1, mj_st2, mj_clr, mj_nwi, mj_nwq, List.getElem?_cons_zero, List.getElem?_cons_succ, List.length_cons, List.length_nil, List.set_cons_zero, List.set_cons_succ, Value.category, decide_eq_true_eq, List.map_cons, List.map_nil, List.sum_cons, List.sum_nil, Option.toList, List.cons_append, List.nil_append, ite_true, ite_false, if_true, if_false, reduceCtorEq, true_and, and_true, narrow_i, narrow_l, narrow_r, narrow_n, fits_i, fits_l, fits_ro, fits_ra, fits_no, fits_na, Nat.reduceAdd, Nat.reduceLT, Nat.reduceLeDiff, Nat.reduceEqDiff, Nat.reduceSub, zero_add0, true_or, or_true, false_or, or_false, not_true_eq_false, not_false_eq_true, eq_self, i10, i01, im0, im1, h1, z, c_letterOf hs]
    exact hq
  · have z : (nI i = 0) = False := eq_false (nI_ne0 (by omega) (by omega))
    have e1 : nI i - 1 = nI (i - 1) := pk_sub (b := 1) (by omega)
    simp only [x_41_0, x_41_1, x_41_4, x_41_5, x_41_8, x_41_11, x_41_12, x_41_13, x_41_14, x_41_15, x_41_16, x_41_17, mw_nx, mw_no, mw_ite, mw_call, mw_ret, mw_cst, mw_ii, mw_i1, mw_ll, mw_l1, mw_li, mw_i2l, mw_l2i, mw_lcm, mw_if, mw_ic, mw_ifnN, mw_ifnR, mw_go, mw_dupi, mw_dupr, mw_popi, mw_popr, mw_nw, mw_rti, mw_rtl, mw_rtr, mw_rtn, mw_rtv, mw_rt0, mw_rt1, mj_ild, mj_lld, mj_ald, mj_ist, mj_lst, mj_ast, mj_inc, mj_iz, mj_get, mj_put, mj_len, mj_iar, mj_aar, mj_iaw, mj_aaw, mj_ivs, mj_ivv, mj_ivi, mj_ob, mj_tk, mj_cat, mj_st1, mj_st2, mj_clr, mj_nwi, mj_nwq, List.getElem?_cons_zero, List.getElem?_cons_succ, List.length_cons, List.length_nil, List.set_cons_zero, List.set_cons_succ, Value.category, decide_eq_true_eq, List.map_cons, List.map_nil, List.sum_cons, List.sum_nil, Option.toList, List.cons_append, List.nil_append, ite_true, ite_false, if_true, if_false, reduceCtorEq, true_and, and_true, narrow_i, narrow_l, narrow_r, narrow_n, fits_i, fits_l, fits_ro, fits_ra, fits_no, fits_na, Nat.reduceAdd, Nat.reduceLT, Nat.reduceLeDiff, Nat.reduceEqDiff, Nat.reduceSub, zero_add0, true_or, or_true, false_or, or_false, not_true_eq_false, not_false_eq_true, eq_self, i10, i01, im0, im1, h1, z, e1]
    have hb : (sp_letter s :: (cs.flatMap sp_lit ++ [10])).getD i 0 = (cs.flatMap sp_lit ++ [10]).getD (i - 1) 0 := by
      rw [show i = (i - 1) + 1 by omega]
      simp
    rw [hb] at hq
    exact key cs [] (i - 1) none rfl (by rw [List.length_cons] at hi; omega) (by omega) hq
theorem c_lineByte {hp : mj_H} {Q : mj_Q} {a : Nat} {l : Nat × List Nat} (h : ln_at hp a l) {i : Nat} (hi : i < (sp_line l).length) (hi2 : i < 2 ^ 30) : mj_call 41 [.ref a, .int (nI i)] hp Q = Q (some (.int (nI ((sp_line l).getD i 0)))) hp := mj_call_det (c_lineByteI h hi hi2 ⟨rfl, rfl⟩) Q
/-- counting a line's literals by its sets -/
theorem cp_ins (p : Nat → Bool) (x : Nat) : ∀ (n : Nat), x < n → p x = false → (List.range n).countP (fun j => decide (j = x) || p j) = (List.range n).countP p + 1 := by
  intro n
  induction n with
  | zero => intro h; omega
  | succ n ih =>
    intro hx hp
    rw [List.range_succ, List.countP_append, List.countP_append]
    by_cases hxn : x = n
    · subst hxn
      have e : (List.range x).countP (fun j => decide (j = x) || p j) = (List.range x).countP p := by
        apply List.countP_congr
        intro j hj
        have := List.mem_range.mp hj
        simp [show ¬ j = x by omega]
      rw [e]
      simp [hp]
    · rw [ih (by omega) hp]
      have : ¬ n = x := fun q => hxn q.symm
      simp [this]
      omega
theorem cp_codes (q : Nat → Bool) (b : Nat) (hb : b < 2) : ∀ (cs : List Nat), ln_ok cs → (List.range 64).countP (fun j => decide (2 * j + b ∈ cs) && q j) = cs.countP (fun c => decide (c % 2 = b) && q (c / 2)) := by
  intro cs
  induction cs with
  | nil => intro _; simp
  | cons c cs ih =>
    intro hok
    have hok2 : ln_ok cs := ⟨(List.nodup_cons.mp hok.1).2, fun d hd => hok.2 d (List.mem_cons_of_mem _ hd)⟩
    have hc : c < 128 := hok.2 c List.mem_cons_self
    have hcm : ¬ c ∈ cs := (List.nodup_cons.mp hok.1).1
    have h := ih hok2
    rw [List.countP_cons]
    by_cases hcb : c % 2 = b
    · have ec : c = 2 * (c / 2) + b := by omega
      by_cases hq : q (c / 2) = true
      · have e : (List.range 64).countP (fun j => decide (2 * j + b ∈ c :: cs) && q j) = (List.range 64).countP (fun j => decide (j = c / 2) || (decide (2 * j + b ∈ cs) && q j)) := by
          apply List.countP_congr
          intro j hj
          by_cases hj2 : j = c / 2
          · subst hj2
            simp [hq, ← ec]
          · have : ¬ 2 * j + b = c := by omega
            simp [hj2, this]
        rw [e, cp_ins _ (c / 2) 64 (by omega) (by rw [← ec]; simp [hcm]), h]
        simp [hcb, hq]
      · have e : (List.range 64).countP (fun j => decide (2 * j + b ∈ c :: cs) && q j) = (List.range 64).countP (fun j => decide (2 * j + b ∈ cs) && q j) := by
          apply List.countP_congr
          intro j hj
          by_cases hj2 : j = c / 2
          · subst hj2
            simp [hq]
          · have : ¬ 2 * j + b = c := by omega
            simp [this]
        rw [e, h]
        simp [hq]
    · have e : (List.range 64).countP (fun j => decide (2 * j + b ∈ c :: cs) && q j) = (List.range 64).countP (fun j => decide (2 * j + b ∈ cs) && q j) := by
        apply List.countP_congr
        intro j hj
        have : ¬ 2 * j + b = c := by omega
        simp [this]
      rw [e, h]
      simp [hcb]
theorem lb_512 : ∀ j, j < 64 → lb (-512) j = decide (9 ≤ j) := by decide +kernel
theorem lc_t {cs : List Nat} {t u : Int64} (hw : ln_w cs t u) (hok : ln_ok cs) : lc t = cs.countP (fun c => decide (c % 2 = 1)) ∧ lc u = cs.countP (fun c => decide (c % 2 = 0)) ∧ lc (t &&& (-512)) = cs.countP (fun c => decide (c % 2 = 1) && decide (9 ≤ c / 2)) ∧ lc (u &&& (-512)) = cs.countP (fun c => decide (c % 2 = 0) && decide (9 ≤ c / 2)) := by
  refine ⟨?_, ?_, ?_, ?_⟩
  · have := cp_codes (fun _ => true) 1 (by decide) cs hok
    simp only [Bool.and_true] at this
    rw [← this]
    exact List.countP_congr (fun j hj => by rw [hw.1])
  · have := cp_codes (fun _ => true) 0 (by decide) cs hok
    simp only [Bool.and_true, Nat.add_zero] at this
    rw [← this]
    exact List.countP_congr (fun j hj => by rw [hw.2])
  · rw [← cp_codes (fun j => decide (9 ≤ j)) 1 (by decide) cs hok]
    exact List.countP_congr (fun j hj => by rw [lb_and, hw.1, lb_512 j (List.mem_range.mp hj)])
  · have := cp_codes (fun j => decide (9 ≤ j)) 0 (by decide) cs hok
    simp only [Nat.add_zero] at this
    rw [← this]
    exact List.countP_congr (fun j hj => by rw [lb_and, hw.2, lb_512 j (List.mem_range.mp hj)])
theorem sp_line_len (s : Nat) : ∀ (cs : List Nat), (∀ c ∈ cs, c < 128) → (sp_line (s, cs)).length = 2 + 2 * cs.countP (fun c => decide (c % 2 = 1)) + 3 * cs.countP (fun c => decide (c % 2 = 0)) + cs.countP (fun c => decide (c % 2 = 1) && decide (9 ≤ c / 2)) + cs.countP (fun c => decide (c % 2 = 0) && decide (9 ≤ c / 2)) := by
  intro cs
  have e : (sp_line (s, cs)).length = 2 + (cs.flatMap sp_lit).length := by
    unfold sp_line
    simp
    omega
  rw [e]
  clear e
  induction cs with
  | nil => intro _; rfl
  | cons c cs ih =>
    intro hc
    have h := ih (fun d hd => hc d (List.mem_cons_of_mem _ hd))
    rw [List.flatMap_cons, List.length_append, sp_lit_len (hc c List.mem_cons_self)]
    generalize (cs.flatMap sp_lit).length = g at h ⊢
    simp only [List.countP_cons]
    by_cases h1 : c % 2 = 0 <;> by_cases h2 : 9 ≤ c / 2
    · simp only [h1, h2, show ¬ c / 2 + 1 < 10 by omega, decide_true, Bool.true_and, if_true, if_false]
      simp
      omega
    · simp only [h1, h2, show c / 2 + 1 < 10 by omega, decide_true, decide_false, Bool.true_and, if_true, if_false]
      simp
      omega
    · simp only [h1, h2, show c % 2 = 1 by omega, show ¬ c / 2 + 1 < 10 by omega, decide_true, decide_false, Bool.true_and, if_true, if_false]
      simp
      omega
    · simp only [h1, h2, show c % 2 = 1 by omega, show c / 2 + 1 < 10 by omega, decide_true, decide_false, Bool.true_and, if_true, if_false]
      simp
      omega
theorem c_textLength {hp : mj_H} {Q : mj_Q} {a : Nat} {l : Nat × List Nat} (h : ln_at hp a l) : mj_call 40 [.ref a] hp Q = Q (some (.int (nI (sp_line l).length))) hp := by
  obtain ⟨s, cs⟩ := l
  obtain ⟨f, t, u, h1, h2, hv, hok, hs⟩ := h
  dsimp only at h1 h2 hv hok hs
  obtain ⟨e1, e2, e3, e4⟩ := lc_t ⟨hv.2.1, hv.2.2⟩ hok
  rw [en_40]
  simp only [x_40_0, x_40_1, x_40_2, x_40_3, x_40_6, x_40_9, x_40_10, x_40_11, x_40_12, x_40_13, x_40_16, x_40_19, x_40_20, x_40_21, x_40_22, x_40_25, x_40_28, x_40_29, x_40_32, x_40_33, x_40_34, x_40_37, x_40_40, x_40_41, x_40_44, x_40_45, mw_nx, mw_no, mw_ite, mw_call, mw_ret, mw_cst, mw_ii, mw_i1, mw_ll, mw_l1, mw_li, mw_i2l, mw_l2i, mw_lcm, mw_if, mw_ic, mw_ifnN, mw_ifnR, mw_go, mw_dupi, mw_dupr, mw_popi, mw_popr, mw_nw, mw_rti, mw_rtl, mw_rtr, mw_rtn, mw_rtv, mw_rt0, mw_rt1, mj_ild, mj_lld, mj_ald, mj_ist, mj_lst, mj_ast, mj_inc, mj_iz, mj_get, mj_put, mj_len, mj_iar, mj_aar, mj_iaw, mj_aaw, mj_ivs, mj_ivv, mj_ivi, mj_ob, mj_tk, mj_cat, mj_st1, mj_st2, mj_clr, mj_nwi, mj_nwq, List.getElem?_cons_zero, List.getElem?_cons_succ, List.length_cons, List.length_nil, List.set_cons_zero, List.set_cons_succ, Value.category, decide_eq_true_eq, List.map_cons, List.map_nil, List.sum_cons, List.sum_nil, Option.toList, List.cons_append, List.nil_append, ite_true, ite_false, if_true, if_false, reduceCtorEq, true_and, and_true, narrow_i, narrow_l, narrow_r, narrow_n, fits_i, fits_l, fits_ro, fits_ra, fits_no, fits_na, Nat.reduceAdd, Nat.reduceLT, Nat.reduceLeDiff, Nat.reduceEqDiff, Nat.reduceSub, zero_add0, true_or, or_true, false_or, or_false, not_true_eq_false, not_false_eq_true, eq_self, i10, i01, im0, im1, h1, c_bitCount, e1, e2, e3, e4]
  rw [sp_line_len s cs hok.2]
  rw [show (2 : Int32) = nI 2 from rfl, show (3 : Int32) = nI 3 from rfl, pk_mul, pk_mul, nI_add, nI_add, nI_add, nI_add]
