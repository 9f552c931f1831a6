/-! The reference: the text read -/
theorem rd_dig_same : ∀ (f : Nat) (xs : List Nat) (p v : Nat), p ≤ xs.length → (rd_dig f xs p v).2 = p → (rd_dig f xs p v).1 = v := by
  intro f xs p v hp h
  cases f with
  | zero => rfl
  | succ f =>
    rw [rd_dig] at h ⊢
    cases hx : xs[p]? with
    | none => rfl
    | some c =>
      rw [hx] at h
      dsimp only at h ⊢
      split
      · next w =>
        rw [if_pos w] at h
        have := (rd_dig_le f xs (p + 1) (min 1000 (10 * v + (c - 48))) (get_lt hx)).1
        omega
      · rfl
section MR
variable {hp : mj_H} {Q : mj_Q} {M n ln cm p : Nat} {a b t : Int32} {C : Nat → sp_Ln} {xs : List Nat}
theorem m_look (h : hp.1 M = some (mo_o M n ln cm xs.length (nI p) b t)) (hu : mo_u hp M xs) (hp31 : p < 2 ^ 31) : mj_call 112 [.ref M] hp Q = Q (some (.int (hv xs p))) hp := by
  obtain ⟨f, h2, h3, h4, h5⟩ := hu
  rw [en_112]
  by_cases hlt : p < xs.length
  · have e1 : ¬ nI xs.length ≤ nI p := nI_ge hlt (by omega)
    have z0 : ¬ nI p < 0 := nI_pos hp31
    have z1 : (nI p).toNatClampNeg = p := nI_clamp hp31
    have z2 : ¬ 4000 ≤ p := by omega
    have e3 : f p = hv xs p := by rw [h3 p hlt, hv_some (List.getElem?_eq_getElem hlt), List.getD_eq_getElem?_getD, List.getElem?_eq_getElem hlt]; rfl
    simp only [x_112_0, x_112_1, x_112_4, x_112_5, x_112_8, x_112_11, x_112_12, x_112_15, x_112_16, x_112_19, x_112_20, x_112_23, x_112_24, mw_nx, mw_no, mw_ite, mw_call, mw_ret, mw_cst, mw_ii, mw_i1, mw_ll, mw_l1, mw_li, mw_i2l, mw_l2i, mw_lcm, mw_if, mw_ic, mw_ifnN, mw_ifnR, mw_go, mw_dupi, mw_dupr, mw_popi, mw_popr, mw_nw, mw_rti, mw_rtl, mw_rtr, mw_rtn, mw_rtv, mw_rt0, mw_rt1, mj_ild, mj_lld, mj_ald, mj_ist, mj_lst, mj_ast, mj_inc, mj_iz, mj_get, mj_put, mj_len, mj_iar, mj_aar, mj_iaw, mj_aaw, mj_ivs, mj_ivv, mj_ivi, mj_ob, mj_tk, mj_cat, mj_st1, mj_st2, mj_clr, mj_nwi, mj_nwq, List.getElem?_cons_zero, List.getElem?_cons_succ, List.length_cons, List.length_nil, List.set_cons_zero, List.set_cons_succ, Value.category, decide_eq_true_eq, List.map_cons, List.map_nil, List.sum_cons, List.sum_nil, Option.toList, List.cons_append, List.nil_append, ite_true, ite_false, if_true, if_false, reduceCtorEq, true_and, and_true, narrow_i, narrow_l, narrow_r, narrow_n, fits_i, fits_l, fits_ro, fits_ra, fits_no, fits_na, Nat.reduceAdd, Nat.reduceLT, Nat.reduceLeDiff, Nat.reduceEqDiff, Nat.reduceSub, zero_add0, true_or, or_true, false_or, or_false, not_true_eq_false, not_false_eq_true, eq_self, i10, i01, im0, im1, h, h2, z0, z1, z2, e1, e3, at_0]
  · have e1 : nI xs.length ≤ nI p := nI_le (by omega) hp31
    rw [hv_none (by omega)]
    simp only [x_112_0, x_112_1, x_112_4, x_112_5, x_112_8, x_112_11, x_112_12, x_112_15, x_112_16, x_112_19, x_112_20, x_112_23, x_112_24, mw_nx, mw_no, mw_ite, mw_call, mw_ret, mw_cst, mw_ii, mw_i1, mw_ll, mw_l1, mw_li, mw_i2l, mw_l2i, mw_lcm, mw_if, mw_ic, mw_ifnN, mw_ifnR, mw_go, mw_dupi, mw_dupr, mw_popi, mw_popr, mw_nw, mw_rti, mw_rtl, mw_rtr, mw_rtn, mw_rtv, mw_rt0, mw_rt1, mj_ild, mj_lld, mj_ald, mj_ist, mj_lst, mj_ast, mj_inc, mj_iz, mj_get, mj_put, mj_len, mj_iar, mj_aar, mj_iaw, mj_aaw, mj_ivs, mj_ivv, mj_ivi, mj_ob, mj_tk, mj_cat, mj_st1, mj_st2, mj_clr, mj_nwi, mj_nwq, List.getElem?_cons_zero, List.getElem?_cons_succ, List.length_cons, List.length_nil, List.set_cons_zero, List.set_cons_succ, Value.category, decide_eq_true_eq, List.map_cons, List.map_nil, List.sum_cons, List.sum_nil, Option.toList, List.cons_append, List.nil_append, ite_true, ite_false, if_true, if_false, reduceCtorEq, true_and, and_true, narrow_i, narrow_l, narrow_r, narrow_n, fits_i, fits_l, fits_ro, fits_ra, fits_no, fits_na, Nat.reduceAdd, Nat.reduceLT, Nat.reduceLeDiff, Nat.reduceEqDiff, Nat.reduceSub, zero_add0, true_or, or_true, false_or, or_false, not_true_eq_false, not_false_eq_true, eq_self, i10, i01, im0, im1, h, e1]
theorem m_fail (e : Int32) (h : hp.1 M = some (mo_o M n ln cm xs.length a (-1) t)) : mj_call 113 [.ref M, .int e] hp Q = Q none (mj_up hp M (mo_o M n ln cm xs.length a e t)) := by
  have e1 : ((0 : Int32) ≤ -1) = False := by decide
  rw [en_113]
  simp only [x_113_0, x_113_1, x_113_4, x_113_7, x_113_8, x_113_9, x_113_12, mw_nx, mw_no, mw_ite, mw_call, mw_ret, mw_cst, mw_ii, mw_i1, mw_ll, mw_l1, mw_li, mw_i2l, mw_l2i, mw_lcm, mw_if, mw_ic, mw_ifnN, mw_ifnR, mw_go, mw_dupi, mw_dupr, mw_popi, mw_popr, mw_nw, mw_rti, mw_rtl, mw_rtr, mw_rtn, mw_rtv, mw_rt0, mw_rt1, mj_ild, mj_lld, mj_ald, mj_ist, mj_lst, mj_ast, mj_inc, mj_iz, mj_get, mj_put, mj_len, mj_iar, mj_aar, mj_iaw, mj_aaw, mj_ivs, mj_ivv, mj_ivi, mj_ob, mj_tk, mj_cat, mj_st1, mj_st2, mj_clr, mj_nwi, mj_nwq, List.getElem?_cons_zero, List.getElem?_cons_succ, List.length_cons, List.length_nil, List.set_cons_zero, List.set_cons_succ, Value.category, decide_eq_true_eq, List.map_cons, List.map_nil, List.sum_cons, List.sum_nil, Option.toList, List.cons_append, List.nil_append, ite_true, ite_false, if_true, if_false, reduceCtorEq, true_and, and_true, narrow_i, narrow_l, narrow_r, narrow_n, fits_i, fits_l, fits_ro, fits_ra, fits_no, fits_na, Nat.reduceAdd, Nat.reduceLT, Nat.reduceLeDiff, Nat.reduceEqDiff, Nat.reduceSub, zero_add0, true_or, or_true, false_or, or_false, not_true_eq_false, not_false_eq_true, eq_self, i10, i01, im0, im1, h, e1]
theorem m_dig1 (h : hp.1 M = some (mo_o M n ln cm xs.length (nI p) b t)) (hu : mo_u hp M xs) (hp31 : p < 2 ^ 31) {c : Nat} (hx : xs[p]? = some c) (h1 : 48 ≤ c) (h2 : c ≤ 57) : mj_call 114 [.ref M] hp Q = Q (some (.int 1)) hp := by
  have q1 : (nI c < 48) = False := eq_false (nI_nlt (a := c) (b := 48) h1 (by omega))
  have q2 : ((57 : Int32) < nI c) = False := eq_false (nI_nlt (a := 57) (b := c) h2 (by omega))
  rw [en_114]
  simp only [x_114_0, x_114_1, x_114_4, x_114_6, x_114_9, x_114_10, x_114_13, x_114_15, x_114_18, x_114_19, x_114_22, x_114_23, mw_nx, mw_no, mw_ite, mw_call, mw_ret, mw_cst, mw_ii, mw_i1, mw_ll, mw_l1, mw_li, mw_i2l, mw_l2i, mw_lcm, mw_if, mw_ic, mw_ifnN, mw_ifnR, mw_go, mw_dupi, mw_dupr, mw_popi, mw_popr, mw_nw, mw_rti, mw_rtl, mw_rtr, mw_rtn, mw_rtv, mw_rt0, mw_rt1, mj_ild, mj_lld, mj_ald, mj_ist, mj_lst, mj_ast, mj_inc, mj_iz, mj_get, mj_put, mj_len, mj_iar, mj_aar, mj_iaw, mj_aaw, mj_ivs, mj_ivv, mj_ivi, mj_ob, mj_tk, mj_cat, mj_st1, mj_st2, mj_clr, mj_nwi, mj_nwq, List.getElem?_cons_zero, List.getElem?_cons_succ, List.length_cons, List.length_nil, List.set_cons_zero, List.set_cons_succ, Value.category, decide_eq_true_eq, List.map_cons, List.map_nil, List.sum_cons, List.sum_nil, Option.toList, List.cons_append, List.nil_append, ite_true, ite_false, if_true, if_false, reduceCtorEq, true_and, and_true, narrow_i, narrow_l, narrow_r, narrow_n, fits_i, fits_l, fits_ro, fits_ra, fits_no, fits_na, Nat.reduceAdd, Nat.reduceLT, Nat.reduceLeDiff, Nat.reduceEqDiff, Nat.reduceSub, zero_add0, true_or, or_true, false_or, or_false, not_true_eq_false, not_false_eq_true, eq_self, i10, i01, im0, im1, h, m_look h hu hp31, hv_some hx, q1, q2]
theorem m_dig0 (h : hp.1 M = some (mo_o M n ln cm xs.length (nI p) b t)) (hu : mo_u hp M xs) (hp31 : p < 2 ^ 31) (hx : ∀ c, xs[p]? = some c → ¬ (48 ≤ c ∧ c ≤ 57)) : mj_call 114 [.ref M] hp Q = Q (some (.int 0)) hp := by
  have hb : ∀ c ∈ xs, c < 256 := by obtain ⟨f, -, -, -, q⟩ := hu; exact q
  have m48 : ((-1 : Int32) < 48) = True := by decide
  rw [en_114]
  cases hxp : xs[p]? with
  | none =>
    have hv1 : hv xs p = -1 := by unfold hv; rw [hxp]
    simp only [x_114_0, x_114_1, x_114_4, x_114_6, x_114_9, x_114_10, x_114_13, x_114_15, x_114_18, x_114_19, x_114_22, x_114_23, mw_nx, mw_no, mw_ite, mw_call, mw_ret, mw_cst, mw_ii, mw_i1, mw_ll, mw_l1, mw_li, mw_i2l, mw_l2i, mw_lcm, mw_if, mw_ic, mw_ifnN, mw_ifnR, mw_go, mw_dupi, mw_dupr, mw_popi, mw_popr, mw_nw, mw_rti, mw_rtl, mw_rtr, mw_rtn, mw_rtv, mw_rt0, mw_rt1, mj_ild, mj_lld, mj_ald, mj_ist, mj_lst, mj_ast, mj_inc, mj_iz, mj_get, mj_put, mj_len, mj_iar, mj_aar, mj_iaw, mj_aaw, mj_ivs, mj_ivv, mj_ivi, mj_ob, mj_tk, mj_cat, mj_st1, mj_st2, mj_clr, mj_nwi, mj_nwq, List.getElem?_cons_zero, List.getElem?_cons_succ, List.length_cons, List.length_nil, List.set_cons_zero, List.set_cons_succ, Value.category, decide_eq_true_eq, List.map_cons, List.map_nil, List.sum_cons, List.sum_nil, Option.toList, List.cons_append, List.nil_append, ite_true, ite_false, if_true, if_false, reduceCtorEq, true_and, and_true, narrow_i, narrow_l, narrow_r, narrow_n, fits_i, fits_l, fits_ro, fits_ra, fits_no, fits_na, Nat.reduceAdd, Nat.reduceLT, Nat.reduceLeDiff, Nat.reduceEqDiff, Nat.reduceSub, zero_add0, true_or, or_true, false_or, or_false, not_true_eq_false, not_false_eq_true, eq_self, i10, i01, im0, im1, h, m_look h hu hp31, hv1, m48]
  | some c =>
    have hc : c < 256 := hb c (List.mem_of_getElem? hxp)
    have i48 : (nI c < 48) = (c < 48) := propext (nI_ltI (b := 48) (by omega) (by omega))
    have i57 : ((57 : Int32) < nI c) = (57 < c) := propext (nI_ltI (a := 57) (by omega) (by omega))
    by_cases c1 : c < 48
    · have q1 := eq_true c1
      simp only [x_114_0, x_114_1, x_114_4, x_114_6, x_114_9, x_114_10, x_114_13, x_114_15, x_114_18, x_114_19, x_114_22, x_114_23, mw_nx, mw_no, mw_ite, mw_call, mw_ret, mw_cst, mw_ii, mw_i1, mw_ll, mw_l1, mw_li, mw_i2l, mw_l2i, mw_lcm, mw_if, mw_ic, mw_ifnN, mw_ifnR, mw_go, mw_dupi, mw_dupr, mw_popi, mw_popr, mw_nw, mw_rti, mw_rtl, mw_rtr, mw_rtn, mw_rtv, mw_rt0, mw_rt1, mj_ild, mj_lld, mj_ald, mj_ist, mj_lst, mj_ast, mj_inc, mj_iz, mj_get, mj_put, mj_len, mj_iar, mj_aar, mj_iaw, mj_aaw, mj_ivs, mj_ivv, mj_ivi, mj_ob, mj_tk, mj_cat, mj_st1, mj_st2, mj_clr, mj_nwi, mj_nwq, List.getElem?_cons_zero, List.getElem?_cons_succ, List.length_cons, List.length_nil, List.set_cons_zero, List.set_cons_succ, Value.category, decide_eq_true_eq, List.map_cons, List.map_nil, List.sum_cons, List.sum_nil, Option.toList, List.cons_append, List.nil_append, ite_true, ite_false, if_true, if_false, reduceCtorEq, true_and, and_true, narrow_i, narrow_l, narrow_r, narrow_n, fits_i, fits_l, fits_ro, fits_ra, fits_no, fits_na, Nat.reduceAdd, Nat.reduceLT, Nat.reduceLeDiff, Nat.reduceEqDiff, Nat.reduceSub, zero_add0, true_or, or_true, false_or, or_false, not_true_eq_false, not_false_eq_true, eq_self, i10, i01, im0, im1, h, m_look h hu hp31, hv_some hxp, i48, q1]
    · have q1 := eq_false c1
      have q2 : (57 < c) = True := eq_true (by have := hx c hxp; omega)
      simp only [x_114_0, x_114_1, x_114_4, x_114_6, x_114_9, x_114_10, x_114_13, x_114_15, x_114_18, x_114_19, x_114_22, x_114_23, mw_nx, mw_no, mw_ite, mw_call, mw_ret, mw_cst, mw_ii, mw_i1, mw_ll, mw_l1, mw_li, mw_i2l, mw_l2i, mw_lcm, mw_if, mw_ic, mw_ifnN, mw_ifnR, mw_go, mw_dupi, mw_dupr, mw_popi, mw_popr, mw_nw, mw_rti, mw_rtl, mw_rtr, mw_rtn, mw_rtv, mw_rt0, mw_rt1, mj_ild, mj_lld, mj_ald, mj_ist, mj_lst, mj_ast, mj_inc, mj_iz, mj_get, mj_put, mj_len, mj_iar, mj_aar, mj_iaw, mj_aaw, mj_ivs, mj_ivv, mj_ivi, mj_ob, mj_tk, mj_cat, mj_st1, mj_st2, mj_clr, mj_nwi, mj_nwq, List.getElem?_cons_zero, List.getElem?_cons_succ, List.length_cons, List.length_nil, List.set_cons_zero, List.set_cons_succ, Value.category, decide_eq_true_eq, List.map_cons, List.map_nil, List.sum_cons, List.sum_nil, Option.toList, List.cons_append, List.nil_append, ite_true, ite_false, if_true, if_false, reduceCtorEq, true_and, and_true, narrow_i, narrow_l, narrow_r, narrow_n, fits_i, fits_l, fits_ro, fits_ra, fits_no, fits_na, Nat.reduceAdd, Nat.reduceLT, Nat.reduceLeDiff, Nat.reduceEqDiff, Nat.reduceSub, zero_add0, true_or, or_true, false_or, or_false, not_true_eq_false, not_false_eq_true, eq_self, i10, i01, im0, im1, h, m_look h hu hp31, hv_some hxp, i48, q1, i57, q2]
theorem m_kindOf (hb : ∀ c ∈ xs, c < 256) : mj_call 110 [.int (hv xs p)] hp Q = Q (some (.int (match rd_kind xs p with | some k => nI k | none => -1))) hp := by
  have e0 : (hv xs p = 103) = (xs[p]? = some 103) := hv_eq (v := 103) hb (by decide)
  have e1 : (hv xs p = 108) = (xs[p]? = some 108) := hv_eq (v := 108) hb (by decide)
  have e2 : (hv xs p = 106) = (xs[p]? = some 106) := hv_eq (v := 106) hb (by decide)
  have e3 : (hv xs p = 97) = (xs[p]? = some 97) := hv_eq (v := 97) hb (by decide)
  rw [en_110]
  unfold rd_kind
  by_cases q0 : xs[p]? = some 103
  · have t0 := eq_true q0
    rw [if_pos q0]
    simp only [x_110_0, x_110_1, x_110_3, x_110_6, x_110_7, x_110_10, x_110_11, x_110_13, x_110_16, x_110_17, x_110_20, x_110_21, x_110_23, x_110_26, x_110_27, x_110_30, x_110_31, x_110_33, x_110_36, x_110_37, x_110_40, x_110_41, mw_nx, mw_no, mw_ite, mw_call, mw_ret, mw_cst, mw_ii, mw_i1, mw_ll, mw_l1, mw_li, mw_i2l, mw_l2i, mw_lcm, mw_if, mw_ic, mw_ifnN, mw_ifnR, mw_go, mw_dupi, mw_dupr, mw_popi, mw_popr, mw_nw, mw_rti, mw_rtl, mw_rtr, mw_rtn, mw_rtv, mw_rt0, mw_rt1, mj_ild, mj_lld, mj_ald, mj_ist, mj_lst, mj_ast, mj_inc, mj_iz, mj_get, mj_put, mj_len, mj_iar, mj_aar, mj_iaw, mj_aaw, mj_ivs, mj_ivv, mj_ivi, mj_ob, mj_tk, mj_cat, mj_st1, mj_st2, mj_clr, mj_nwi, mj_nwq, List.getElem?_cons_zero, List.getElem?_cons_succ, List.length_cons, List.length_nil, List.set_cons_zero, List.set_cons_succ, Value.category, decide_eq_true_eq, List.map_cons, List.map_nil, List.sum_cons, List.sum_nil, Option.toList, List.cons_append, List.nil_append, ite_true, ite_false, if_true, if_false, reduceCtorEq, true_and, and_true, narrow_i, narrow_l, narrow_r, narrow_n, fits_i, fits_l, fits_ro, fits_ra, fits_no, fits_na, Nat.reduceAdd, Nat.reduceLT, Nat.reduceLeDiff, Nat.reduceEqDiff, Nat.reduceSub, zero_add0, true_or, or_true, false_or, or_false, not_true_eq_false, not_false_eq_true, eq_self, i10, i01, im0, im1, e0, t0]
    rfl
  · have t0 := eq_false q0
    rw [if_neg q0]
    by_cases q1 : xs[p]? = some 108
    · have t1 := eq_true q1
      rw [if_pos q1]
      simp only [x_110_0, x_110_1, x_110_3, x_110_6, x_110_7, x_110_10, x_110_11, x_110_13, x_110_16, x_110_17, x_110_20, x_110_21, x_110_23, x_110_26, x_110_27, x_110_30, x_110_31, x_110_33, x_110_36, x_110_37, x_110_40, x_110_41, mw_nx, mw_no, mw_ite, mw_call, mw_ret, mw_cst, mw_ii, mw_i1, mw_ll, mw_l1, mw_li, mw_i2l, mw_l2i, mw_lcm, mw_if, mw_ic, mw_ifnN, mw_ifnR, mw_go, mw_dupi, mw_dupr, mw_popi, mw_popr, mw_nw, mw_rti, mw_rtl, mw_rtr, mw_rtn, mw_rtv, mw_rt0, mw_rt1, mj_ild, mj_lld, mj_ald, mj_ist, mj_lst, mj_ast, mj_inc, mj_iz, mj_get, mj_put, mj_len, mj_iar, mj_aar, mj_iaw, mj_aaw, mj_ivs, mj_ivv, mj_ivi, mj_ob, mj_tk, mj_cat, mj_st1, mj_st2, mj_clr, mj_nwi, mj_nwq, List.getElem?_cons_zero, List.getElem?_cons_succ, List.length_cons, List.length_nil, List.set_cons_zero, List.set_cons_succ, Value.category, decide_eq_true_eq, List.map_cons, List.map_nil, List.sum_cons, List.sum_nil, Option.toList, List.cons_append, List.nil_append, ite_true, ite_false, if_true, if_false, reduceCtorEq, true_and, and_true, narrow_i, narrow_l, narrow_r, narrow_n, fits_i, fits_l, fits_ro, fits_ra, fits_no, fits_na, Nat.reduceAdd, Nat.reduceLT, Nat.reduceLeDiff, Nat.reduceEqDiff, Nat.reduceSub, zero_add0, true_or, or_true, false_or, or_false, not_true_eq_false, not_false_eq_true, eq_self, i10, i01, im0, im1, e0, t0, e1, t1]
      rfl
    · have t1 := eq_false q1
      rw [if_neg q1]
      by_cases q2 : xs[p]? = some 106
      · have t2 := eq_true q2
        rw [if_pos q2]
        simp only [x_110_0, x_110_1, x_110_3, x_110_6, x_110_7, x_110_10, x_110_11, x_110_13, x_110_16, x_110_17, x_110_20, x_110_21, x_110_23, x_110_26, x_110_27, x_110_30, x_110_31, x_110_33, x_110_36, x_110_37, x_110_40, x_110_41, mw_nx, mw_no, mw_ite, mw_call, mw_ret, mw_cst, mw_ii, mw_i1, mw_ll, mw_l1, mw_li, mw_i2l, mw_l2i, mw_lcm, mw_if, mw_ic, mw_ifnN, mw_ifnR, mw_go, mw_dupi, mw_dupr, mw_popi, mw_popr, mw_nw, mw_rti, mw_rtl, mw_rtr, mw_rtn, mw_rtv, mw_rt0, mw_rt1, mj_ild, mj_lld, mj_ald, mj_ist, mj_lst, mj_ast, mj_inc, mj_iz, mj_get, mj_put, mj_len, mj_iar, mj_aar, mj_iaw, mj_aaw, mj_ivs, mj_ivv, mj_ivi, mj_ob, mj_tk, mj_cat, mj_st1, mj_st2, mj_clr, mj_nwi, mj_nwq, List.getElem?_cons_zero, List.getElem?_cons_succ, List.length_cons, List.length_nil, List.set_cons_zero, List.set_cons_succ, Value.category, decide_eq_true_eq, List.map_cons, List.map_nil, List.sum_cons, List.sum_nil, Option.toList, List.cons_append, List.nil_append, ite_true, ite_false, if_true, if_false, reduceCtorEq, true_and, and_true, narrow_i, narrow_l, narrow_r, narrow_n, fits_i, fits_l, fits_ro, fits_ra, fits_no, fits_na, Nat.reduceAdd, Nat.reduceLT, Nat.reduceLeDiff, Nat.reduceEqDiff, Nat.reduceSub, zero_add0, true_or, or_true, false_or, or_false, not_true_eq_false, not_false_eq_true, eq_self, i10, i01, im0, im1, e0, t0, e1, t1, e2, t2]
        rfl
      · have t2 := eq_false q2
        rw [if_neg q2]
        by_cases q3 : xs[p]? = some 97
        · have t3 := eq_true q3
          rw [if_pos q3]
          simp only [x_110_0, x_110_1, x_110_3, x_110_6, x_110_7, x_110_10, x_110_11, x_110_13, x_110_16, x_110_17, x_110_20, x_110_21, x_110_23, x_110_26, x_110_27, x_110_30, x_110_31, x_110_33, x_110_36, x_110_37, x_110_40, x_110_41, mw_nx, mw_no, mw_ite, mw_call, mw_ret, mw_cst, mw_ii, mw_i1, mw_ll, mw_l1, mw_li, mw_i2l, mw_l2i, mw_lcm, mw_if, mw_ic, mw_ifnN, mw_ifnR, mw_go, mw_dupi, mw_dupr, mw_popi, mw_popr, mw_nw, mw_rti, mw_rtl, mw_rtr, mw_rtn, mw_rtv, mw_rt0, mw_rt1, mj_ild, mj_lld, mj_ald, mj_ist, mj_lst, mj_ast, mj_inc, mj_iz, mj_get, mj_put, mj_len, mj_iar, mj_aar, mj_iaw, mj_aaw, mj_ivs, mj_ivv, mj_ivi, mj_ob, mj_tk, mj_cat, mj_st1, mj_st2, mj_clr, mj_nwi, mj_nwq, List.getElem?_cons_zero, List.getElem?_cons_succ, List.length_cons, List.length_nil, List.set_cons_zero, List.set_cons_succ, Value.category, decide_eq_true_eq, List.map_cons, List.map_nil, List.sum_cons, List.sum_nil, Option.toList, List.cons_append, List.nil_append, ite_true, ite_false, if_true, if_false, reduceCtorEq, true_and, and_true, narrow_i, narrow_l, narrow_r, narrow_n, fits_i, fits_l, fits_ro, fits_ra, fits_no, fits_na, Nat.reduceAdd, Nat.reduceLT, Nat.reduceLeDiff, Nat.reduceEqDiff, Nat.reduceSub, zero_add0, true_or, or_true, false_or, or_false, not_true_eq_false, not_false_eq_true, eq_self, i10, i01, im0, im1, e0, t0, e1, t1, e2, t2, e3, t3]
          rfl
        · have t3 := eq_false q3
          rw [if_neg q3]
          simp only [x_110_0, x_110_1, x_110_3, x_110_6, x_110_7, x_110_10, x_110_11, x_110_13, x_110_16, x_110_17, x_110_20, x_110_21, x_110_23, x_110_26, x_110_27, x_110_30, x_110_31, x_110_33, x_110_36, x_110_37, x_110_40, x_110_41, mw_nx, mw_no, mw_ite, mw_call, mw_ret, mw_cst, mw_ii, mw_i1, mw_ll, mw_l1, mw_li, mw_i2l, mw_l2i, mw_lcm, mw_if, mw_ic, mw_ifnN, mw_ifnR, mw_go, mw_dupi, mw_dupr, mw_popi, mw_popr, mw_nw, mw_rti, mw_rtl, mw_rtr, mw_rtn, mw_rtv, mw_rt0, mw_rt1, mj_ild, mj_lld, mj_ald, mj_ist, mj_lst, mj_ast, mj_inc, mj_iz, mj_get, mj_put, mj_len, mj_iar, mj_aar, mj_iaw, mj_aaw, mj_ivs, mj_ivv, mj_ivi, mj_ob, mj_tk, mj_cat, mj_st1, mj_st2, mj_clr, mj_nwi, mj_nwq, List.getElem?_cons_zero, List.getElem?_cons_succ, List.length_cons, List.length_nil, List.set_cons_zero, List.set_cons_succ, Value.category, decide_eq_true_eq, List.map_cons, List.map_nil, List.sum_cons, List.sum_nil, Option.toList, List.cons_append, List.nil_append, ite_true, ite_false, if_true, if_false, reduceCtorEq, true_and, and_true, narrow_i, narrow_l, narrow_r, narrow_n, fits_i, fits_l, fits_ro, fits_ra, fits_no, fits_na, Nat.reduceAdd, Nat.reduceLT, Nat.reduceLeDiff, Nat.reduceEqDiff, Nat.reduceSub, zero_add0, true_or, or_true, false_or, or_false, not_true_eq_false, not_false_eq_true, eq_self, i10, i01, im0, im1, e0, t0, e1, t1, e2, t2, e3, t3]
theorem m_readLiteral (h : hp.1 M = some (mo_o M n ln cm xs.length (nI p) (-1) 0)) (hu : mo_u hp M xs) (hr : rows hp M C) (hn : n ≤ 64) (hple : p ≤ xs.length) {i : Nat} (hi : i < 160)
    (hQ1 : ∀ (c p' : Nat) (hp' : mj_H), rd_lit xs n (C i) p = .inl (c, p') → p ≤ p' → p' ≤ xs.length → c < 2 * n → ln_takes (C i) c → hp'.1 M = some (mo_o M n ln cm xs.length (nI p') (-1) 0) → rows hp' M (va_up C i ((C i).1, (C i).2 ++ [c])) → sm hp hp' M (M + 4) → Q none hp')
    (hQ0 : ∀ (e q : Nat) (hp' : mj_H), rd_lit xs n (C i) p = .inr e → e ≤ xs.length → q ≤ xs.length → hp'.1 M = some (mo_o M n ln cm xs.length (nI q) (nI e) 0) → rows hp' M C → sm hp hp' M (M + 4) → Q none hp') : mj_call 115 [.ref M, .int (nI i)] hp Q := by
  have hx4 : xs.length ≤ 4000 := by obtain ⟨f, -, -, q, -⟩ := hu; exact q
  have hb : ∀ c ∈ xs, c < 256 := by obtain ⟨f, -, -, -, q⟩ := hu; exact q
  have key : ∀ (st tr : Nat) (hp0 : mj_H), st = (if xs[p]? = some 45 then p + 1 else p) → tr = (if xs[p]? = some 45 then 0 else 1) → p ≤ st → st ≤ xs.length → hp0.1 M = some (mo_o M n ln cm xs.length (nI st) (-1) 0) → mo_u hp0 M xs → rows hp0 M C → sm hp hp0 M (M + 4) → ∀ (f q N v : Nat) (hp1 : mj_H), xs.length ≤ q + f → q ≤ xs.length → N ≤ 9999 → v = min 1000 N → ((q = st ∧ N = 0) ∨ (st < q ∧ (xs[st]? = some 48 ∨ 1 ≤ N))) → rd_dig f xs q v = rd_dig 4000 xs st 0 → hp1.1 M = some (mo_o M n ln cm xs.length (nI q) (-1) 0) → sm hp0 hp1 M (M + 1) → mj_wp 115 37 [some (.ref M), some (.int (nI i)), some (.int (nI tr)), some (.int (nI st)), some (.int (nI N)), none, none] [] hp1 Q := by
    intro st tr hp0 hst htr hpst hstle h0 hu0 hr0 s0
    have htr1 : tr ≤ 1 := by rw [htr]; split <;> omega
    have hlit : rd_lit xs n (C i) p = sp_if (1 ≤ rd_num xs st ∧ rd_num xs st ≤ n ∧ ¬ 2 * (rd_num xs st - 1) + tr ∈ (C i).2 ∧ ((C i).1 ≠ 3 ∨ ¬ un_neg (2 * (rd_num xs st - 1) + tr) ∈ (C i).2)) (.inl (2 * (rd_num xs st - 1) + tr, rd_end xs st)) (.inr st) := by
      unfold rd_lit; rw [← hst, ← htr]
    have done : ∀ (q N v : Nat) (hp1 : mj_H), q ≤ xs.length → N ≤ 9999 → v = min 1000 N → ((q = st ∧ N = 0) ∨ (st < q ∧ (xs[st]? = some 48 ∨ 1 ≤ N))) → (v, q) = rd_dig 4000 xs st 0 → hp1.1 M = some (mo_o M n ln cm xs.length (nI q) (-1) 0) → sm hp0 hp1 M (M + 1) → mj_wp 115 80 [some (.ref M), some (.int (nI i)), some (.int (nI tr)), some (.int (nI st)), some (.int (nI N)), none, none] [] hp1 Q := by
      intro q N v hp1 hq hN hvN hc he h1 s1
      have s1' : sm hp0 hp1 M (M + 4) := s1.mono (by omega) (by omega)
      have he1 : rd_end xs st = q := by unfold rd_end; rw [← he]
      have he2 : rd_num xs st = if xs[st]? = some 48 then 0 else v := by unfold rd_num; rw [← he]
      have hr1 : rows hp1 M C := hr0.keep (s1.2 _ (by omega)) (s1.2 _ (by omega)) (s1.2 _ (by omega))
      have bad : ¬ (1 ≤ rd_num xs st ∧ rd_num xs st ≤ n ∧ ¬ 2 * (rd_num xs st - 1) + tr ∈ (C i).2 ∧ ((C i).1 ≠ 3 ∨ ¬ un_neg (2 * (rd_num xs st - 1) + tr) ∈ (C i).2)) → Q none (mj_up hp1 M (mo_o M n ln cm xs.length (nI q) (nI st) 0)) := by
        intro hno
        rw [sp_if_f hno] at hlit
        exact hQ0 st q _ hlit hstle hq mj_up_at (hr1.keep (mj_up_off (by omega)) (mj_up_off (by omega)) (mj_up_off (by omega))) ((s0.tr s1').tr (sm.up (by omega) (by omega)))
      have e1 : (nI q = nI st) = (q = st) := propext (nI_eq (by omega) (by omega))
      by_cases w1 : q = st
      · have q1 := eq_true w1
        simp only [x_115_80, x_115_81, x_115_84, x_115_85, x_115_88, x_115_89, x_115_90, x_115_93, mw_nx, mw_no, mw_ite, mw_call, mw_ret, mw_cst, mw_ii, mw_i1, mw_ll, mw_l1, mw_li, mw_i2l, mw_l2i, mw_lcm, mw_if, mw_ic, mw_ifnN, mw_ifnR, mw_go, mw_dupi, mw_dupr, mw_popi, mw_popr, mw_nw, mw_rti, mw_rtl, mw_rtr, mw_rtn, mw_rtv, mw_rt0, mw_rt1, mj_ild, mj_lld, mj_ald, mj_ist, mj_lst, mj_ast, mj_inc, mj_iz, mj_get, mj_put, mj_len, mj_iar, mj_aar, mj_iaw, mj_aaw, mj_ivs, mj_ivv, mj_ivi, mj_ob, mj_tk, mj_cat, mj_st1, mj_st2, mj_clr, mj_nwi, mj_nwq, List.getElem?_cons_zero, List.getElem?_cons_succ, List.length_cons, List.length_nil, List.set_cons_zero, List.set_cons_succ, Value.category, decide_eq_true_eq, List.map_cons, List.map_nil, List.sum_cons, List.sum_nil, Option.toList, List.cons_append, List.nil_append, ite_true, ite_false, if_true, if_false, reduceCtorEq, true_and, and_true, narrow_i, narrow_l, narrow_r, narrow_n, fits_i, fits_l, fits_ro, fits_ra, fits_no, fits_na, Nat.reduceAdd, Nat.reduceLT, Nat.reduceLeDiff, Nat.reduceEqDiff, Nat.reduceSub, zero_add0, true_or, or_true, false_or, or_false, not_true_eq_false, not_false_eq_true, eq_self, i10, i01, im0, im1, h1, e1, q1, m_fail _ h1]
        have hN0 : N = 0 := by omega
        refine bad (fun z => ?_)
        rw [he2] at z
        have := z.1
        split at this <;> omega
      · have q1 := eq_false w1
        have hlt : st < xs.length := by omega
        have hu1 : mo_u hp1 M xs := hu0.keep (s1.2 _ (by omega))
        have hc2 : xs[st]? = some 48 ∨ 1 ≤ N := by
          rcases hc with ⟨z, -⟩ | ⟨-, z⟩
          · exact absurd z w1
          · exact z
        obtain ⟨fu, u1, u2, u3, u4⟩ := hu1
        have z0 : ¬ nI st < 0 := nI_pos (by omega)
        have z1 : (nI st).toNatClampNeg = st := nI_clamp (by omega)
        have z2 : ¬ 4000 ≤ st := by omega
        have e3 : fu st = hv xs st := by rw [u2 st hlt, hv_some (List.getElem?_eq_getElem hlt), List.getD_eq_getElem?_getD, List.getElem?_eq_getElem hlt]; rfl
        have hv2 : (hv xs st = 48) = (xs[st]? = some 48) := hv_eq (v := 48) hb (by decide)
        by_cases w2 : xs[st]? = some 48
        · have q2 := eq_true w2
          simp only [x_115_80, x_115_81, x_115_84, x_115_85, x_115_94, x_115_96, x_115_97, x_115_98, x_115_99, x_115_102, x_115_104, x_115_105, x_115_108, x_115_109, x_115_110, x_115_112, x_115_115, x_115_117, x_115_118, x_115_121, x_115_124, x_115_125, x_115_128, x_115_129, x_115_131, x_115_133, x_115_168, x_115_169, x_115_170, x_115_173, x_115_176, x_115_177, x_115_178, x_115_180, x_115_183, mw_nx, mw_no, mw_ite, mw_call, mw_ret, mw_cst, mw_ii, mw_i1, mw_ll, mw_l1, mw_li, mw_i2l, mw_l2i, mw_lcm, mw_if, mw_ic, mw_ifnN, mw_ifnR, mw_go, mw_dupi, mw_dupr, mw_popi, mw_popr, mw_nw, mw_rti, mw_rtl, mw_rtr, mw_rtn, mw_rtv, mw_rt0, mw_rt1, mj_ild, mj_lld, mj_ald, mj_ist, mj_lst, mj_ast, mj_inc, mj_iz, mj_get, mj_put, mj_len, mj_iar, mj_aar, mj_iaw, mj_aaw, mj_ivs, mj_ivv, mj_ivi, mj_ob, mj_tk, mj_cat, mj_st1, mj_st2, mj_clr, mj_nwi, mj_nwq, List.getElem?_cons_zero, List.getElem?_cons_succ, List.length_cons, List.length_nil, List.set_cons_zero, List.set_cons_succ, Value.category, decide_eq_true_eq, List.map_cons, List.map_nil, List.sum_cons, List.sum_nil, Option.toList, List.cons_append, List.nil_append, ite_true, ite_false, if_true, if_false, reduceCtorEq, true_and, and_true, narrow_i, narrow_l, narrow_r, narrow_n, fits_i, fits_l, fits_ro, fits_ra, fits_no, fits_na, Nat.reduceAdd, Nat.reduceLT, Nat.reduceLeDiff, Nat.reduceEqDiff, Nat.reduceSub, zero_add0, true_or, or_true, false_or, or_false, not_true_eq_false, not_false_eq_true, eq_self, i10, i01, im0, im1, h1, e1, q1, m_litOf, u1, at_0, z0, z1, z2, e3, hv2, q2, m_fail _ h1]
          refine bad (fun z => ?_)
          rw [he2, if_pos w2] at z
          omega
        · have q2 := eq_false w2
          rw [if_neg w2] at he2
          have hN1 : 1 ≤ N := by
            rcases hc2 with z | z
            · exact absurd z w2
            · exact z
          have e4 : (nI N ≤ nI n) = (N ≤ n) := propext (nI_leI (by omega) (by omega))
          by_cases w3 : N ≤ n
          · have q3 := eq_true w3
            have hvN2 : rd_num xs st = N := by rw [he2, hvN]; omega
            rw [hvN2] at hlit bad
            have e5 : nI N - 1 = nI (N - 1) := pk_sub (b := 1) (by omega)
            have e6 : (2 : Int32) * nI (N - 1) + (if nI tr = 0 then 0 else 1) = nI (2 * (N - 1) + tr) := by
              have : (if nI tr = 0 then (0 : Int32) else 1) = nI tr := by
                rcases (show tr = 0 ∨ tr = 1 by omega) with rfl | rfl <;> rfl
              rw [this]
              show nI 2 * nI (N - 1) + nI tr = _
              rw [pk_mul, nI_add]
            have hk : 2 * (N - 1) + tr < 128 := by omega
            have hk2 : 2 * (N - 1) + tr < 2 * n := by omega
            generalize hkk : 2 * (N - 1) + tr = k at hlit bad e6 hk hk2
            have hr1' := hr1
            obtain ⟨fk, fm, fl, r1, r2, r3, r4⟩ := hr1'
            obtain ⟨a1, a2, a3, a4, a5⟩ := r4 i hi
            have i0 : ¬ nI i < 0 := nI_pos (by omega)
            have i1 : (nI i).toNatClampNeg = i := nI_clamp (by omega)
            have i2 : ¬ 160 ≤ i := by omega
            have hun : un_neg k < 2 ^ 31 := by unfold un_neg; split <;> omega
            have e7 : (nI (C i).1 = 3) = ((C i).1 = 3) := propext (nI_eq (b := 3) (by omega) (by omega))
            have good : so_takes (C i) k → ∀ (o5 o6 : Option Value), mj_wp 115 176 [some (.ref M), some (.int (nI i)), some (.int (nI tr)), some (.int (nI st)), some (.int (nI N)), some (.int (nI k)), o6] [] hp1 Q := by
              intro htk o5 o6
              rw [sp_if_t ⟨hN1, w3, htk.1, htk.2⟩] at hlit
              simp only [x_115_176, x_115_177, x_115_178, x_115_180, mw_nx, mw_no, mw_ite, mw_call, mw_ret, mw_cst, mw_ii, mw_i1, mw_ll, mw_l1, mw_li, mw_i2l, mw_l2i, mw_lcm, mw_if, mw_ic, mw_ifnN, mw_ifnR, mw_go, mw_dupi, mw_dupr, mw_popi, mw_popr, mw_nw, mw_rti, mw_rtl, mw_rtr, mw_rtn, mw_rtv, mw_rt0, mw_rt1, mj_ild, mj_lld, mj_ald, mj_ist, mj_lst, mj_ast, mj_inc, mj_iz, mj_get, mj_put, mj_len, mj_iar, mj_aar, mj_iaw, mj_aaw, mj_ivs, mj_ivv, mj_ivi, mj_ob, mj_tk, mj_cat, mj_st1, mj_st2, mj_clr, mj_nwi, mj_nwq, List.getElem?_cons_zero, List.getElem?_cons_succ, List.length_cons, List.length_nil, List.set_cons_zero, List.set_cons_succ, Value.category, decide_eq_true_eq, List.map_cons, List.map_nil, List.sum_cons, List.sum_nil, Option.toList, List.cons_append, List.nil_append, ite_true, ite_false, if_true, if_false, reduceCtorEq, true_and, and_true, narrow_i, narrow_l, narrow_r, narrow_n, fits_i, fits_l, fits_ro, fits_ra, fits_no, fits_na, Nat.reduceAdd, Nat.reduceLT, Nat.reduceLeDiff, Nat.reduceEqDiff, Nat.reduceSub, zero_add0, true_or, or_true, false_or, or_false, not_true_eq_false, not_false_eq_true, eq_self, i10, i01, im0, im1, h1]
              refine m_add h1 hr1 hi hk htk.1 (fun hp2 r2 s2 => ?_)
              simp only [x_115_183, mw_nx, mw_no, mw_ite, mw_call, mw_ret, mw_cst, mw_ii, mw_i1, mw_ll, mw_l1, mw_li, mw_i2l, mw_l2i, mw_lcm, mw_if, mw_ic, mw_ifnN, mw_ifnR, mw_go, mw_dupi, mw_dupr, mw_popi, mw_popr, mw_nw, mw_rti, mw_rtl, mw_rtr, mw_rtn, mw_rtv, mw_rt0, mw_rt1, mj_ild, mj_lld, mj_ald, mj_ist, mj_lst, mj_ast, mj_inc, mj_iz, mj_get, mj_put, mj_len, mj_iar, mj_aar, mj_iaw, mj_aaw, mj_ivs, mj_ivv, mj_ivi, mj_ob, mj_tk, mj_cat, mj_st1, mj_st2, mj_clr, mj_nwi, mj_nwq, List.getElem?_cons_zero, List.getElem?_cons_succ, List.length_cons, List.length_nil, List.set_cons_zero, List.set_cons_succ, Value.category, decide_eq_true_eq, List.map_cons, List.map_nil, List.sum_cons, List.sum_nil, Option.toList, List.cons_append, List.nil_append, ite_true, ite_false, if_true, if_false, reduceCtorEq, true_and, and_true, narrow_i, narrow_l, narrow_r, narrow_n, fits_i, fits_l, fits_ro, fits_ra, fits_no, fits_na, Nat.reduceAdd, Nat.reduceLT, Nat.reduceLeDiff, Nat.reduceEqDiff, Nat.reduceSub, zero_add0, true_or, or_true, false_or, or_false, not_true_eq_false, not_false_eq_true, eq_self, i10, i01, im0, im1]
              exact hQ1 k _ hp2 hlit (by rw [he1]; omega) (by rw [he1]; exact hq) hk2 htk (by rw [he1, s2.2 _ (by omega)]; exact h1) r2 ((s0.tr s1').tr (s2.mono (by omega) (by omega)))
            by_cases w4 : k ∈ (C i).2
            · have q4 := eq_true w4
              simp only [x_115_80, x_115_81, x_115_84, x_115_85, x_115_94, x_115_96, x_115_97, x_115_98, x_115_99, x_115_102, x_115_104, x_115_105, x_115_108, x_115_109, x_115_110, x_115_112, x_115_115, x_115_117, x_115_118, x_115_121, x_115_124, x_115_125, x_115_128, x_115_129, x_115_131, x_115_133, x_115_136, x_115_137, x_115_138, x_115_140, x_115_143, x_115_168, x_115_169, x_115_170, x_115_173, x_115_176, x_115_177, x_115_178, x_115_180, x_115_183, mw_nx, mw_no, mw_ite, mw_call, mw_ret, mw_cst, mw_ii, mw_i1, mw_ll, mw_l1, mw_li, mw_i2l, mw_l2i, mw_lcm, mw_if, mw_ic, mw_ifnN, mw_ifnR, mw_go, mw_dupi, mw_dupr, mw_popi, mw_popr, mw_nw, mw_rti, mw_rtl, mw_rtr, mw_rtn, mw_rtv, mw_rt0, mw_rt1, mj_ild, mj_lld, mj_ald, mj_ist, mj_lst, mj_ast, mj_inc, mj_iz, mj_get, mj_put, mj_len, mj_iar, mj_aar, mj_iaw, mj_aaw, mj_ivs, mj_ivv, mj_ivi, mj_ob, mj_tk, mj_cat, mj_st1, mj_st2, mj_clr, mj_nwi, mj_nwq, List.getElem?_cons_zero, List.getElem?_cons_succ, List.length_cons, List.length_nil, List.set_cons_zero, List.set_cons_succ, Value.category, decide_eq_true_eq, List.map_cons, List.map_nil, List.sum_cons, List.sum_nil, Option.toList, List.cons_append, List.nil_append, ite_true, ite_false, if_true, if_false, reduceCtorEq, true_and, and_true, narrow_i, narrow_l, narrow_r, narrow_n, fits_i, fits_l, fits_ro, fits_ra, fits_no, fits_na, Nat.reduceAdd, Nat.reduceLT, Nat.reduceLeDiff, Nat.reduceEqDiff, Nat.reduceSub, zero_add0, true_or, or_true, false_or, or_false, not_true_eq_false, not_false_eq_true, eq_self, i10, i01, im0, im1, h1, e1, q1, e5, m_litOf, e6, u1, at_0, z0, z1, z2, e3, hv2, q2, e4, q3, m_has h1 hr1 hi (show k < 2 ^ 31 by omega), q4, m_fail _ h1]
              exact bad (fun z => z.2.2.1 w4)
            · have q4 := eq_false w4
              by_cases w5 : (C i).1 = 3
              · have q5 := eq_true w5
                by_cases w6 : un_neg k ∈ (C i).2
                · have q6 := eq_true w6
                  simp only [x_115_80, x_115_81, x_115_84, x_115_85, x_115_94, x_115_96, x_115_97, x_115_98, x_115_99, x_115_102, x_115_104, x_115_105, x_115_108, x_115_109, x_115_110, x_115_112, x_115_115, x_115_117, x_115_118, x_115_121, x_115_124, x_115_125, x_115_128, x_115_129, x_115_131, x_115_133, x_115_136, x_115_137, x_115_138, x_115_140, x_115_143, x_115_146, x_115_147, x_115_150, x_115_151, x_115_152, x_115_153, x_115_156, x_115_157, x_115_158, x_115_160, x_115_161, x_115_162, x_115_165, x_115_168, x_115_169, x_115_170, x_115_173, x_115_176, x_115_177, x_115_178, x_115_180, x_115_183, mw_nx, mw_no, mw_ite, mw_call, mw_ret, mw_cst, mw_ii, mw_i1, mw_ll, mw_l1, mw_li, mw_i2l, mw_l2i, mw_lcm, mw_if, mw_ic, mw_ifnN, mw_ifnR, mw_go, mw_dupi, mw_dupr, mw_popi, mw_popr, mw_nw, mw_rti, mw_rtl, mw_rtr, mw_rtn, mw_rtv, mw_rt0, mw_rt1, mj_ild, mj_lld, mj_ald, mj_ist, mj_lst, mj_ast, mj_inc, mj_iz, mj_get, mj_put, mj_len, mj_iar, mj_aar, mj_iaw, mj_aaw, mj_ivs, mj_ivv, mj_ivi, mj_ob, mj_tk, mj_cat, mj_st1, mj_st2, mj_clr, mj_nwi, mj_nwq, List.getElem?_cons_zero, List.getElem?_cons_succ, List.length_cons, List.length_nil, List.set_cons_zero, List.set_cons_succ, Value.category, decide_eq_true_eq, List.map_cons, List.map_nil, List.sum_cons, List.sum_nil, Option.toList, List.cons_append, List.nil_append, ite_true, ite_false, if_true, if_false, reduceCtorEq, true_and, and_true, narrow_i, narrow_l, narrow_r, narrow_n, fits_i, fits_l, fits_ro, fits_ra, fits_no, fits_na, Nat.reduceAdd, Nat.reduceLT, Nat.reduceLeDiff, Nat.reduceEqDiff, Nat.reduceSub, zero_add0, true_or, or_true, false_or, or_false, not_true_eq_false, not_false_eq_true, eq_self, i10, i01, im0, im1, h1, e1, q1, e5, m_litOf, e6, u1, at_0, z0, z1, z2, e3, hv2, q2, e4, q3, m_has h1 hr1 hi (show k < 2 ^ 31 by omega), q4, r1, i0, i1, i2, a1, e7, q5, un_xor k hk, m_has h1 hr1 hi hun, q6, m_fail _ h1]
                  refine bad (fun z => ?_)
                  rcases z.2.2.2 with y | y
                  · exact y w5
                  · exact y w6
                · have q6 := eq_false w6
                  simp only [x_115_80, x_115_81, x_115_84, x_115_85, x_115_94, x_115_96, x_115_97, x_115_98, x_115_99, x_115_102, x_115_104, x_115_105, x_115_108, x_115_109, x_115_110, x_115_112, x_115_115, x_115_117, x_115_118, x_115_121, x_115_124, x_115_125, x_115_128, x_115_129, x_115_131, x_115_133, x_115_136, x_115_137, x_115_138, x_115_140, x_115_143, x_115_146, x_115_147, x_115_150, x_115_151, x_115_152, x_115_153, x_115_156, x_115_157, x_115_158, x_115_160, x_115_161, x_115_162, x_115_165, mw_nx, mw_no, mw_ite, mw_call, mw_ret, mw_cst, mw_ii, mw_i1, mw_ll, mw_l1, mw_li, mw_i2l, mw_l2i, mw_lcm, mw_if, mw_ic, mw_ifnN, mw_ifnR, mw_go, mw_dupi, mw_dupr, mw_popi, mw_popr, mw_nw, mw_rti, mw_rtl, mw_rtr, mw_rtn, mw_rtv, mw_rt0, mw_rt1, mj_ild, mj_lld, mj_ald, mj_ist, mj_lst, mj_ast, mj_inc, mj_iz, mj_get, mj_put, mj_len, mj_iar, mj_aar, mj_iaw, mj_aaw, mj_ivs, mj_ivv, mj_ivi, mj_ob, mj_tk, mj_cat, mj_st1, mj_st2, mj_clr, mj_nwi, mj_nwq, List.getElem?_cons_zero, List.getElem?_cons_succ, List.length_cons, List.length_nil, List.set_cons_zero, List.set_cons_succ, Value.category, decide_eq_true_eq, List.map_cons, List.map_nil, List.sum_cons, List.sum_nil, Option.toList, List.cons_append, List.nil_append, ite_true, ite_false, if_true, if_false, reduceCtorEq, true_and, and_true, narrow_i, narrow_l, narrow_r, narrow_n, fits_i, fits_l, fits_ro, fits_ra, fits_no, fits_na, Nat.reduceAdd, Nat.reduceLT, Nat.reduceLeDiff, Nat.reduceEqDiff, Nat.reduceSub, zero_add0, true_or, or_true, false_or, or_false, not_true_eq_false, not_false_eq_true, eq_self, i10, i01, im0, im1, h1, e1, q1, e5, m_litOf, e6, u1, at_0, z0, z1, z2, e3, hv2, q2, e4, q3, m_has h1 hr1 hi (show k < 2 ^ 31 by omega), q4, r1, i0, i1, i2, a1, e7, q5, un_xor k hk, m_has h1 hr1 hi hun, q6]
                  exact good ⟨w4, Or.inr w6⟩ none _
              · have q5 := eq_false w5
                simp only [x_115_80, x_115_81, x_115_84, x_115_85, x_115_94, x_115_96, x_115_97, x_115_98, x_115_99, x_115_102, x_115_104, x_115_105, x_115_108, x_115_109, x_115_110, x_115_112, x_115_115, x_115_117, x_115_118, x_115_121, x_115_124, x_115_125, x_115_128, x_115_129, x_115_131, x_115_133, x_115_136, x_115_137, x_115_138, x_115_140, x_115_143, x_115_146, x_115_147, x_115_150, x_115_151, x_115_152, x_115_153, mw_nx, mw_no, mw_ite, mw_call, mw_ret, mw_cst, mw_ii, mw_i1, mw_ll, mw_l1, mw_li, mw_i2l, mw_l2i, mw_lcm, mw_if, mw_ic, mw_ifnN, mw_ifnR, mw_go, mw_dupi, mw_dupr, mw_popi, mw_popr, mw_nw, mw_rti, mw_rtl, mw_rtr, mw_rtn, mw_rtv, mw_rt0, mw_rt1, mj_ild, mj_lld, mj_ald, mj_ist, mj_lst, mj_ast, mj_inc, mj_iz, mj_get, mj_put, mj_len, mj_iar, mj_aar, mj_iaw, mj_aaw, mj_ivs, mj_ivv, mj_ivi, mj_ob, mj_tk, mj_cat, mj_st1, mj_st2, mj_clr, mj_nwi, mj_nwq, List.getElem?_cons_zero, List.getElem?_cons_succ, List.length_cons, List.length_nil, List.set_cons_zero, List.set_cons_succ, Value.category, decide_eq_true_eq, List.map_cons, List.map_nil, List.sum_cons, List.sum_nil, Option.toList, List.cons_append, List.nil_append, ite_true, ite_false, if_true, if_false, reduceCtorEq, true_and, and_true, narrow_i, narrow_l, narrow_r, narrow_n, fits_i, fits_l, fits_ro, fits_ra, fits_no, fits_na, Nat.reduceAdd, Nat.reduceLT, Nat.reduceLeDiff, Nat.reduceEqDiff, Nat.reduceSub, zero_add0, true_or, or_true, false_or, or_false, not_true_eq_false, not_false_eq_true, eq_self, i10, i01, im0, im1, h1, e1, q1, e5, m_litOf, e6, u1, at_0, z0, z1, z2, e3, hv2, q2, e4, q3, m_has h1 hr1 hi (show k < 2 ^ 31 by omega), q4, r1, i0, i1, i2, a1, e7, q5]
                exact good ⟨w4, Or.inl w5⟩ none _
          · have q3 := eq_false w3
            simp only [x_115_80, x_115_81, x_115_84, x_115_85, x_115_94, x_115_96, x_115_97, x_115_98, x_115_99, x_115_102, x_115_104, x_115_105, x_115_108, x_115_109, x_115_110, x_115_112, x_115_115, x_115_117, x_115_118, x_115_121, x_115_124, x_115_125, x_115_128, x_115_129, x_115_131, x_115_133, x_115_168, x_115_169, x_115_170, x_115_173, x_115_176, x_115_177, x_115_178, x_115_180, x_115_183, mw_nx, mw_no, mw_ite, mw_call, mw_ret, mw_cst, mw_ii, mw_i1, mw_ll, mw_l1, mw_li, mw_i2l, mw_l2i, mw_lcm, mw_if, mw_ic, mw_ifnN, mw_ifnR, mw_go, mw_dupi, mw_dupr, mw_popi, mw_popr, mw_nw, mw_rti, mw_rtl, mw_rtr, mw_rtn, mw_rtv, mw_rt0, mw_rt1, mj_ild, mj_lld, mj_ald, mj_ist, mj_lst, mj_ast, mj_inc, mj_iz, mj_get, mj_put, mj_len, mj_iar, mj_aar, mj_iaw, mj_aaw, mj_ivs, mj_ivv, mj_ivi, mj_ob, mj_tk, mj_cat, mj_st1, mj_st2, mj_clr, mj_nwi, mj_nwq, List.getElem?_cons_zero, List.getElem?_cons_succ, List.length_cons, List.length_nil, List.set_cons_zero, List.set_cons_succ, Value.category, decide_eq_true_eq, List.map_cons, List.map_nil, List.sum_cons, List.sum_nil, Option.toList, List.cons_append, List.nil_append, ite_true, ite_false, if_true, if_false, reduceCtorEq, true_and, and_true, narrow_i, narrow_l, narrow_r, narrow_n, fits_i, fits_l, fits_ro, fits_ra, fits_no, fits_na, Nat.reduceAdd, Nat.reduceLT, Nat.reduceLeDiff, Nat.reduceEqDiff, Nat.reduceSub, zero_add0, true_or, or_true, false_or, or_false, not_true_eq_false, not_false_eq_true, eq_self, i10, i01, im0, im1, h1, e1, q1, m_litOf, u1, at_0, z0, z1, z2, e3, hv2, q2, e4, q3, m_fail _ h1]
            refine bad (fun z => ?_)
            have := z.2.1
            rw [he2, hvN] at this
            omega
    intro f
    induction f with
    | zero =>
      intro q N v hp1 hf hq hN hvN hc he h1 s1
      have hu1 : mo_u hp1 M xs := hu0.keep (s1.2 _ (by omega))
      rw [rd_dig] at he
      have hx0 : ∀ c, xs[q]? = some c → ¬ (48 ≤ c ∧ c ≤ 57) := fun c hx => by have := get_lt hx; omega
      rw [x_115_37]
      simp only [x_115_38, x_115_41, mw_nx, mw_no, mw_ite, mw_call, mw_ret, mw_cst, mw_ii, mw_i1, mw_ll, mw_l1, mw_li, mw_i2l, mw_l2i, mw_lcm, mw_if, mw_ic, mw_ifnN, mw_ifnR, mw_go, mw_dupi, mw_dupr, mw_popi, mw_popr, mw_nw, mw_rti, mw_rtl, mw_rtr, mw_rtn, mw_rtv, mw_rt0, mw_rt1, mj_ild, mj_lld, mj_ald, mj_ist, mj_lst, mj_ast, mj_inc, mj_iz, mj_get, mj_put, mj_len, mj_iar, mj_aar, mj_iaw, mj_aaw, mj_ivs, mj_ivv, mj_ivi, mj_ob, mj_tk, mj_cat, mj_st1, mj_st2, mj_clr, mj_nwi, mj_nwq, List.getElem?_cons_zero, List.getElem?_cons_succ, List.length_cons, List.length_nil, List.set_cons_zero, List.set_cons_succ, Value.category, decide_eq_true_eq, List.map_cons, List.map_nil, List.sum_cons, List.sum_nil, Option.toList, List.cons_append, List.nil_append, ite_true, ite_false, if_true, if_false, reduceCtorEq, true_and, and_true, narrow_i, narrow_l, narrow_r, narrow_n, fits_i, fits_l, fits_ro, fits_ra, fits_no, fits_na, Nat.reduceAdd, Nat.reduceLT, Nat.reduceLeDiff, Nat.reduceEqDiff, Nat.reduceSub, zero_add0, true_or, or_true, false_or, or_false, not_true_eq_false, not_false_eq_true, eq_self, i10, i01, im0, im1, h1, m_dig0 h1 hu1 (show q < 2 ^ 31 by omega) hx0]
      exact done q N v hp1 hq hN hvN hc he h1 s1
    | succ f ih =>
      intro q N v hp1 hf hq hN hvN hc he h1 s1
      have hu1 : mo_u hp1 M xs := hu0.keep (s1.2 _ (by omega))
      rw [rd_dig] at he
      rw [x_115_37]
      cases hx : xs[q]? with
      | none =>
        rw [hx] at he
        have hx0 : ∀ c, xs[q]? = some c → ¬ (48 ≤ c ∧ c ≤ 57) := fun c hx' => by rw [hx] at hx'; cases hx'
        simp only [x_115_38, x_115_41, mw_nx, mw_no, mw_ite, mw_call, mw_ret, mw_cst, mw_ii, mw_i1, mw_ll, mw_l1, mw_li, mw_i2l, mw_l2i, mw_lcm, mw_if, mw_ic, mw_ifnN, mw_ifnR, mw_go, mw_dupi, mw_dupr, mw_popi, mw_popr, mw_nw, mw_rti, mw_rtl, mw_rtr, mw_rtn, mw_rtv, mw_rt0, mw_rt1, mj_ild, mj_lld, mj_ald, mj_ist, mj_lst, mj_ast, mj_inc, mj_iz, mj_get, mj_put, mj_len, mj_iar, mj_aar, mj_iaw, mj_aaw, mj_ivs, mj_ivv, mj_ivi, mj_ob, mj_tk, mj_cat, mj_st1, mj_st2, mj_clr, mj_nwi, mj_nwq, List.getElem?_cons_zero, List.getElem?_cons_succ, List.length_cons, List.length_nil, List.set_cons_zero, List.set_cons_succ, Value.category, decide_eq_true_eq, List.map_cons, List.map_nil, List.sum_cons, List.sum_nil, Option.toList, List.cons_append, List.nil_append, ite_true, ite_false, if_true, if_false, reduceCtorEq, true_and, and_true, narrow_i, narrow_l, narrow_r, narrow_n, fits_i, fits_l, fits_ro, fits_ra, fits_no, fits_na, Nat.reduceAdd, Nat.reduceLT, Nat.reduceLeDiff, Nat.reduceEqDiff, Nat.reduceSub, zero_add0, true_or, or_true, false_or, or_false, not_true_eq_false, not_false_eq_true, eq_self, i10, i01, im0, im1, h1, m_dig0 h1 hu1 (show q < 2 ^ 31 by omega) hx0]
        exact done q N v hp1 hq hN hvN hc he h1 s1
      | some c =>
        rw [hx] at he
        dsimp only at he
        by_cases w : 48 ≤ c ∧ c ≤ 57
        · rw [if_pos w] at he
          have hqlt := get_lt hx
          have e2 : ((1000 : Int32) ≤ nI N) = (1000 ≤ N) := propext (nI_leI (a := 1000) (by omega) (by omega))
          by_cases w2 : 1000 ≤ N
          · have q2 := eq_true w2
            simp only [x_115_38, x_115_41, x_115_44, x_115_46, x_115_49, x_115_67, x_115_68, x_115_69, x_115_72, x_115_73, x_115_74, x_115_77, mw_nx, mw_no, mw_ite, mw_call, mw_ret, mw_cst, mw_ii, mw_i1, mw_ll, mw_l1, mw_li, mw_i2l, mw_l2i, mw_lcm, mw_if, mw_ic, mw_ifnN, mw_ifnR, mw_go, mw_dupi, mw_dupr, mw_popi, mw_popr, mw_nw, mw_rti, mw_rtl, mw_rtr, mw_rtn, mw_rtv, mw_rt0, mw_rt1, mj_ild, mj_lld, mj_ald, mj_ist, mj_lst, mj_ast, mj_inc, mj_iz, mj_get, mj_put, mj_len, mj_iar, mj_aar, mj_iaw, mj_aaw, mj_ivs, mj_ivv, mj_ivi, mj_ob, mj_tk, mj_cat, mj_st1, mj_st2, mj_clr, mj_nwi, mj_nwq, List.getElem?_cons_zero, List.getElem?_cons_succ, List.length_cons, List.length_nil, List.set_cons_zero, List.set_cons_succ, Value.category, decide_eq_true_eq, List.map_cons, List.map_nil, List.sum_cons, List.sum_nil, Option.toList, List.cons_append, List.nil_append, ite_true, ite_false, if_true, if_false, reduceCtorEq, true_and, and_true, narrow_i, narrow_l, narrow_r, narrow_n, fits_i, fits_l, fits_ro, fits_ra, fits_no, fits_na, Nat.reduceAdd, Nat.reduceLT, Nat.reduceLeDiff, Nat.reduceEqDiff, Nat.reduceSub, zero_add0, true_or, or_true, false_or, or_false, not_true_eq_false, not_false_eq_true, eq_self, i10, i01, im0, im1, h1, m_dig1 h1 hu1 (show q < 2 ^ 31 by omega) hx w.1 w.2, e2, q2, nI_1]
            refine ih (q + 1) N _ _ (by omega) hqlt hN (by rw [hvN]; omega) ?_ he mj_up_at (s1.tr (sm.up (by omega) (by omega)))
            refine Or.inr ⟨by omega, Or.inr (by omega)⟩
          · have q2 := eq_false w2
            have e3 : (10 : Int32) * nI N + nI c - 48 = nI (10 * N + (c - 48)) := by
              show nI 10 * nI N + nI c - nI 48 = _
              rw [pk_mul, nI_add, pk_sub (by omega)]
              congr 1; omega
            simp only [x_115_38, x_115_41, x_115_44, x_115_46, x_115_49, x_115_52, x_115_54, x_115_56, x_115_57, x_115_58, x_115_61, x_115_62, x_115_64, x_115_65, x_115_67, x_115_68, x_115_69, x_115_72, x_115_73, x_115_74, x_115_77, mw_nx, mw_no, mw_ite, mw_call, mw_ret, mw_cst, mw_ii, mw_i1, mw_ll, mw_l1, mw_li, mw_i2l, mw_l2i, mw_lcm, mw_if, mw_ic, mw_ifnN, mw_ifnR, mw_go, mw_dupi, mw_dupr, mw_popi, mw_popr, mw_nw, mw_rti, mw_rtl, mw_rtr, mw_rtn, mw_rtv, mw_rt0, mw_rt1, mj_ild, mj_lld, mj_ald, mj_ist, mj_lst, mj_ast, mj_inc, mj_iz, mj_get, mj_put, mj_len, mj_iar, mj_aar, mj_iaw, mj_aaw, mj_ivs, mj_ivv, mj_ivi, mj_ob, mj_tk, mj_cat, mj_st1, mj_st2, mj_clr, mj_nwi, mj_nwq, List.getElem?_cons_zero, List.getElem?_cons_succ, List.length_cons, List.length_nil, List.set_cons_zero, List.set_cons_succ, Value.category, decide_eq_true_eq, List.map_cons, List.map_nil, List.sum_cons, List.sum_nil, Option.toList, List.cons_append, List.nil_append, ite_true, ite_false, if_true, if_false, reduceCtorEq, true_and, and_true, narrow_i, narrow_l, narrow_r, narrow_n, fits_i, fits_l, fits_ro, fits_ra, fits_no, fits_na, Nat.reduceAdd, Nat.reduceLT, Nat.reduceLeDiff, Nat.reduceEqDiff, Nat.reduceSub, zero_add0, true_or, or_true, false_or, or_false, not_true_eq_false, not_false_eq_true, eq_self, i10, i01, im0, im1, h1, m_dig1 h1 hu1 (show q < 2 ^ 31 by omega) hx w.1 w.2, m_look h1 hu1 (show q < 2 ^ 31 by omega), hv_some hx, e2, q2, e3, nI_1]
            refine ih (q + 1) _ _ _ (by omega) hqlt (by omega) (by rw [hvN]; omega) ?_ he mj_up_at (s1.tr (sm.up (by omega) (by omega)))
            rcases hc with ⟨z1, z2⟩ | ⟨z1, z2⟩
            · refine Or.inr ⟨by omega, ?_⟩
              by_cases w3 : c = 48
              · exact Or.inl (by rw [← z1, hx, w3])
              · exact Or.inr (by omega)
            · refine Or.inr ⟨by omega, ?_⟩
              rcases z2 with z2 | z2
              · exact Or.inl z2
              · exact Or.inr (by omega)
        · rw [if_neg w] at he
          have hx0 : ∀ c, xs[q]? = some c → ¬ (48 ≤ c ∧ c ≤ 57) := fun c' hx' => by rw [hx] at hx'; cases hx'; exact w
          simp only [x_115_38, x_115_41, mw_nx, mw_no, mw_ite, mw_call, mw_ret, mw_cst, mw_ii, mw_i1, mw_ll, mw_l1, mw_li, mw_i2l, mw_l2i, mw_lcm, mw_if, mw_ic, mw_ifnN, mw_ifnR, mw_go, mw_dupi, mw_dupr, mw_popi, mw_popr, mw_nw, mw_rti, mw_rtl, mw_rtr, mw_rtn, mw_rtv, mw_rt0, mw_rt1, mj_ild, mj_lld, mj_ald, mj_ist, mj_lst, mj_ast, mj_inc, mj_iz, mj_get, mj_put, mj_len, mj_iar, mj_aar, mj_iaw, mj_aaw, mj_ivs, mj_ivv, mj_ivi, mj_ob, mj_tk, mj_cat, mj_st1, mj_st2, mj_clr, mj_nwi, mj_nwq, List.getElem?_cons_zero, List.getElem?_cons_succ, List.length_cons, List.length_nil, List.set_cons_zero, List.set_cons_succ, Value.category, decide_eq_true_eq, List.map_cons, List.map_nil, List.sum_cons, List.sum_nil, Option.toList, List.cons_append, List.nil_append, ite_true, ite_false, if_true, if_false, reduceCtorEq, true_and, and_true, narrow_i, narrow_l, narrow_r, narrow_n, fits_i, fits_l, fits_ro, fits_ra, fits_no, fits_na, Nat.reduceAdd, Nat.reduceLT, Nat.reduceLeDiff, Nat.reduceEqDiff, Nat.reduceSub, zero_add0, true_or, or_true, false_or, or_false, not_true_eq_false, not_false_eq_true, eq_self, i10, i01, im0, im1, h1, m_dig0 h1 hu1 (show q < 2 ^ 31 by omega) hx0]
          exact done q N v hp1 hq hN hvN hc he h1 s1
  have hv2 : (hv xs p = 45) = (xs[p]? = some 45) := hv_eq (v := 45) hb (by decide)
  rw [en_115]
  by_cases w : xs[p]? = some 45
  · have q1 := eq_true w
    simp only [x_115_0, x_115_1, x_115_4, x_115_6, x_115_9, x_115_10, x_115_13, x_115_14, x_115_15, x_115_16, x_115_19, x_115_20, x_115_21, x_115_24, x_115_25, x_115_26, x_115_29, x_115_30, x_115_33, x_115_34, x_115_35, mw_nx, mw_no, mw_ite, mw_call, mw_ret, mw_cst, mw_ii, mw_i1, mw_ll, mw_l1, mw_li, mw_i2l, mw_l2i, mw_lcm, mw_if, mw_ic, mw_ifnN, mw_ifnR, mw_go, mw_dupi, mw_dupr, mw_popi, mw_popr, mw_nw, mw_rti, mw_rtl, mw_rtr, mw_rtn, mw_rtv, mw_rt0, mw_rt1, mj_ild, mj_lld, mj_ald, mj_ist, mj_lst, mj_ast, mj_inc, mj_iz, mj_get, mj_put, mj_len, mj_iar, mj_aar, mj_iaw, mj_aaw, mj_ivs, mj_ivv, mj_ivi, mj_ob, mj_tk, mj_cat, mj_st1, mj_st2, mj_clr, mj_nwi, mj_nwq, List.getElem?_cons_zero, List.getElem?_cons_succ, List.length_cons, List.length_nil, List.set_cons_zero, List.set_cons_succ, Value.category, decide_eq_true_eq, List.map_cons, List.map_nil, List.sum_cons, List.sum_nil, Option.toList, List.cons_append, List.nil_append, ite_true, ite_false, if_true, if_false, reduceCtorEq, true_and, and_true, narrow_i, narrow_l, narrow_r, narrow_n, fits_i, fits_l, fits_ro, fits_ra, fits_no, fits_na, Nat.reduceAdd, Nat.reduceLT, Nat.reduceLeDiff, Nat.reduceEqDiff, Nat.reduceSub, zero_add0, true_or, or_true, false_or, or_false, not_true_eq_false, not_false_eq_true, eq_self, i10, i01, im0, im1, h, m_look h hu (show p < 2 ^ 31 by omega), hv2, q1, nI_1, mj_up_at]
    exact key (p + 1) 0 (mj_up hp M (mo_o M n ln cm xs.length (nI (p + 1)) (-1) 0)) (by rw [if_pos w]) (by rw [if_pos w]) (by omega) (get_lt w) mj_up_at (hu.keep (mj_up_off (by omega))) (hr.keep (mj_up_off (by omega)) (mj_up_off (by omega)) (mj_up_off (by omega))) (sm.up (by omega) (by omega)) 4000 (p + 1) 0 0 _ (by omega) (get_lt w) (by omega) rfl (Or.inl ⟨rfl, rfl⟩) rfl mj_up_at sm.rf
  · have q1 := eq_false w
    simp only [x_115_0, x_115_1, x_115_4, x_115_6, x_115_9, x_115_10, x_115_13, x_115_14, x_115_15, x_115_16, x_115_19, x_115_20, x_115_21, x_115_24, x_115_25, x_115_26, x_115_29, x_115_30, x_115_33, x_115_34, x_115_35, mw_nx, mw_no, mw_ite, mw_call, mw_ret, mw_cst, mw_ii, mw_i1, mw_ll, mw_l1, mw_li, mw_i2l, mw_l2i, mw_lcm, mw_if, mw_ic, mw_ifnN, mw_ifnR, mw_go, mw_dupi, mw_dupr, mw_popi, mw_popr, mw_nw, mw_rti, mw_rtl, mw_rtr, mw_rtn, mw_rtv, mw_rt0, mw_rt1, mj_ild, mj_lld, mj_ald, mj_ist, mj_lst, mj_ast, mj_inc, mj_iz, mj_get, mj_put, mj_len, mj_iar, mj_aar, mj_iaw, mj_aaw, mj_ivs, mj_ivv, mj_ivi, mj_ob, mj_tk, mj_cat, mj_st1, mj_st2, mj_clr, mj_nwi, mj_nwq, List.getElem?_cons_zero, List.getElem?_cons_succ, List.length_cons, List.length_nil, List.set_cons_zero, List.set_cons_succ, Value.category, decide_eq_true_eq, List.map_cons, List.map_nil, List.sum_cons, List.sum_nil, Option.toList, List.cons_append, List.nil_append, ite_true, ite_false, if_true, if_false, reduceCtorEq, true_and, and_true, narrow_i, narrow_l, narrow_r, narrow_n, fits_i, fits_l, fits_ro, fits_ra, fits_no, fits_na, Nat.reduceAdd, Nat.reduceLT, Nat.reduceLeDiff, Nat.reduceEqDiff, Nat.reduceSub, zero_add0, true_or, or_true, false_or, or_false, not_true_eq_false, not_false_eq_true, eq_self, i10, i01, im0, im1, h, m_look h hu (show p < 2 ^ 31 by omega), hv2, q1, nI_1]
    exact key p 1 hp (by rw [if_neg w]) (by rw [if_neg w]) (by omega) hple h hu hr sm.rf 4000 p 0 0 hp (by omega) hple (by omega) rfl (Or.inl ⟨rfl, rfl⟩) rfl h sm.rf
end MR
