/-! Leaves: JDK's functions, bits of a code -/
/-- a call comes to one end -/
theorem mj_call_det {m : Nat} {vs : List Value} {hp hp' : mj_H} {r : Option Value} (h : mj_call m vs hp (fun r1 h1 => r1 = r ∧ h1 = hp')) (Q : mj_Q) : mj_call m vs hp Q = Q r hp' := by
  obtain ⟨hl, f, r1, h1, hr, rfl, rfl⟩ := h
  apply propext
  constructor
  · rintro ⟨-, f2, r2, h2, hr2, hq⟩
    have e1 := mj_run_le (Nat.le_add_right f f2) hr
    have e2 := mj_run_le (Nat.le_add_left f2 f) hr2
    rw [e1] at e2
    cases e2
    exact hq
  · intro hq
    exact ⟨hl, f, _, _, hr, hq⟩
theorem zero_add0 (n : Nat) : 0 + n = n := Nat.zero_add n
theorem add0 (x : Int32) : x + 0 = x := Int32.add_zero x
theorem i10 : ((1 : Int32) = 0) = False := by decide
theorem i01 : ((0 : Int32) = 1) = False := by decide
theorem im0 : ((-1 : Int32) = 0) = False := by decide
theorem im1 : ((-1 : Int32) = 1) = False := by decide
theorem narrow_i (x : Int32) : (narrow .int (.int x) = .int x) = True := eq_true rfl
theorem narrow_l (x : Int64) : (narrow .long (.long x) = .long x) = True := eq_true rfl
theorem narrow_r (ty : FieldType) (a : Nat) : (narrow ty (.ref a) = .ref a) = True := eq_true (by cases ty <;> rfl)
theorem narrow_n (ty : FieldType) : (narrow ty .null = .null) = True := eq_true (by cases ty <;> rfl)
theorem fits_i (x : Int32) : (fits .int (.int x) = true) = True := eq_true rfl
theorem fits_l (x : Int64) : (fits .long (.long x) = true) = True := eq_true rfl
theorem fits_ro (C : String) (a : Nat) : (fits (.object C) (.ref a) = true) = True := eq_true rfl
theorem fits_ra (t : FieldType) (a : Nat) : (fits (.array t) (.ref a) = true) = True := eq_true rfl
theorem fits_no (C : String) : (fits (.object C) .null = true) = True := eq_true rfl
theorem fits_na (t : FieldType) : (fits (.array t) .null = true) = True := eq_true rfl
theorem mw_rt0 {m : Nat} {L : mj_L} {hp : mj_H} {Q : mj_Q} : mj_wpR m L hp Q (mj_rti .boolean L [.int 0] hp) = Q (some (.int 0)) hp := rfl
theorem mw_rt1 {m : Nat} {L : mj_L} {hp : mj_H} {Q : mj_Q} : mj_wpR m L hp Q (mj_rti .boolean L [.int 1] hp) = Q (some (.int 1)) hp := rfl
theorem c_max (x y : Int32) (hp : mj_H) (Q : mj_Q) : mj_call 1 [.int x, .int y] hp Q = Q (some (.int (if x < y then y else x))) hp := by
  rw [en_1]
  simp only [x_1_0, x_1_1, x_1_2, x_1_5, x_1_6, x_1_9, x_1_10, mw_nx, mw_no, mw_ite, mw_call, mw_ret, mw_cst, mw_ii, mw_i1, mw_ll, mw_l1, mw_li, mw_i2l, mw_l2i, mw_lcm, mw_if, mw_ic, mw_ifnN, mw_ifnR, mw_go, mw_dupi, mw_dupr, mw_popi, mw_popr, mw_nw, mw_rti, mw_rtl, mw_rtr, mw_rtn, mw_rtv, mw_rt0, mw_rt1, mj_ild, mj_lld, mj_ald, mj_ist, mj_lst, mj_ast, mj_inc, mj_iz, mj_get, mj_put, mj_len, mj_iar, mj_aar, mj_iaw, mj_aaw, mj_ivs, mj_ivv, mj_ivi, mj_ob, mj_tk, mj_cat, mj_st1, mj_st2, mj_clr, mj_nwi, mj_nwq, List.getElem?_cons_zero, List.getElem?_cons_succ, List.length_cons, List.length_nil, List.set_cons_zero, List.set_cons_succ, Value.category, decide_eq_true_eq, List.map_cons, List.map_nil, List.sum_cons, List.sum_nil, Option.toList, List.cons_append, List.nil_append, ite_true, ite_false, if_true, if_false, reduceCtorEq, true_and, and_true, narrow_i, narrow_l, narrow_r, narrow_n, fits_i, fits_l, fits_ro, fits_ra, fits_no, fits_na, Nat.reduceAdd, Nat.reduceLT, Nat.reduceLeDiff, Nat.reduceEqDiff, Nat.reduceSub, zero_add0, true_or, or_true, false_or, or_false, not_true_eq_false, not_false_eq_true, eq_self, i10, i01, im0, im1]
  split <;> rfl
theorem c_min (x y : Int32) (hp : mj_H) (Q : mj_Q) : mj_call 2 [.int x, .int y] hp Q = Q (some (.int (if y < x then y else x))) hp := by
  rw [en_2]
  simp only [x_2_0, x_2_1, x_2_2, x_2_5, x_2_6, x_2_9, x_2_10, mw_nx, mw_no, mw_ite, mw_call, mw_ret, mw_cst, mw_ii, mw_i1, mw_ll, mw_l1, mw_li, mw_i2l, mw_l2i, mw_lcm, mw_if, mw_ic, mw_ifnN, mw_ifnR, mw_go, mw_dupi, mw_dupr, mw_popi, mw_popr, mw_nw, mw_rti, mw_rtl, mw_rtr, mw_rtn, mw_rtv, mw_rt0, mw_rt1, mj_ild, mj_lld, mj_ald, mj_ist, mj_lst, mj_ast, mj_inc, mj_iz, mj_get, mj_put, mj_len, mj_iar, mj_aar, mj_iaw, mj_aaw, mj_ivs, mj_ivv, mj_ivi, mj_ob, mj_tk, mj_cat, mj_st1, mj_st2, mj_clr, mj_nwi, mj_nwq, List.getElem?_cons_zero, List.getElem?_cons_succ, List.length_cons, List.length_nil, List.set_cons_zero, List.set_cons_succ, Value.category, decide_eq_true_eq, List.map_cons, List.map_nil, List.sum_cons, List.sum_nil, Option.toList, List.cons_append, List.nil_append, ite_true, ite_false, if_true, if_false, reduceCtorEq, true_and, and_true, narrow_i, narrow_l, narrow_r, narrow_n, fits_i, fits_l, fits_ro, fits_ra, fits_no, fits_na, Nat.reduceAdd, Nat.reduceLT, Nat.reduceLeDiff, Nat.reduceEqDiff, Nat.reduceSub, zero_add0, true_or, or_true, false_or, or_false, not_true_eq_false, not_false_eq_true, eq_self, i10, i01, im0, im1]
  split <;> rfl
theorem c_isThing (a : Nat) (t : Int32) (n : Int32) (fs : List Value) (hp : mj_H) (Q : mj_Q) (h : hp.1 a = some (.inr (3, .int n :: fs))) : mj_call 20 [.ref a, .int t] hp Q = Q (some (.int (if 0 ≤ t ∧ t < n then 1 else 0))) hp := by
  rw [en_20]
  simp only [x_20_0, x_20_1, x_20_4, x_20_5, x_20_6, x_20_9, x_20_12, x_20_13, x_20_16, x_20_17, mw_nx, mw_no, mw_ite, mw_call, mw_ret, mw_cst, mw_ii, mw_i1, mw_ll, mw_l1, mw_li, mw_i2l, mw_l2i, mw_lcm, mw_if, mw_ic, mw_ifnN, mw_ifnR, mw_go, mw_dupi, mw_dupr, mw_popi, mw_popr, mw_nw, mw_rti, mw_rtl, mw_rtr, mw_rtn, mw_rtv, mw_rt0, mw_rt1, mj_ild, mj_lld, mj_ald, mj_ist, mj_lst, mj_ast, mj_inc, mj_iz, mj_get, mj_put, mj_len, mj_iar, mj_aar, mj_iaw, mj_aaw, mj_ivs, mj_ivv, mj_ivi, mj_ob, mj_tk, mj_cat, mj_st1, mj_st2, mj_clr, mj_nwi, mj_nwq, List.getElem?_cons_zero, List.getElem?_cons_succ, List.length_cons, List.length_nil, List.set_cons_zero, List.set_cons_succ, Value.category, decide_eq_true_eq, List.map_cons, List.map_nil, List.sum_cons, List.sum_nil, Option.toList, List.cons_append, List.nil_append, ite_true, ite_false, if_true, if_false, reduceCtorEq, true_and, and_true, narrow_i, narrow_l, narrow_r, narrow_n, fits_i, fits_l, fits_ro, fits_ra, fits_no, fits_na, Nat.reduceAdd, Nat.reduceLT, Nat.reduceLeDiff, Nat.reduceEqDiff, Nat.reduceSub, zero_add0, true_or, or_true, false_or, or_false, not_true_eq_false, not_false_eq_true, eq_self, i10, i01, im0, im1, h]
  by_cases h1 : t < 0
  · have h3 : ¬ 0 ≤ t := by rw [Int32.le_iff_toInt_le]; rw [Int32.lt_iff_toInt_lt] at h1; omega
    simp [h1, h3]
  · have h3 : 0 ≤ t := by rw [Int32.le_iff_toInt_le]; rw [Int32.lt_iff_toInt_lt] at h1; omega
    by_cases h2 : n ≤ t
    · have h4 : ¬ t < n := by rw [Int32.lt_iff_toInt_lt]; rw [Int32.le_iff_toInt_le] at h2; omega
      simp [h1, h2, h4]
    · have h4 : t < n := by rw [Int32.lt_iff_toInt_lt]; rw [Int32.le_iff_toInt_le] at h2; omega
      simp [h1, h2, h3, h4]
theorem c_codeOf (t z : Int32) (hp : mj_H) (Q : mj_Q) : mj_call 22 [.int t, .int z] hp Q = Q (some (.int (2 * t + (if z = 0 then 0 else 1)))) hp := by
  rw [en_22]
  simp only [x_22_0, x_22_1, x_22_2, x_22_3, x_22_4, x_22_7, x_22_8, x_22_11, x_22_12, x_22_13, mw_nx, mw_no, mw_ite, mw_call, mw_ret, mw_cst, mw_ii, mw_i1, mw_ll, mw_l1, mw_li, mw_i2l, mw_l2i, mw_lcm, mw_if, mw_ic, mw_ifnN, mw_ifnR, mw_go, mw_dupi, mw_dupr, mw_popi, mw_popr, mw_nw, mw_rti, mw_rtl, mw_rtr, mw_rtn, mw_rtv, mw_rt0, mw_rt1, mj_ild, mj_lld, mj_ald, mj_ist, mj_lst, mj_ast, mj_inc, mj_iz, mj_get, mj_put, mj_len, mj_iar, mj_aar, mj_iaw, mj_aaw, mj_ivs, mj_ivv, mj_ivi, mj_ob, mj_tk, mj_cat, mj_st1, mj_st2, mj_clr, mj_nwi, mj_nwq, List.getElem?_cons_zero, List.getElem?_cons_succ, List.length_cons, List.length_nil, List.set_cons_zero, List.set_cons_succ, Value.category, decide_eq_true_eq, List.map_cons, List.map_nil, List.sum_cons, List.sum_nil, Option.toList, List.cons_append, List.nil_append, ite_true, ite_false, if_true, if_false, reduceCtorEq, true_and, and_true, narrow_i, narrow_l, narrow_r, narrow_n, fits_i, fits_l, fits_ro, fits_ra, fits_no, fits_na, Nat.reduceAdd, Nat.reduceLT, Nat.reduceLeDiff, Nat.reduceEqDiff, Nat.reduceSub, zero_add0, true_or, or_true, false_or, or_false, not_true_eq_false, not_false_eq_true, eq_self, i10, i01, im0, im1]
  split <;> rfl
theorem c_trueBit (c : Int32) (hp : mj_H) (Q : mj_Q) : mj_call 23 [.int c] hp Q = Q (some (.long (if c &&& 1 = 1 then (1 : Int64) <<< ((c >>> ((1 : Int32) &&& 31)).toInt64 &&& 63) else 0))) hp := by
  rw [en_23]
  simp only [x_23_0, x_23_1, x_23_2, x_23_3, x_23_4, x_23_7, x_23_8, x_23_9, x_23_10, x_23_11, x_23_12, x_23_15, x_23_16, mw_nx, mw_no, mw_ite, mw_call, mw_ret, mw_cst, mw_ii, mw_i1, mw_ll, mw_l1, mw_li, mw_i2l, mw_l2i, mw_lcm, mw_if, mw_ic, mw_ifnN, mw_ifnR, mw_go, mw_dupi, mw_dupr, mw_popi, mw_popr, mw_nw, mw_rti, mw_rtl, mw_rtr, mw_rtn, mw_rtv, mw_rt0, mw_rt1, mj_ild, mj_lld, mj_ald, mj_ist, mj_lst, mj_ast, mj_inc, mj_iz, mj_get, mj_put, mj_len, mj_iar, mj_aar, mj_iaw, mj_aaw, mj_ivs, mj_ivv, mj_ivi, mj_ob, mj_tk, mj_cat, mj_st1, mj_st2, mj_clr, mj_nwi, mj_nwq, List.getElem?_cons_zero, List.getElem?_cons_succ, List.length_cons, List.length_nil, List.set_cons_zero, List.set_cons_succ, Value.category, decide_eq_true_eq, List.map_cons, List.map_nil, List.sum_cons, List.sum_nil, Option.toList, List.cons_append, List.nil_append, ite_true, ite_false, if_true, if_false, reduceCtorEq, true_and, and_true, narrow_i, narrow_l, narrow_r, narrow_n, fits_i, fits_l, fits_ro, fits_ra, fits_no, fits_na, Nat.reduceAdd, Nat.reduceLT, Nat.reduceLeDiff, Nat.reduceEqDiff, Nat.reduceSub, zero_add0, true_or, or_true, false_or, or_false, not_true_eq_false, not_false_eq_true, eq_self, i10, i01, im0, im1]
  by_cases h : c &&& 1 = 1 <;> simp [h]
theorem c_falseBit (c : Int32) (hp : mj_H) (Q : mj_Q) : mj_call 24 [.int c] hp Q = Q (some (.long (if c &&& 1 = 0 then (1 : Int64) <<< ((c >>> ((1 : Int32) &&& 31)).toInt64 &&& 63) else 0))) hp := by
  rw [en_24]
  simp only [x_24_0, x_24_1, x_24_2, x_24_3, x_24_6, x_24_7, x_24_8, x_24_9, x_24_10, x_24_11, x_24_14, x_24_15, mw_nx, mw_no, mw_ite, mw_call, mw_ret, mw_cst, mw_ii, mw_i1, mw_ll, mw_l1, mw_li, mw_i2l, mw_l2i, mw_lcm, mw_if, mw_ic, mw_ifnN, mw_ifnR, mw_go, mw_dupi, mw_dupr, mw_popi, mw_popr, mw_nw, mw_rti, mw_rtl, mw_rtr, mw_rtn, mw_rtv, mw_rt0, mw_rt1, mj_ild, mj_lld, mj_ald, mj_ist, mj_lst, mj_ast, mj_inc, mj_iz, mj_get, mj_put, mj_len, mj_iar, mj_aar, mj_iaw, mj_aaw, mj_ivs, mj_ivv, mj_ivi, mj_ob, mj_tk, mj_cat, mj_st1, mj_st2, mj_clr, mj_nwi, mj_nwq, List.getElem?_cons_zero, List.getElem?_cons_succ, List.length_cons, List.length_nil, List.set_cons_zero, List.set_cons_succ, Value.category, decide_eq_true_eq, List.map_cons, List.map_nil, List.sum_cons, List.sum_nil, Option.toList, List.cons_append, List.nil_append, ite_true, ite_false, if_true, if_false, reduceCtorEq, true_and, and_true, narrow_i, narrow_l, narrow_r, narrow_n, fits_i, fits_l, fits_ro, fits_ra, fits_no, fits_na, Nat.reduceAdd, Nat.reduceLT, Nat.reduceLeDiff, Nat.reduceEqDiff, Nat.reduceSub, zero_add0, true_or, or_true, false_or, or_false, not_true_eq_false, not_false_eq_true, eq_self, i10, i01, im0, im1]
  by_cases h : c &&& 1 = 0 <;> simp [h]
/-- the bits of a code -/
def tb (k : Nat) : Int64 := if k % 2 = 1 then (1 : Int64) <<< ((nI (k / 2)).toInt64 &&& 63) else 0
def fb (k : Nat) : Int64 := if k % 2 = 0 then (1 : Int64) <<< ((nI (k / 2)).toInt64 &&& 63) else 0
theorem cd_and1 {k : Nat} (hk : k < 2 ^ 31) : nI k &&& 1 = nI (k % 2) := pk_andN (by omega) 1 (by decide)
theorem cd_shr1 {k : Nat} (hk : k < 2 ^ 31) : nI k >>> ((1 : Int32) &&& 31) = nI (k / 2) := pk_shrN hk ((1 : Int32) &&& 31) 1 (by decide)
theorem lb_tb {k : Nat} (hk : k < 128) (j : Nat) : lb (tb k) j = decide (k = 2 * j + 1) := by
  unfold tb
  by_cases h : k % 2 = 1
  · rw [if_pos h, lb_shl (by omega)]
    by_cases h2 : k = 2 * j + 1
    · rw [decide_eq_true (by omega : k / 2 = j), decide_eq_true h2]
    · rw [decide_eq_false (by omega : ¬ k / 2 = j), decide_eq_false h2]
  · rw [if_neg h, lb_0, decide_eq_false (by omega)]
theorem lb_fb {k : Nat} (hk : k < 128) (j : Nat) : lb (fb k) j = decide (k = 2 * j) := by
  unfold fb
  by_cases h : k % 2 = 0
  · rw [if_pos h, lb_shl (by omega)]
    by_cases h2 : k = 2 * j
    · rw [decide_eq_true (by omega : k / 2 = j), decide_eq_true h2]
    · rw [decide_eq_false (by omega : ¬ k / 2 = j), decide_eq_false h2]
  · rw [if_neg h, lb_0, decide_eq_false (by omega)]
theorem c_tb {k : Nat} (hk : k < 2 ^ 31) (hp : mj_H) (Q : mj_Q) : mj_call 23 [.int (nI k)] hp Q = Q (some (.long (tb k))) hp := by
  rw [c_trueBit, cd_and1 hk, cd_shr1 hk]
  unfold tb
  by_cases h : k % 2 = 1
  · rw [if_pos h, if_pos (by rw [h]; rfl)]
  · rw [if_neg h, if_neg (by rw [show k % 2 = 0 by omega]; decide)]
theorem c_fb {k : Nat} (hk : k < 2 ^ 31) (hp : mj_H) (Q : mj_Q) : mj_call 24 [.int (nI k)] hp Q = Q (some (.long (fb k))) hp := by
  rw [c_falseBit, cd_and1 hk, cd_shr1 hk]
  unfold fb
  by_cases h : k % 2 = 0
  · rw [if_pos h, if_pos (by rw [h]; rfl)]
  · rw [if_neg h, if_neg (by rw [show k % 2 = 1 by omega]; decide)]
theorem cmp0 (x : Int64) : (lg_cmp x 0 = 0) = (x = 0) := by
  apply propext
  unfold lg_cmp
  by_cases h1 : x > 0
  · rw [if_pos h1]
    constructor
    · intro h; cases h
    · intro h; subst h; exact absurd h1 (by decide)
  · rw [if_neg h1]
    by_cases h2 : x = 0
    · rw [if_pos h2]; simp [h2]
    · rw [if_neg h2]; simp [h2]
