/-! A Line's writes -/
theorem at_0 : mj_at[0]? = some FieldType.int := rfl
theorem at_1 : mj_at[1]? = some FieldType.boolean := rfl
theorem at_2 : mj_at[2]? = some (FieldType.object "ProofLines$Line") := rfl
theorem at_len : mj_at.length = 3 := rfl
/-- nothing else changed -/
def sm (hp hp' : mj_H) (lo hi : Nat) : Prop := hp'.2 = hp.2 ∧ ∀ q, (q < lo ∨ hi ≤ q) → hp'.1 q = hp.1 q
theorem sm.rf {hp : mj_H} {lo hi : Nat} : sm hp hp lo hi := ⟨rfl, fun _ _ => rfl⟩
theorem sm.tr {h1 h2 h3 : mj_H} {lo hi : Nat} (a : sm h1 h2 lo hi) (b : sm h2 h3 lo hi) : sm h1 h3 lo hi := ⟨b.1.trans a.1, fun q hq => (b.2 q hq).trans (a.2 q hq)⟩
theorem sm.mono {h1 h2 : mj_H} {lo hi lo' hi' : Nat} (a : sm h1 h2 lo hi) (hl : lo' ≤ lo) (hh : hi ≤ hi') : sm h1 h2 lo' hi' := ⟨a.1, fun q hq => a.2 q (by omega)⟩
theorem sm.up {hp : mj_H} {lo hi a : Nat} {e : va_E} (h1 : lo ≤ a) (h2 : a < hi) : sm hp (mj_up hp a e) lo hi := ⟨rfl, fun q hq => mj_up_off (by omega)⟩
theorem ln_at.keep {hp hp' : mj_H} {a : Nat} {l : Nat × List Nat} (h : ln_at hp a l) (h0 : hp'.1 a = hp.1 a) (h1 : hp'.1 (a + 1) = hp.1 (a + 1)) : ln_at hp' a l := by
  obtain ⟨f, t, u, a1, a2, a3⟩ := h
  exact ⟨f, t, u, h0.trans a1, h1.trans a2, a3⟩
theorem ln_at.sm {hp hp' : mj_H} {a lo hi : Nat} {l : Nat × List Nat} (h : ln_at hp a l) (hs : sm hp hp' lo hi) (ha : a + 1 < lo ∨ hi ≤ a) : ln_at hp' a l := h.keep (hs.2 a (by omega)) (hs.2 (a + 1) (by omega))
theorem ln_len {cs : List Nat} (h : ln_ok cs) : cs.length ≤ 128 := by
  have := List.Nodup.length_le_of_subset h.1 (l₂ := List.range 128) (fun c hc => List.mem_range.mpr (h.2 c hc))
  simpa using this
theorem ln_len1 {cs : List Nat} (h : ln_ok cs) {k : Nat} (hk : k < 128) (hm : ¬ k ∈ cs) : cs.length < 128 := by
  have h1 : ln_ok (k :: cs) := ⟨List.nodup_cons.mpr ⟨hm, h.1⟩, fun c hc => by
    rcases List.mem_cons.mp hc with rfl | hc
    · exact hk
    · exact h.2 c hc⟩
  have := ln_len h1
  rw [List.length_cons] at this
  omega
theorem un_xor : ∀ k, k < 128 → nI k ^^^ 1 = nI (un_neg k) := by decide +kernel
theorem un_lt : ∀ k, k < 128 → un_neg k < 128 := by decide +kernel
def ln_takes (l : Nat × List Nat) (k : Nat) : Prop := ¬ k ∈ l.2 ∧ (l.1 ≠ 3 ∨ ¬ un_neg k ∈ l.2)
theorem c_takes {hp : mj_H} {Q : mj_Q} {a : Nat} {l : Nat × List Nat} (h : ln_at hp a l) {k : Nat} (hk : k < 128) [Decidable (ln_takes l k)] : mj_call 34 [.ref a, .int (nI k)] hp Q = Q (some (.int (if ln_takes l k then 1 else 0))) hp := by
  have hq := h
  obtain ⟨f, t, u, h1, h2, hv, hok, hs⟩ := hq
  rw [en_34]
  simp only [x_34_0, x_34_1, x_34_2, x_34_5, x_34_8, x_34_9, x_34_12, x_34_15, x_34_16, x_34_17, x_34_18, x_34_19, x_34_22, x_34_25, x_34_26, x_34_29, x_34_30, mw_nx, mw_no, mw_ite, mw_call, mw_ret, mw_cst, mw_ii, mw_i1, mw_ll, mw_l1, mw_li, mw_i2l, mw_l2i, mw_lcm, mw_if, mw_ic, mw_ifnN, mw_ifnR, mw_go, mw_dupi, mw_dupr, mw_popi, mw_popr, mw_nw, mw_rti, mw_rtl, mw_rtr, mw_rtn, mw_rtv, mw_rt0, mw_rt1, mj_ild, mj_lld, mj_ald, mj_ist, mj_lst, mj_ast, mj_inc, mj_iz, mj_get, mj_put, mj_len, mj_iar, mj_aar, mj_iaw, mj_aaw, mj_ivs, mj_ivv, mj_ivi, mj_ob, mj_tk, mj_cat, mj_st1, mj_st2, mj_clr, mj_nwi, mj_nwq, List.getElem?_cons_zero, List.getElem?_cons_succ, List.length_cons, List.length_nil, List.set_cons_zero, List.set_cons_succ, Value.category, decide_eq_true_eq, List.map_cons, List.map_nil, List.sum_cons, List.sum_nil, Option.toList, List.cons_append, List.nil_append, ite_true, ite_false, if_true, if_false, reduceCtorEq, true_and, and_true, narrow_i, narrow_l, narrow_r, narrow_n, fits_i, fits_l, fits_ro, fits_ra, fits_no, fits_na, Nat.reduceAdd, Nat.reduceLT, Nat.reduceLeDiff, Nat.reduceEqDiff, Nat.reduceSub, zero_add0, true_or, or_true, false_or, or_false, not_true_eq_false, not_false_eq_true, eq_self, i10, i01, im0, im1, h1, c_has h hk, c_isClause h1 hs, un_xor k hk, c_has h (un_lt k hk)]
  unfold ln_takes
  by_cases m1 : k ∈ l.2 <;> by_cases m2 : un_neg k ∈ l.2 <;> by_cases m3 : l.1 = 3 <;> simp [m1, m2, m3]
theorem c_mark {hp : mj_H} {Q : mj_Q} {a n s : Nat} {t u : Int64} (h : hp.1 a = some (ln_o a n s t u)) {k : Nat} (hk : k < 2 ^ 31) : mj_call 42 [.ref a, .int (nI k)] hp Q = Q none (mj_up hp a (ln_o a n s (t ||| tb k) (u ||| fb k))) := by
  rw [en_42]
  simp only [x_42_0, x_42_1, x_42_2, x_42_5, x_42_6, x_42_9, x_42_10, x_42_13, x_42_14, x_42_15, x_42_18, x_42_19, x_42_22, x_42_23, x_42_26, mw_nx, mw_no, mw_ite, mw_call, mw_ret, mw_cst, mw_ii, mw_i1, mw_ll, mw_l1, mw_li, mw_i2l, mw_l2i, mw_lcm, mw_if, mw_ic, mw_ifnN, mw_ifnR, mw_go, mw_dupi, mw_dupr, mw_popi, mw_popr, mw_nw, mw_rti, mw_rtl, mw_rtr, mw_rtn, mw_rtv, mw_rt0, mw_rt1, mj_ild, mj_lld, mj_ald, mj_ist, mj_lst, mj_ast, mj_inc, mj_iz, mj_get, mj_put, mj_len, mj_iar, mj_aar, mj_iaw, mj_aaw, mj_ivs, mj_ivv, mj_ivi, mj_ob, mj_tk, mj_cat, mj_st1, mj_st2, mj_clr, mj_nwi, mj_nwq, List.getElem?_cons_zero, List.getElem?_cons_succ, List.length_cons, List.length_nil, List.set_cons_zero, List.set_cons_succ, Value.category, decide_eq_true_eq, List.map_cons, List.map_nil, List.sum_cons, List.sum_nil, Option.toList, List.cons_append, List.nil_append, ite_true, ite_false, if_true, if_false, reduceCtorEq, true_and, and_true, narrow_i, narrow_l, narrow_r, narrow_n, fits_i, fits_l, fits_ro, fits_ra, fits_no, fits_na, Nat.reduceAdd, Nat.reduceLT, Nat.reduceLeDiff, Nat.reduceEqDiff, Nat.reduceSub, zero_add0, true_or, or_true, false_or, or_false, not_true_eq_false, not_false_eq_true, eq_self, i10, i01, im0, im1, h, c_tb hk, c_fb hk, mj_up_at, mj_up_up]
theorem ln_v_add {cs : List Nat} {f : Nat → Int32} {t u : Int64} (hv : ln_v cs f t u) {k : Nat} (hk : k < 128) : ln_v (cs ++ [k]) (upd f cs.length (nI k)) (t ||| tb k) (u ||| fb k) := by
  refine ⟨fun j hj => ?_, fun j => ?_, fun j => ?_⟩
  · by_cases hj2 : j = cs.length
    · subst hj2
      simp [upd]
    · have hj3 : j < cs.length := by simp at hj; omega
      rw [show upd f cs.length (nI k) j = f j by simp [upd, hj2], hv.1 j hj3]
      simp [List.getD_eq_getElem?_getD, List.getElem?_append_left hj3]
  · rw [lb_or, hv.2.1, lb_tb hk]
    simp [List.mem_append, eq_comm, Bool.decide_or]
  · rw [lb_or, hv.2.2, lb_fb hk]
    simp [List.mem_append, eq_comm, Bool.decide_or]
theorem ln_ok_add {cs : List Nat} (h : ln_ok cs) {k : Nat} (hk : k < 128) (hm : ¬ k ∈ cs) : ln_ok (cs ++ [k]) := by
  refine ⟨?_, fun c hc => ?_⟩
  · rw [List.nodup_append]
    refine ⟨h.1, by simp, fun x hx y hy => ?_⟩
    rw [List.mem_singleton] at hy
    subst hy
    exact fun e => hm (e ▸ hx)
  · rcases List.mem_append.mp hc with hc | hc
    · exact h.2 c hc
    · rw [List.mem_singleton] at hc; omega
/-- add: a literal comes, if the line takes it -/
theorem c_add {hp : mj_H} {Q : mj_Q} {a : Nat} {l : Nat × List Nat} (h : ln_at hp a l) {k : Nat} (hk : k < 128) (ht : ln_takes l k → ∀ hp' : mj_H, ln_at hp' a (l.1, l.2 ++ [k]) → sm hp hp' a (a + 2) → Q (some (.int 1)) hp') (hf : ¬ ln_takes l k → Q (some (.int 0)) hp) : mj_call 35 [.ref a, .int (nI k)] hp Q := by
  have hq := h
  obtain ⟨f, t, u, h1, h2, hv, hok, hs⟩ := hq
  have k0 : ¬ nI k < 0 := nI_pos (by omega)
  have k1 : ¬ (128 : Int32) ≤ nI k := nI_ge (a := k) (b := 128) hk (by omega)
  have hlen := ln_len hok
  have o1 : ∀ (hp : mj_H) (e : va_E), (mj_up hp (a + 1) e).1 a = hp.1 a := fun _ _ => mj_up_off (by omega)
  by_cases htk : ln_takes l k
  · have hdec : Decidable (ln_takes l k) := .isTrue htk
    have n1 := ln_len1 hok hk htk.1
    have n2 : ¬ Int32.ofNat 128 ≤ nI l.2.length := nI_ge (a := l.2.length) (b := 128) n1 (by omega)
    have n3 : ¬ nI l.2.length < 0 := nI_pos (by omega)
    have n5 : ¬ 128 ≤ l.2.length := by omega
    have n4 : (nI l.2.length).toNatClampNeg = l.2.length := nI_clamp (by omega)
    rw [en_35]
    simp only [x_35_0, x_35_1, x_35_4, x_35_5, x_35_8, x_35_11, x_35_12, x_35_15, x_35_16, x_35_19, x_35_20, x_35_23, x_35_24, x_35_25, x_35_28, x_35_31, x_35_32, x_35_33, x_35_34, x_35_37, x_35_38, x_35_41, x_35_42, x_35_43, x_35_44, x_35_45, x_35_48, x_35_49, x_35_50, x_35_53, x_35_54, x_35_55, x_35_58, x_35_59, mw_nx, mw_no, mw_ite, mw_call, mw_ret, mw_cst, mw_ii, mw_i1, mw_ll, mw_l1, mw_li, mw_i2l, mw_l2i, mw_lcm, mw_if, mw_ic, mw_ifnN, mw_ifnR, mw_go, mw_dupi, mw_dupr, mw_popi, mw_popr, mw_nw, mw_rti, mw_rtl, mw_rtr, mw_rtn, mw_rtv, mw_rt0, mw_rt1, mj_ild, mj_lld, mj_ald, mj_ist, mj_lst, mj_ast, mj_inc, mj_iz, mj_get, mj_put, mj_len, mj_iar, mj_aar, mj_iaw, mj_aaw, mj_ivs, mj_ivv, mj_ivi, mj_ob, mj_tk, mj_cat, mj_st1, mj_st2, mj_clr, mj_nwi, mj_nwq, List.getElem?_cons_zero, List.getElem?_cons_succ, List.length_cons, List.length_nil, List.set_cons_zero, List.set_cons_succ, Value.category, decide_eq_true_eq, List.map_cons, List.map_nil, List.sum_cons, List.sum_nil, Option.toList, List.cons_append, List.nil_append, ite_true, ite_false, if_true, if_false, reduceCtorEq, true_and, and_true, narrow_i, narrow_l, narrow_r, narrow_n, fits_i, fits_l, fits_ro, fits_ra, fits_no, fits_na, Nat.reduceAdd, Nat.reduceLT, Nat.reduceLeDiff, Nat.reduceEqDiff, Nat.reduceSub, zero_add0, true_or, or_true, false_or, or_false, not_true_eq_false, not_false_eq_true, eq_self, i10, i01, im0, im1, h1, h2, k0, k1, n2, n3, n4, n5, c_takes h hk, htk, at_0, at_len, o1, mj_up_at, nI_1]
    rw [c_mark (n := l.2.length + 1) (s := l.1) (t := t) (u := u) mj_up_at (by omega)]
    simp only [x_35_54, x_35_55, x_35_58, x_35_59, mw_nx, mw_no, mw_ite, mw_call, mw_ret, mw_cst, mw_ii, mw_i1, mw_ll, mw_l1, mw_li, mw_i2l, mw_l2i, mw_lcm, mw_if, mw_ic, mw_ifnN, mw_ifnR, mw_go, mw_dupi, mw_dupr, mw_popi, mw_popr, mw_nw, mw_rti, mw_rtl, mw_rtr, mw_rtn, mw_rtv, mw_rt0, mw_rt1, mj_ild, mj_lld, mj_ald, mj_ist, mj_lst, mj_ast, mj_inc, mj_iz, mj_get, mj_put, mj_len, mj_iar, mj_aar, mj_iaw, mj_aaw, mj_ivs, mj_ivv, mj_ivi, mj_ob, mj_tk, mj_cat, mj_st1, mj_st2, mj_clr, mj_nwi, mj_nwq, List.getElem?_cons_zero, List.getElem?_cons_succ, List.length_cons, List.length_nil, List.set_cons_zero, List.set_cons_succ, Value.category, decide_eq_true_eq, List.map_cons, List.map_nil, List.sum_cons, List.sum_nil, Option.toList, List.cons_append, List.nil_append, ite_true, ite_false, if_true, if_false, reduceCtorEq, true_and, and_true, narrow_i, narrow_l, narrow_r, narrow_n, fits_i, fits_l, fits_ro, fits_ra, fits_no, fits_na, Nat.reduceAdd, Nat.reduceLT, Nat.reduceLeDiff, Nat.reduceEqDiff, Nat.reduceSub, zero_add0, true_or, or_true, false_or, or_false, not_true_eq_false, not_false_eq_true, eq_self, i10, i01, im0, im1, mj_up_up]
    refine ht htk _ ⟨_, _, _, ?_, ?_, ln_v_add hv hk, ln_ok_add hok hk htk.1, hs⟩ ((sm.up (by omega) (by omega)).tr (sm.up (by omega) (by omega)))
    · rw [mj_up_at]
      simp
    · rw [mj_up_off (by omega), mj_up_at]
  · have hdec : Decidable (ln_takes l k) := .isFalse htk
    rw [en_35]
    simp only [x_35_0, x_35_1, x_35_4, x_35_5, x_35_8, x_35_11, x_35_12, x_35_15, x_35_16, x_35_19, x_35_20, x_35_23, x_35_24, x_35_25, x_35_28, x_35_31, x_35_32, mw_nx, mw_no, mw_ite, mw_call, mw_ret, mw_cst, mw_ii, mw_i1, mw_ll, mw_l1, mw_li, mw_i2l, mw_l2i, mw_lcm, mw_if, mw_ic, mw_ifnN, mw_ifnR, mw_go, mw_dupi, mw_dupr, mw_popi, mw_popr, mw_nw, mw_rti, mw_rtl, mw_rtr, mw_rtn, mw_rtv, mw_rt0, mw_rt1, mj_ild, mj_lld, mj_ald, mj_ist, mj_lst, mj_ast, mj_inc, mj_iz, mj_get, mj_put, mj_len, mj_iar, mj_aar, mj_iaw, mj_aaw, mj_ivs, mj_ivv, mj_ivi, mj_ob, mj_tk, mj_cat, mj_st1, mj_st2, mj_clr, mj_nwi, mj_nwq, List.getElem?_cons_zero, List.getElem?_cons_succ, List.length_cons, List.length_nil, List.set_cons_zero, List.set_cons_succ, Value.category, decide_eq_true_eq, List.map_cons, List.map_nil, List.sum_cons, List.sum_nil, Option.toList, List.cons_append, List.nil_append, ite_true, ite_false, if_true, if_false, reduceCtorEq, true_and, and_true, narrow_i, narrow_l, narrow_r, narrow_n, fits_i, fits_l, fits_ro, fits_ra, fits_no, fits_na, Nat.reduceAdd, Nat.reduceLT, Nat.reduceLeDiff, Nat.reduceEqDiff, Nat.reduceSub, zero_add0, true_or, or_true, false_or, or_false, not_true_eq_false, not_false_eq_true, eq_self, i10, i01, im0, im1, h1, h2, k0, k1, c_takes h hk, htk, at_0, at_len]
    have := hf htk
    split <;> exact this
theorem c_codeAt {hp : mj_H} {Q : mj_Q} {a n s : Nat} {f : Nat → Int32} {t u : Int64} (h1 : hp.1 a = some (ln_o a n s t u)) (h2 : hp.1 (a + 1) = some (ln_c f)) (hn : n ≤ 128) (x : Int32) : mj_call 38 [.ref a, .int x] hp Q = Q (some (.int (if 0 ≤ x ∧ x < nI n then f x.toNatClampNeg else -1))) hp := by
  rw [en_38]
  by_cases x0 : x < 0
  · have x1 : ¬ 0 ≤ x := by rw [Int32.le_iff_toInt_le]; rw [Int32.lt_iff_toInt_lt] at x0; omega
    simp only [x_38_0, x_38_1, x_38_4, x_38_5, x_38_6, x_38_9, x_38_12, x_38_13, x_38_14, x_38_17, x_38_18, x_38_21, x_38_22, x_38_25, x_38_26, x_38_27, x_38_30, x_38_31, mw_nx, mw_no, mw_ite, mw_call, mw_ret, mw_cst, mw_ii, mw_i1, mw_ll, mw_l1, mw_li, mw_i2l, mw_l2i, mw_lcm, mw_if, mw_ic, mw_ifnN, mw_ifnR, mw_go, mw_dupi, mw_dupr, mw_popi, mw_popr, mw_nw, mw_rti, mw_rtl, mw_rtr, mw_rtn, mw_rtv, mw_rt0, mw_rt1, mj_ild, mj_lld, mj_ald, mj_ist, mj_lst, mj_ast, mj_inc, mj_iz, mj_get, mj_put, mj_len, mj_iar, mj_aar, mj_iaw, mj_aaw, mj_ivs, mj_ivv, mj_ivi, mj_ob, mj_tk, mj_cat, mj_st1, mj_st2, mj_clr, mj_nwi, mj_nwq, List.getElem?_cons_zero, List.getElem?_cons_succ, List.length_cons, List.length_nil, List.set_cons_zero, List.set_cons_succ, Value.category, decide_eq_true_eq, List.map_cons, List.map_nil, List.sum_cons, List.sum_nil, Option.toList, List.cons_append, List.nil_append, ite_true, ite_false, if_true, if_false, reduceCtorEq, true_and, and_true, narrow_i, narrow_l, narrow_r, narrow_n, fits_i, fits_l, fits_ro, fits_ra, fits_no, fits_na, Nat.reduceAdd, Nat.reduceLT, Nat.reduceLeDiff, Nat.reduceEqDiff, Nat.reduceSub, zero_add0, true_or, or_true, false_or, or_false, not_true_eq_false, not_false_eq_true, eq_self, i10, i01, im0, im1, h1, h2, x0, x1, false_and]
  · have x1 : 0 ≤ x := by rw [Int32.le_iff_toInt_le]; rw [Int32.lt_iff_toInt_lt] at x0; omega
    obtain ⟨j, hj, rfl⟩ := nI_of x0
    have e1 : (nI n ≤ nI j) = (n ≤ j) := propext (nI_leI (by omega) hj)
    have e2 : (nI j < nI n) = (j < n) := propext (nI_ltI hj (by omega))
    have e3 : (Int32.ofNat 128 ≤ nI j) = (128 ≤ j) := propext (nI_leI (a := 128) (by omega) hj)
    have e4 := nI_clamp hj
    by_cases hjn : j < n
    · have a1 : ¬ n ≤ j := by omega
      have a2 : ¬ 128 ≤ j := by omega
      simp only [x_38_0, x_38_1, x_38_4, x_38_5, x_38_6, x_38_9, x_38_12, x_38_13, x_38_14, x_38_17, x_38_18, x_38_21, x_38_22, x_38_25, x_38_26, x_38_27, x_38_30, x_38_31, mw_nx, mw_no, mw_ite, mw_call, mw_ret, mw_cst, mw_ii, mw_i1, mw_ll, mw_l1, mw_li, mw_i2l, mw_l2i, mw_lcm, mw_if, mw_ic, mw_ifnN, mw_ifnR, mw_go, mw_dupi, mw_dupr, mw_popi, mw_popr, mw_nw, mw_rti, mw_rtl, mw_rtr, mw_rtn, mw_rtv, mw_rt0, mw_rt1, mj_ild, mj_lld, mj_ald, mj_ist, mj_lst, mj_ast, mj_inc, mj_iz, mj_get, mj_put, mj_len, mj_iar, mj_aar, mj_iaw, mj_aaw, mj_ivs, mj_ivv, mj_ivi, mj_ob, mj_tk, mj_cat, mj_st1, mj_st2, mj_clr, mj_nwi, mj_nwq, List.getElem?_cons_zero, List.getElem?_cons_succ, List.length_cons, List.length_nil, List.set_cons_zero, List.set_cons_succ, Value.category, decide_eq_true_eq, List.map_cons, List.map_nil, List.sum_cons, List.sum_nil, Option.toList, List.cons_append, List.nil_append, ite_true, ite_false, if_true, if_false, reduceCtorEq, true_and, and_true, narrow_i, narrow_l, narrow_r, narrow_n, fits_i, fits_l, fits_ro, fits_ra, fits_no, fits_na, Nat.reduceAdd, Nat.reduceLT, Nat.reduceLeDiff, Nat.reduceEqDiff, Nat.reduceSub, zero_add0, true_or, or_true, false_or, or_false, not_true_eq_false, not_false_eq_true, eq_self, i10, i01, im0, im1, h1, h2, x0, x1, e1, e2, e3, e4, hjn, a1, a2, at_0, at_len, true_and]
    · have a1 : n ≤ j := by omega
      simp only [x_38_0, x_38_1, x_38_4, x_38_5, x_38_6, x_38_9, x_38_12, x_38_13, x_38_14, x_38_17, x_38_18, x_38_21, x_38_22, x_38_25, x_38_26, x_38_27, x_38_30, x_38_31, mw_nx, mw_no, mw_ite, mw_call, mw_ret, mw_cst, mw_ii, mw_i1, mw_ll, mw_l1, mw_li, mw_i2l, mw_l2i, mw_lcm, mw_if, mw_ic, mw_ifnN, mw_ifnR, mw_go, mw_dupi, mw_dupr, mw_popi, mw_popr, mw_nw, mw_rti, mw_rtl, mw_rtr, mw_rtn, mw_rtv, mw_rt0, mw_rt1, mj_ild, mj_lld, mj_ald, mj_ist, mj_lst, mj_ast, mj_inc, mj_iz, mj_get, mj_put, mj_len, mj_iar, mj_aar, mj_iaw, mj_aaw, mj_ivs, mj_ivv, mj_ivi, mj_ob, mj_tk, mj_cat, mj_st1, mj_st2, mj_clr, mj_nwi, mj_nwq, List.getElem?_cons_zero, List.getElem?_cons_succ, List.length_cons, List.length_nil, List.set_cons_zero, List.set_cons_succ, Value.category, decide_eq_true_eq, List.map_cons, List.map_nil, List.sum_cons, List.sum_nil, Option.toList, List.cons_append, List.nil_append, ite_true, ite_false, if_true, if_false, reduceCtorEq, true_and, and_true, narrow_i, narrow_l, narrow_r, narrow_n, fits_i, fits_l, fits_ro, fits_ra, fits_no, fits_na, Nat.reduceAdd, Nat.reduceLT, Nat.reduceLeDiff, Nat.reduceEqDiff, Nat.reduceSub, zero_add0, true_or, or_true, false_or, or_false, not_true_eq_false, not_false_eq_true, eq_self, i10, i01, im0, im1, h1, h2, x0, x1, e1, e2, e3, e4, hjn, a1, at_0, at_len, true_and]
theorem c_codeAtN {hp : mj_H} {Q : mj_Q} {a i : Nat} {l : Nat × List Nat} (h : ln_at hp a l) (hi : i < l.2.length) : mj_call 38 [.ref a, .int (nI i)] hp Q = Q (some (.int (nI (l.2.getD i 0)))) hp := by
  obtain ⟨f, t, u, h1, h2, hv, hok, hs⟩ := h
  have hlen := ln_len hok
  rw [c_codeAt h1 h2 hlen, if_pos ⟨nI_pos' (by omega), nI_lt hi (by omega)⟩, nI_clamp (by omega), hv.1 i hi]
/-- what comes by addAllBut -/
def ln_adds (z : Int32) : List Nat → List Nat → List Nat
  | acc, [] => acc
  | acc, c :: r => ln_adds z (if nI (c / 2) = z ∨ c ∈ acc then acc else acc ++ [c]) r
theorem c_addAllBut {hp : mj_H} {Q : mj_Q} {a b : Nat} {s : Nat} {cs : List Nat} {l2 : Nat × List Nat} {z : Int32} (ha : ln_at hp a (s, cs)) (hb : ln_at hp b l2) (hs : s ≠ 3) (hab : b + 1 < a ∨ a + 2 ≤ b) (hQ : ∀ hp' : mj_H, ln_at hp' a (s, ln_adds z cs l2.2) → sm hp hp' a (a + 2) → Q none hp') : mj_call 36 [.ref a, .ref b, .int z] hp Q := by
  have key : ∀ (rest done acc : List Nat) (hp1 : mj_H) (o4 : Option Value), l2.2 = done ++ rest → ln_at hp1 a (s, acc) → ln_adds z acc rest = ln_adds z cs l2.2 → sm hp hp1 a (a + 2) → mj_wp 36 2 [some (.ref a), some (.ref b), some (.int z), some (.int (nI done.length)), o4] [] hp1 Q := by
    intro rest
    induction rest with
    | nil =>
      intro done acc hp1 o4 hd h1 he hsm
      have hb1 := hb.sm hsm hab
      have hq := hb1
      obtain ⟨f, t, u, b1, b2, hv, hok, hk⟩ := hq
      have hlen := ln_len hok
      rw [List.append_nil] at hd
      have e1 : nI l2.2.length ≤ nI done.length := by rw [hd]; exact nI_le (Nat.le_refl _) (by rw [hd] at hlen; omega)
      rw [x_36_2]
      simp only [x_36_3, x_36_4, x_36_7, x_36_10, x_36_11, x_36_12, x_36_15, x_36_17, x_36_19, x_36_20, x_36_21, x_36_22, x_36_25, x_36_26, x_36_28, x_36_31, x_36_32, x_36_35, x_36_38, mw_nx, mw_no, mw_ite, mw_call, mw_ret, mw_cst, mw_ii, mw_i1, mw_ll, mw_l1, mw_li, mw_i2l, mw_l2i, mw_lcm, mw_if, mw_ic, mw_ifnN, mw_ifnR, mw_go, mw_dupi, mw_dupr, mw_popi, mw_popr, mw_nw, mw_rti, mw_rtl, mw_rtr, mw_rtn, mw_rtv, mw_rt0, mw_rt1, mj_ild, mj_lld, mj_ald, mj_ist, mj_lst, mj_ast, mj_inc, mj_iz, mj_get, mj_put, mj_len, mj_iar, mj_aar, mj_iaw, mj_aaw, mj_ivs, mj_ivv, mj_ivi, mj_ob, mj_tk, mj_cat, mj_st1, mj_st2, mj_clr, mj_nwi, mj_nwq, List.getElem?_cons_zero, List.getElem?_cons_succ, List.length_cons, List.length_nil, List.set_cons_zero, List.set_cons_succ, Value.category, decide_eq_true_eq, List.map_cons, List.map_nil, List.sum_cons, List.sum_nil, Option.toList, List.cons_append, List.nil_append, ite_true, ite_false, if_true, if_false, reduceCtorEq, true_and, and_true, narrow_i, narrow_l, narrow_r, narrow_n, fits_i, fits_l, fits_ro, fits_ra, fits_no, fits_na, Nat.reduceAdd, Nat.reduceLT, Nat.reduceLeDiff, Nat.reduceEqDiff, Nat.reduceSub, zero_add0, true_or, or_true, false_or, or_false, not_true_eq_false, not_false_eq_true, eq_self, i10, i01, im0, im1, b1, c_size b1, e1]
      exact hQ hp1 (he ▸ h1) hsm
    | cons c rest ih =>
      intro done acc hp1 o4 hd h1 he hsm
      have hb1 := hb.sm hsm hab
      have hq := hb1
      obtain ⟨f, t, u, b1, b2, hv, hok, hk⟩ := hq
      have hlen := ln_len hok
      have hlt : done.length < l2.2.length := by rw [hd]; simp
      have hc : l2.2.getD done.length 0 = c := by rw [hd]; simp [List.getD_eq_getElem?_getD]
      have hc2 : c < 128 := hok.2 c (by rw [hd]; simp)
      have e1 : ¬ nI l2.2.length ≤ nI done.length := nI_ge hlt (by omega)
      have hq1 := h1
      obtain ⟨f', t', u', a1, a2, -⟩ := hq1
      rw [x_36_2]
      simp only [x_36_3, x_36_4, x_36_7, x_36_10, x_36_11, x_36_12, x_36_15, x_36_17, x_36_19, x_36_20, x_36_21, x_36_22, x_36_25, x_36_26, x_36_28, x_36_31, x_36_32, x_36_35, x_36_38, mw_nx, mw_no, mw_ite, mw_call, mw_ret, mw_cst, mw_ii, mw_i1, mw_ll, mw_l1, mw_li, mw_i2l, mw_l2i, mw_lcm, mw_if, mw_ic, mw_ifnN, mw_ifnR, mw_go, mw_dupi, mw_dupr, mw_popi, mw_popr, mw_nw, mw_rti, mw_rtl, mw_rtr, mw_rtn, mw_rtv, mw_rt0, mw_rt1, mj_ild, mj_lld, mj_ald, mj_ist, mj_lst, mj_ast, mj_inc, mj_iz, mj_get, mj_put, mj_len, mj_iar, mj_aar, mj_iaw, mj_aaw, mj_ivs, mj_ivv, mj_ivi, mj_ob, mj_tk, mj_cat, mj_st1, mj_st2, mj_clr, mj_nwi, mj_nwq, List.getElem?_cons_zero, List.getElem?_cons_succ, List.length_cons, List.length_nil, List.set_cons_zero, List.set_cons_succ, Value.category, decide_eq_true_eq, List.map_cons, List.map_nil, List.sum_cons, List.sum_nil, Option.toList, List.cons_append, List.nil_append, ite_true, ite_false, if_true, if_false, reduceCtorEq, true_and, and_true, narrow_i, narrow_l, narrow_r, narrow_n, fits_i, fits_l, fits_ro, fits_ra, fits_no, fits_na, Nat.reduceAdd, Nat.reduceLT, Nat.reduceLeDiff, Nat.reduceEqDiff, Nat.reduceSub, zero_add0, true_or, or_true, false_or, or_false, not_true_eq_false, not_false_eq_true, eq_self, i10, i01, im0, im1, b1, c_size b1, e1, c_codeAtN hb1 hlt, hc, cd_shr1 (show c < 2 ^ 31 by omega), a1]
      by_cases hz : nI (c / 2) = z
      · simp only [hz, x_36_25, x_36_26, x_36_28, x_36_31, x_36_32, x_36_35, x_36_38, mw_nx, mw_no, mw_ite, mw_call, mw_ret, mw_cst, mw_ii, mw_i1, mw_ll, mw_l1, mw_li, mw_i2l, mw_l2i, mw_lcm, mw_if, mw_ic, mw_ifnN, mw_ifnR, mw_go, mw_dupi, mw_dupr, mw_popi, mw_popr, mw_nw, mw_rti, mw_rtl, mw_rtr, mw_rtn, mw_rtv, mw_rt0, mw_rt1, mj_ild, mj_lld, mj_ald, mj_ist, mj_lst, mj_ast, mj_inc, mj_iz, mj_get, mj_put, mj_len, mj_iar, mj_aar, mj_iaw, mj_aaw, mj_ivs, mj_ivv, mj_ivi, mj_ob, mj_tk, mj_cat, mj_st1, mj_st2, mj_clr, mj_nwi, mj_nwq, List.getElem?_cons_zero, List.getElem?_cons_succ, List.length_cons, List.length_nil, List.set_cons_zero, List.set_cons_succ, Value.category, decide_eq_true_eq, List.map_cons, List.map_nil, List.sum_cons, List.sum_nil, Option.toList, List.cons_append, List.nil_append, ite_true, ite_false, if_true, if_false, reduceCtorEq, true_and, and_true, narrow_i, narrow_l, narrow_r, narrow_n, fits_i, fits_l, fits_ro, fits_ra, fits_no, fits_na, Nat.reduceAdd, Nat.reduceLT, Nat.reduceLeDiff, Nat.reduceEqDiff, Nat.reduceSub, zero_add0, true_or, or_true, false_or, or_false, not_true_eq_false, not_false_eq_true, eq_self, i10, i01, im0, im1, nI_1]
        have := ih (done ++ [c]) acc hp1 (some (.int (nI c))) (by rw [hd]; simp) h1 (by rw [← he]; simp [ln_adds, hz]) hsm
        simpa using this
      · simp only [hz, x_36_25, x_36_26, x_36_28, mw_nx, mw_no, mw_ite, mw_call, mw_ret, mw_cst, mw_ii, mw_i1, mw_ll, mw_l1, mw_li, mw_i2l, mw_l2i, mw_lcm, mw_if, mw_ic, mw_ifnN, mw_ifnR, mw_go, mw_dupi, mw_dupr, mw_popi, mw_popr, mw_nw, mw_rti, mw_rtl, mw_rtr, mw_rtn, mw_rtv, mw_rt0, mw_rt1, mj_ild, mj_lld, mj_ald, mj_ist, mj_lst, mj_ast, mj_inc, mj_iz, mj_get, mj_put, mj_len, mj_iar, mj_aar, mj_iaw, mj_aaw, mj_ivs, mj_ivv, mj_ivi, mj_ob, mj_tk, mj_cat, mj_st1, mj_st2, mj_clr, mj_nwi, mj_nwq, List.getElem?_cons_zero, List.getElem?_cons_succ, List.length_cons, List.length_nil, List.set_cons_zero, List.set_cons_succ, Value.category, decide_eq_true_eq, List.map_cons, List.map_nil, List.sum_cons, List.sum_nil, Option.toList, List.cons_append, List.nil_append, ite_true, ite_false, if_true, if_false, reduceCtorEq, true_and, and_true, narrow_i, narrow_l, narrow_r, narrow_n, fits_i, fits_l, fits_ro, fits_ra, fits_no, fits_na, Nat.reduceAdd, Nat.reduceLT, Nat.reduceLeDiff, Nat.reduceEqDiff, Nat.reduceSub, zero_add0, true_or, or_true, false_or, or_false, not_true_eq_false, not_false_eq_true, eq_self, i10, i01, im0, im1, a1]
        refine c_add h1 hc2 (fun htk hp2 h2 hs2 => ?_) (fun htk => ?_)
        · simp only [x_36_31, x_36_32, x_36_35, mw_nx, mw_no, mw_ite, mw_call, mw_ret, mw_cst, mw_ii, mw_i1, mw_ll, mw_l1, mw_li, mw_i2l, mw_l2i, mw_lcm, mw_if, mw_ic, mw_ifnN, mw_ifnR, mw_go, mw_dupi, mw_dupr, mw_popi, mw_popr, mw_nw, mw_rti, mw_rtl, mw_rtr, mw_rtn, mw_rtv, mw_rt0, mw_rt1, mj_ild, mj_lld, mj_ald, mj_ist, mj_lst, mj_ast, mj_inc, mj_iz, mj_get, mj_put, mj_len, mj_iar, mj_aar, mj_iaw, mj_aaw, mj_ivs, mj_ivv, mj_ivi, mj_ob, mj_tk, mj_cat, mj_st1, mj_st2, mj_clr, mj_nwi, mj_nwq, List.getElem?_cons_zero, List.getElem?_cons_succ, List.length_cons, List.length_nil, List.set_cons_zero, List.set_cons_succ, Value.category, decide_eq_true_eq, List.map_cons, List.map_nil, List.sum_cons, List.sum_nil, Option.toList, List.cons_append, List.nil_append, ite_true, ite_false, if_true, if_false, reduceCtorEq, true_and, and_true, narrow_i, narrow_l, narrow_r, narrow_n, fits_i, fits_l, fits_ro, fits_ra, fits_no, fits_na, Nat.reduceAdd, Nat.reduceLT, Nat.reduceLeDiff, Nat.reduceEqDiff, Nat.reduceSub, zero_add0, true_or, or_true, false_or, or_false, not_true_eq_false, not_false_eq_true, eq_self, i10, i01, im0, im1, nI_1]
          have := ih (done ++ [c]) (acc ++ [c]) hp2 (some (.int (nI c))) (by rw [hd]; simp) h2 (by rw [← he]; simp [ln_adds, hz, htk.1]) (hsm.tr hs2)
          simpa using this
        · have hm : c ∈ acc := by
            by_cases hm : c ∈ acc
            · exact hm
            · exact absurd ⟨hm, Or.inl hs⟩ htk
          simp only [x_36_31, x_36_32, x_36_35, mw_nx, mw_no, mw_ite, mw_call, mw_ret, mw_cst, mw_ii, mw_i1, mw_ll, mw_l1, mw_li, mw_i2l, mw_l2i, mw_lcm, mw_if, mw_ic, mw_ifnN, mw_ifnR, mw_go, mw_dupi, mw_dupr, mw_popi, mw_popr, mw_nw, mw_rti, mw_rtl, mw_rtr, mw_rtn, mw_rtv, mw_rt0, mw_rt1, mj_ild, mj_lld, mj_ald, mj_ist, mj_lst, mj_ast, mj_inc, mj_iz, mj_get, mj_put, mj_len, mj_iar, mj_aar, mj_iaw, mj_aaw, mj_ivs, mj_ivv, mj_ivi, mj_ob, mj_tk, mj_cat, mj_st1, mj_st2, mj_clr, mj_nwi, mj_nwq, List.getElem?_cons_zero, List.getElem?_cons_succ, List.length_cons, List.length_nil, List.set_cons_zero, List.set_cons_succ, Value.category, decide_eq_true_eq, List.map_cons, List.map_nil, List.sum_cons, List.sum_nil, Option.toList, List.cons_append, List.nil_append, ite_true, ite_false, if_true, if_false, reduceCtorEq, true_and, and_true, narrow_i, narrow_l, narrow_r, narrow_n, fits_i, fits_l, fits_ro, fits_ra, fits_no, fits_na, Nat.reduceAdd, Nat.reduceLT, Nat.reduceLeDiff, Nat.reduceEqDiff, Nat.reduceSub, zero_add0, true_or, or_true, false_or, or_false, not_true_eq_false, not_false_eq_true, eq_self, i10, i01, im0, im1, nI_1]
          have := ih (done ++ [c]) acc hp1 (some (.int (nI c))) (by rw [hd]; simp) h1 (by rw [← he]; simp [ln_adds, hm]) hsm
          simpa using this
  rw [en_36]
  simp only [x_36_0, x_36_1, mw_nx, mw_no, mw_ite, mw_call, mw_ret, mw_cst, mw_ii, mw_i1, mw_ll, mw_l1, mw_li, mw_i2l, mw_l2i, mw_lcm, mw_if, mw_ic, mw_ifnN, mw_ifnR, mw_go, mw_dupi, mw_dupr, mw_popi, mw_popr, mw_nw, mw_rti, mw_rtl, mw_rtr, mw_rtn, mw_rtv, mw_rt0, mw_rt1, mj_ild, mj_lld, mj_ald, mj_ist, mj_lst, mj_ast, mj_inc, mj_iz, mj_get, mj_put, mj_len, mj_iar, mj_aar, mj_iaw, mj_aaw, mj_ivs, mj_ivv, mj_ivi, mj_ob, mj_tk, mj_cat, mj_st1, mj_st2, mj_clr, mj_nwi, mj_nwq, List.getElem?_cons_zero, List.getElem?_cons_succ, List.length_cons, List.length_nil, List.set_cons_zero, List.set_cons_succ, Value.category, decide_eq_true_eq, List.map_cons, List.map_nil, List.sum_cons, List.sum_nil, Option.toList, List.cons_append, List.nil_append, ite_true, ite_false, if_true, if_false, reduceCtorEq, true_and, and_true, narrow_i, narrow_l, narrow_r, narrow_n, fits_i, fits_l, fits_ro, fits_ra, fits_no, fits_na, Nat.reduceAdd, Nat.reduceLT, Nat.reduceLeDiff, Nat.reduceEqDiff, Nat.reduceSub, zero_add0, true_or, or_true, false_or, or_false, not_true_eq_false, not_false_eq_true, eq_self, i10, i01, im0, im1]
  exact key l2.2 [] cs hp none rfl ha rfl sm.rf
