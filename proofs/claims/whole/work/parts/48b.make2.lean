/-! A new ProofLines -/
theorem so_n_e (x : Int32) : (if (1 : Int32) < (if x < 64 then x else 64) then (if x < 64 then x else 64) else 1) = nI (so_n x) := by
  unfold so_n
  have h1 : (1 : Int32).toInt = 1 := by decide
  have h64 : (64 : Int32).toInt = 64 := by decide
  by_cases a : x < 1
  · have b : x < 64 := by rw [Int32.lt_iff_toInt_lt] at a ⊢; omega
    have c : ¬ (1 : Int32) < x := by rw [Int32.lt_iff_toInt_lt] at a ⊢; omega
    rw [if_pos a, if_pos b, if_neg c]; rfl
  · rw [if_neg a]
    by_cases d : 64 < x
    · have b : ¬ x < 64 := by rw [Int32.lt_iff_toInt_lt] at d ⊢; omega
      rw [if_pos d, if_neg b]; rfl
    · rw [if_neg d]
      have e0 : ¬ x < 0 := by
        have : (0 : Int32).toInt = 0 := by decide
        rw [Int32.lt_iff_toInt_lt] at a ⊢; omega
      obtain ⟨j, hj, rfl⟩ := nI_of e0
      rw [nI_clamp hj]
      have hj1 : ¬ j < 1 := fun q => a (nI_lt (b := 1) q (by omega))
      have hj2 : ¬ 64 < j := fun q => d (nI_lt (a := 64) q hj)
      by_cases b : j = 64
      · subst b; rfl
      · have b2 : nI j < 64 := nI_lt (b := 64) (by omega) (by omega)
        rw [if_pos b2]
        by_cases c : j = 1
        · subst c; rfl
        · have c2 : (1 : Int32) < nI j := nI_lt (a := 1) (by omega) (by omega)
          rw [if_pos c2]
theorem so_n_b (x : Int32) : 1 ≤ so_n x ∧ so_n x ≤ 64 := by
  unfold so_n
  split
  · omega
  · next a =>
    split
    · omega
    · next d =>
      have e0 : ¬ x < 0 := by
        have h1 : (1 : Int32).toInt = 1 := by decide
        have : (0 : Int32).toInt = 0 := by decide
        rw [Int32.lt_iff_toInt_lt] at a ⊢; omega
      obtain ⟨j, hj, rfl⟩ := nI_of e0
      rw [nI_clamp hj]
      have hj1 : ¬ j < 1 := fun q => a (nI_lt (b := 1) q (by omega))
      have hj2 : ¬ 64 < j := fun q => d (nI_lt (a := 64) q hj)
      omega
theorem d_init {hp : mj_H} {Q : mj_Q} {o : Nat} (x : Int32) (h : hp.1 o = some (.inr (3, [.int 0, .null, .null, .null, .null]))) (ho : hp.2.1 = o + 1) (hQ : ∀ hp' : mj_H, cl_at hp' o (so_n x, [], [], []) → hp'.2 = (o + 331, hp.2.2 + 25745) → (∀ q, q < o → hp'.1 q = hp.1 q) → Q none hp') : mj_call 3 [.ref o, .int x] hp Q := by
  have hn := so_n_b x
  have h64 : (Int32.ofInt 64) = 64 := rfl
  have e1 := so_n_e x
  generalize so_n x = n at hQ hn e1
  have nA : ∀ (e : va_E), (mj_up hp o e).2.1 = o + 1 := fun _ => ho
  rw [en_3]
  simp only [x_3_0, x_3_1, x_3_4, x_3_5, x_3_6, x_3_8, x_3_9, x_3_12, x_3_15, x_3_18, x_3_19, x_3_22, x_3_23, mw_nx, mw_no, mw_ite, mw_call, mw_ret, mw_cst, mw_ii, mw_i1, mw_ll, mw_l1, mw_li, mw_i2l, mw_l2i, mw_lcm, mw_if, mw_ic, mw_ifnN, mw_ifnR, mw_go, mw_dupi, mw_dupr, mw_popi, mw_popr, mw_nw, mw_rti, mw_rtl, mw_rtr, mw_rtn, mw_rtv, mw_rt0, mw_rt1, mj_ild, mj_lld, mj_ald, mj_ist, mj_lst, mj_ast, mj_inc, mj_iz, mj_get, mj_put, mj_len, mj_iar, mj_aar, mj_iaw, mj_aaw, mj_ivs, mj_ivv, mj_ivi, mj_ob, mj_tk, mj_cat, mj_st1, mj_st2, mj_clr, mj_nwi, mj_nwq, List.getElem?_cons_zero, List.getElem?_cons_succ, List.length_cons, List.length_nil, List.set_cons_zero, List.set_cons_succ, Value.category, decide_eq_true_eq, List.map_cons, List.map_nil, List.sum_cons, List.sum_nil, Option.toList, List.cons_append, List.nil_append, ite_true, ite_false, if_true, if_false, reduceCtorEq, true_and, and_true, narrow_i, narrow_l, narrow_r, narrow_n, fits_i, fits_l, fits_ro, fits_ra, fits_no, fits_na, Nat.reduceAdd, Nat.reduceLT, Nat.reduceLeDiff, Nat.reduceEqDiff, Nat.reduceSub, zero_add0, true_or, or_true, false_or, or_false, not_true_eq_false, not_false_eq_true, eq_self, i10, i01, im0, im1, c_min, c_max, e1, h, nA]
  refine c_initLine (by rw [← nA (.inr (3, [.int (nI n), .null, .null, .null, .null])), mj_push_at]) (by show hp.2.1 + 1 = _; rw [ho]) (fun hp1 l1 n1 q1 => ?_)
  have ho1 : hp1.1 o = some (.inr (3, [.int (nI n), .null, .null, .null, .null])) := by rw [q1 _ (by omega) (by omega), mj_push_off (by rw [nA]; omega), mj_up_at]
  have f1 : ∀ q, q < o → hp1.1 q = hp.1 q := fun q hq => by rw [q1 _ (by omega) (by omega), mj_push_off (by rw [nA]; omega), mj_up_off (by omega)]
  have c1 : hp1.2.2 = hp.2.2 + 133 := by rw [n1]; rfl
  have d1 : hp1.2.1 = o + 3 := by rw [n1]
  clear n1 q1
  have s1 : ∀ (e : va_E) (v : va_E) (k : Nat), (mj_push (mj_up hp1 o e) v k).1 o = some e := fun e v k => by rw [mj_push_off (by show o ≠ hp1.2.1; omega), mj_up_at]
  have t1 : ∀ (e : va_E), (mj_up hp1 o e).2.1 = o + 3 := fun _ => d1
  simp only [x_3_26, x_3_29, x_3_30, x_3_33, x_3_34, x_3_35, x_3_38, mw_nx, mw_no, mw_ite, mw_call, mw_ret, mw_cst, mw_ii, mw_i1, mw_ll, mw_l1, mw_li, mw_i2l, mw_l2i, mw_lcm, mw_if, mw_ic, mw_ifnN, mw_ifnR, mw_go, mw_dupi, mw_dupr, mw_popi, mw_popr, mw_nw, mw_rti, mw_rtl, mw_rtr, mw_rtn, mw_rtv, mw_rt0, mw_rt1, mj_ild, mj_lld, mj_ald, mj_ist, mj_lst, mj_ast, mj_inc, mj_iz, mj_get, mj_put, mj_len, mj_iar, mj_aar, mj_iaw, mj_aaw, mj_ivs, mj_ivv, mj_ivi, mj_ob, mj_tk, mj_cat, mj_st1, mj_st2, mj_clr, mj_nwi, mj_nwq, List.getElem?_cons_zero, List.getElem?_cons_succ, List.length_cons, List.length_nil, List.set_cons_zero, List.set_cons_succ, Value.category, decide_eq_true_eq, List.map_cons, List.map_nil, List.sum_cons, List.sum_nil, Option.toList, List.cons_append, List.nil_append, ite_true, ite_false, if_true, if_false, reduceCtorEq, true_and, and_true, narrow_i, narrow_l, narrow_r, narrow_n, fits_i, fits_l, fits_ro, fits_ra, fits_no, fits_na, Nat.reduceAdd, Nat.reduceLT, Nat.reduceLeDiff, Nat.reduceEqDiff, Nat.reduceSub, zero_add0, true_or, or_true, false_or, or_false, not_true_eq_false, not_false_eq_true, eq_self, i10, i01, im0, im1, ho1, t1, s1]
  refine c_initReader (by rw [← t1 (.inr (3, [.int (nI n), .ref (o + 1), .null, .null, .null])), mj_push_at]) (by show hp1.2.1 + 1 = _; rw [d1]) (fun hp2 l2 n2 q2 => ?_)
  have ho2 : hp2.1 o = some (.inr (3, [.int (nI n), .ref (o + 1), .null, .null, .null])) := by rw [q2 _ (by omega) (by omega), s1]
  have g2 : ∀ q, q < o + 3 → q ≠ o → hp2.1 q = hp1.1 q := fun q hq hq2 => by rw [q2 _ (by omega) (by omega), mj_push_off (by rw [t1]; omega), mj_up_off hq2]
  have c2 : hp2.2.2 = hp.2.2 + 4137 := by rw [n2]; show hp1.2.2 + 4 + 4000 = _; omega
  have d2 : hp2.2.1 = o + 5 := by rw [n2]
  clear n2 q2
  have s2 : ∀ (e : va_E) (v : va_E) (k : Nat), (mj_push (mj_up hp2 o e) v k).1 o = some e := fun e v k => by rw [mj_push_off (by show o ≠ hp2.2.1; omega), mj_up_at]
  have t2 : ∀ (e : va_E), (mj_up hp2 o e).2.1 = o + 5 := fun _ => d2
  simp only [x_3_41, x_3_44, x_3_45, x_3_48, x_3_49, x_3_50, x_3_53, mw_nx, mw_no, mw_ite, mw_call, mw_ret, mw_cst, mw_ii, mw_i1, mw_ll, mw_l1, mw_li, mw_i2l, mw_l2i, mw_lcm, mw_if, mw_ic, mw_ifnN, mw_ifnR, mw_go, mw_dupi, mw_dupr, mw_popi, mw_popr, mw_nw, mw_rti, mw_rtl, mw_rtr, mw_rtn, mw_rtv, mw_rt0, mw_rt1, mj_ild, mj_lld, mj_ald, mj_ist, mj_lst, mj_ast, mj_inc, mj_iz, mj_get, mj_put, mj_len, mj_iar, mj_aar, mj_iaw, mj_aaw, mj_ivs, mj_ivv, mj_ivi, mj_ob, mj_tk, mj_cat, mj_st1, mj_st2, mj_clr, mj_nwi, mj_nwq, List.getElem?_cons_zero, List.getElem?_cons_succ, List.length_cons, List.length_nil, List.set_cons_zero, List.set_cons_succ, Value.category, decide_eq_true_eq, List.map_cons, List.map_nil, List.sum_cons, List.sum_nil, Option.toList, List.cons_append, List.nil_append, ite_true, ite_false, if_true, if_false, reduceCtorEq, true_and, and_true, narrow_i, narrow_l, narrow_r, narrow_n, fits_i, fits_l, fits_ro, fits_ra, fits_no, fits_na, Nat.reduceAdd, Nat.reduceLT, Nat.reduceLeDiff, Nat.reduceEqDiff, Nat.reduceSub, zero_add0, true_or, or_true, false_or, or_false, not_true_eq_false, not_false_eq_true, eq_self, i10, i01, im0, im1, ho2, t2, s2]
  refine c_initProof (by rw [← t2 (.inr (3, [.int (nI n), .ref (o + 1), .ref (o + 3), .null, .null])), mj_push_at]) (by show hp2.2.1 + 1 = _; rw [d2]) (fun hp3 l3 n3 q3 => ?_)
  have ho3 : hp3.1 o = some (.inr (3, [.int (nI n), .ref (o + 1), .ref (o + 3), .null, .null])) := by rw [q3 _ (by omega), s2]
  have g3 : ∀ q, q < o + 5 → q ≠ o → hp3.1 q = hp2.1 q := fun q hq hq2 => by rw [q3 _ (by omega), mj_push_off (by rw [t2]; omega), mj_up_off hq2]
  have c3 : hp3.2.2 = hp.2.2 + 14941 := by rw [n3]; show hp2.2.2 + 4 + (160 + 80 * 133) = _; omega
  have d3 : hp3.2.1 = o + 168 := by rw [n3]
  clear n3 q3
  have s3 : ∀ (e : va_E) (v : va_E) (k : Nat), (mj_push (mj_up hp3 o e) v k).1 o = some e := fun e v k => by rw [mj_push_off (by show o ≠ hp3.2.1; omega), mj_up_at]
  have t3 : ∀ (e : va_E), (mj_up hp3 o e).2.1 = o + 168 := fun _ => d3
  simp only [x_3_56, x_3_59, x_3_60, x_3_63, x_3_64, x_3_65, x_3_68, mw_nx, mw_no, mw_ite, mw_call, mw_ret, mw_cst, mw_ii, mw_i1, mw_ll, mw_l1, mw_li, mw_i2l, mw_l2i, mw_lcm, mw_if, mw_ic, mw_ifnN, mw_ifnR, mw_go, mw_dupi, mw_dupr, mw_popi, mw_popr, mw_nw, mw_rti, mw_rtl, mw_rtr, mw_rtn, mw_rtv, mw_rt0, mw_rt1, mj_ild, mj_lld, mj_ald, mj_ist, mj_lst, mj_ast, mj_inc, mj_iz, mj_get, mj_put, mj_len, mj_iar, mj_aar, mj_iaw, mj_aaw, mj_ivs, mj_ivv, mj_ivi, mj_ob, mj_tk, mj_cat, mj_st1, mj_st2, mj_clr, mj_nwi, mj_nwq, List.getElem?_cons_zero, List.getElem?_cons_succ, List.length_cons, List.length_nil, List.set_cons_zero, List.set_cons_succ, Value.category, decide_eq_true_eq, List.map_cons, List.map_nil, List.sum_cons, List.sum_nil, Option.toList, List.cons_append, List.nil_append, ite_true, ite_false, if_true, if_false, reduceCtorEq, true_and, and_true, narrow_i, narrow_l, narrow_r, narrow_n, fits_i, fits_l, fits_ro, fits_ra, fits_no, fits_na, Nat.reduceAdd, Nat.reduceLT, Nat.reduceLeDiff, Nat.reduceEqDiff, Nat.reduceSub, zero_add0, true_or, or_true, false_or, or_false, not_true_eq_false, not_false_eq_true, eq_self, i10, i01, im0, im1, ho3, t3, s3]
  refine c_initProof (by rw [← t3 (.inr (3, [.int (nI n), .ref (o + 1), .ref (o + 3), .ref (o + 5), .null])), mj_push_at]) (by show hp3.2.1 + 1 = _; rw [d3]) (fun hp4 l4 n4 q4 => ?_)
  have ho4 : hp4.1 o = some (.inr (3, [.int (nI n), .ref (o + 1), .ref (o + 3), .ref (o + 5), .null])) := by rw [q4 _ (by omega), s3]
  have g4 : ∀ q, q < o + 168 → q ≠ o → hp4.1 q = hp3.1 q := fun q hq hq2 => by rw [q4 _ (by omega), mj_push_off (by rw [t3]; omega), mj_up_off hq2]
  simp only [x_3_71, x_3_74, mw_nx, mw_no, mw_ite, mw_call, mw_ret, mw_cst, mw_ii, mw_i1, mw_ll, mw_l1, mw_li, mw_i2l, mw_l2i, mw_lcm, mw_if, mw_ic, mw_ifnN, mw_ifnR, mw_go, mw_dupi, mw_dupr, mw_popi, mw_popr, mw_nw, mw_rti, mw_rtl, mw_rtr, mw_rtn, mw_rtv, mw_rt0, mw_rt1, mj_ild, mj_lld, mj_ald, mj_ist, mj_lst, mj_ast, mj_inc, mj_iz, mj_get, mj_put, mj_len, mj_iar, mj_aar, mj_iaw, mj_aaw, mj_ivs, mj_ivv, mj_ivi, mj_ob, mj_tk, mj_cat, mj_st1, mj_st2, mj_clr, mj_nwi, mj_nwq, List.getElem?_cons_zero, List.getElem?_cons_succ, List.length_cons, List.length_nil, List.set_cons_zero, List.set_cons_succ, Value.category, decide_eq_true_eq, List.map_cons, List.map_nil, List.sum_cons, List.sum_nil, Option.toList, List.cons_append, List.nil_append, ite_true, ite_false, if_true, if_false, reduceCtorEq, true_and, and_true, narrow_i, narrow_l, narrow_r, narrow_n, fits_i, fits_l, fits_ro, fits_ra, fits_no, fits_na, Nat.reduceAdd, Nat.reduceLT, Nat.reduceLeDiff, Nat.reduceEqDiff, Nat.reduceSub, zero_add0, true_or, or_true, false_or, or_false, not_true_eq_false, not_false_eq_true, eq_self, i10, i01, im0, im1, ho4]
  refine hQ _ ⟨o + 5, o + 168, Or.inl ⟨rfl, rfl⟩, hn, mj_up_at, ⟨0, by omega, ?_⟩, fun c hc => absurd hc List.not_mem_nil, ⟨0, ?_⟩, ?_, ?_⟩ ?_ ?_
  · refine l1.keep ?_ ?_
    · rw [mj_up_off (by omega), g4 _ (by omega) (by omega), g3 _ (by omega) (by omega), g2 _ (by omega) (by omega)]
    · rw [mj_up_off (by omega), g4 _ (by omega) (by omega), g3 _ (by omega) (by omega), g2 _ (by omega) (by omega)]
  · refine l2.keep ?_ ?_
    · rw [mj_up_off (by omega), g4 _ (by omega) (by omega), g3 _ (by omega) (by omega)]
    · rw [mj_up_off (by omega), g4 _ (by omega) (by omega), g3 _ (by omega) (by omega)]
  · obtain ⟨ρ, g, π, C, a1, a2, a3⟩ := l3
    refine ⟨ρ, g, π, C, ⟨?_, ?_, ?_⟩, ⟨fun j hj => ?_, a2.2⟩, a3⟩
    · rw [mj_up_off (by omega), g4 _ (by omega) (by omega)]; exact a1.1
    · rw [mj_up_off (by omega), g4 _ (by omega) (by omega)]; exact a1.2.1
    · rw [mj_up_off (by omega), g4 _ (by omega) (by omega)]; exact a1.2.2
    · obtain ⟨b1, b2, b3⟩ := a2.1 j hj
      exact ⟨b1, b2, b3.keep (by rw [mj_up_off (by omega), g4 _ (by omega) (by omega)]) (by rw [mj_up_off (by omega), g4 _ (by omega) (by omega)])⟩
  · exact (l4.sm (sm.up (hp := hp4) (lo := o) (hi := o + 1) (a := o) (by omega) (by omega)) (by omega)).sr
  · show hp4.2 = _
    rw [n4]
    refine Prod.ext (by show o + 168 + 163 = _; omega) ?_
    show hp3.2.2 + 4 + (160 + 80 * 133) = _; omega
  · intro q hq
    rw [mj_up_off (by omega), g4 _ (by omega) (by omega), g3 _ (by omega) (by omega), g2 _ (by omega) (by omega), f1 q hq]
