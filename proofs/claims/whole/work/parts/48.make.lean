/-! The class: how its objects come to be -/
/-- cells from a up to b came, with these slots; nothing ahead of a changed -/
def al (hp hp' : mj_H) (a b k : Nat) : Prop := hp'.2 = (b, hp.2.2 + k) ∧ ∀ q, q < a → hp'.1 q = hp.1 q
theorem add_0 (x : Nat) : x + 0 = x := rfl
section MK
variable {hp : mj_H} {Q : mj_Q}
theorem c_initLine {a : Nat} (h : hp.1 a = some (.inr (0, [.null, .int 0, .int 0, .long 0, .long 0]))) (ha : hp.2.1 = a + 1) (hQ : ∀ hp' : mj_H, ln_at hp' a (0, []) → hp'.2 = (a + 2, hp.2.2 + 128) → (∀ q, q ≠ a → q ≠ a + 1 → hp'.1 q = hp.1 q) → Q none hp') : mj_call 25 [.ref a] hp Q := by
  have z : ((128 : Int32) < 0) = False := by decide
  have z1 : (128 : Int32).toNatClampNeg = 128 := by decide
  have z2 : (65536 < 128) = False := by decide
  have hne : a ≠ hp.2.1 := by omega
  have o1 : ∀ (e : va_E) (k : Nat), (mj_push hp e k).1 a = hp.1 a := fun e k => mj_push_off hne
  rw [en_25]
  simp only [x_25_0, x_25_1, x_25_4, x_25_5, x_25_8, x_25_10, x_25_13, mw_nx, mw_no, mw_ite, mw_call, mw_ret, mw_cst, mw_ii, mw_i1, mw_ll, mw_l1, mw_li, mw_i2l, mw_l2i, mw_lcm, mw_if, mw_ic, mw_ifnN, mw_ifnR, mw_go, mw_dupi, mw_dupr, mw_popi, mw_popr, mw_nw, mw_rti, mw_rtl, mw_rtr, mw_rtn, mw_rtv, mw_rt0, mw_rt1, mj_ild, mj_lld, mj_ald, mj_ist, mj_lst, mj_ast, mj_inc, mj_iz, mj_get, mj_put, mj_len, mj_iar, mj_aar, mj_iaw, mj_aaw, mj_ivs, mj_ivv, mj_ivi, mj_ob, mj_tk, mj_cat, mj_st1, mj_st2, mj_clr, mj_nwi, mj_nwq, List.getElem?_cons_zero, List.getElem?_cons_succ, List.length_cons, List.length_nil, List.set_cons_zero, List.set_cons_succ, Value.category, decide_eq_true_eq, List.map_cons, List.map_nil, List.sum_cons, List.sum_nil, Option.toList, List.cons_append, List.nil_append, ite_true, ite_false, if_true, if_false, reduceCtorEq, true_and, and_true, narrow_i, narrow_l, narrow_r, narrow_n, fits_i, fits_l, fits_ro, fits_ra, fits_no, fits_na, Nat.reduceAdd, Nat.reduceLT, Nat.reduceLeDiff, Nat.reduceEqDiff, Nat.reduceSub, zero_add0, true_or, or_true, false_or, or_false, not_true_eq_false, not_false_eq_true, eq_self, i10, i01, im0, im1, z, z1, z2, o1, h, ha]
  refine hQ _ ⟨fun _ => 0, 0, 0, by rw [mj_up_at]; rfl, ?_, ⟨fun i hi => by simp at hi, fun i => by rw [lb_0]; simp, fun i => by rw [lb_0]; simp⟩, ⟨List.nodup_nil, fun c hc => absurd hc List.not_mem_nil⟩, by decide⟩ ?_ (fun q h1 h2 => ?_)
  · rw [mj_up_off (by omega), ← ha, mj_push_at]
  · show (hp.2.1 + 1, hp.2.2 + 128) = _
    rw [ha]
  · rw [mj_up_off h1, mj_push_off (by omega)]
theorem c_initReader {a n : Nat} (h : hp.1 a = some (.inr (2, [.int 0, .null, .int 0, .int 0]))) (ha : hp.2.1 = a + 1) (hQ : ∀ hp' : mj_H, re_at hp' a n [] 0 → hp'.2 = (a + 2, hp.2.2 + 4000) → (∀ q, q ≠ a → q ≠ a + 1 → hp'.1 q = hp.1 q) → Q none hp') : mj_call 64 [.ref a, .int (nI n)] hp Q := by
  have z : ((4000 : Int32) < 0) = False := by decide
  have z1 : (4000 : Int32).toNatClampNeg = 4000 := by decide
  have z2 : (65536 < 4000) = False := by decide
  have hne : a ≠ hp.2.1 := by omega
  have o1 : ∀ (h : mj_H) (e : va_E) (k : Nat), h.2.1 = a + 1 → (mj_push h e k).1 a = h.1 a := fun h e k q => mj_push_off (by omega)
  have o2 : ∀ (e : va_E), (mj_up hp a e).2.1 = a + 1 := fun _ => ha
  rw [en_64]
  simp only [x_64_0, x_64_1, x_64_4, x_64_5, x_64_6, x_64_9, x_64_10, x_64_13, x_64_15, x_64_18, mw_nx, mw_no, mw_ite, mw_call, mw_ret, mw_cst, mw_ii, mw_i1, mw_ll, mw_l1, mw_li, mw_i2l, mw_l2i, mw_lcm, mw_if, mw_ic, mw_ifnN, mw_ifnR, mw_go, mw_dupi, mw_dupr, mw_popi, mw_popr, mw_nw, mw_rti, mw_rtl, mw_rtr, mw_rtn, mw_rtv, mw_rt0, mw_rt1, mj_ild, mj_lld, mj_ald, mj_ist, mj_lst, mj_ast, mj_inc, mj_iz, mj_get, mj_put, mj_len, mj_iar, mj_aar, mj_iaw, mj_aaw, mj_ivs, mj_ivv, mj_ivi, mj_ob, mj_tk, mj_cat, mj_st1, mj_st2, mj_clr, mj_nwi, mj_nwq, List.getElem?_cons_zero, List.getElem?_cons_succ, List.length_cons, List.length_nil, List.set_cons_zero, List.set_cons_succ, Value.category, decide_eq_true_eq, List.map_cons, List.map_nil, List.sum_cons, List.sum_nil, Option.toList, List.cons_append, List.nil_append, ite_true, ite_false, if_true, if_false, reduceCtorEq, true_and, and_true, narrow_i, narrow_l, narrow_r, narrow_n, fits_i, fits_l, fits_ro, fits_ra, fits_no, fits_na, Nat.reduceAdd, Nat.reduceLT, Nat.reduceLeDiff, Nat.reduceEqDiff, Nat.reduceSub, zero_add0, true_or, or_true, false_or, or_false, not_true_eq_false, not_false_eq_true, eq_self, i10, i01, im0, im1, z, z1, z2, h, mj_up_at, o1 _ _ _ (o2 _), o2]
  refine hQ _ ⟨by rw [mj_up_at]; rfl, fun _ => 0, ?_, fun j hj => by simp at hj, by simp, fun c hc => absurd hc List.not_mem_nil⟩ ?_ (fun q h1 h2 => ?_)
  · rw [mj_up_off (by omega), ← o2 (.inr (2, [.int (nI n), .null, .int 0, .int 0])), mj_push_at]
  · show (hp.2.1 + 1, hp.2.2 + 4000) = _
    rw [ha]
  · rw [mj_up_off h1, mj_push_off (by rw [o2]; omega), mj_up_off h1]
theorem nw_line {m n : Nat} {L : mj_L} {st : List Value} {hp : mj_H} {Q : mj_Q} {ci N : Nat} {fs : List Value} : mj_wpR m L hp Q (mj_nw ci N fs n L st hp) = mj_wp m n L (.ref hp.2.1 :: st) (mj_push hp (.inr (ci, fs)) N) Q := rfl
theorem c_initProof {a n : Nat} (h : hp.1 a = some (.inr (1, [.int 0, .null, .null, .int 0]))) (ha : hp.2.1 = a + 1) (hQ : ∀ hp' : mj_H, pr_at hp' a n [] → hp'.2 = (a + 163, hp.2.2 + (160 + 80 * 133)) → (∀ q, q < a → hp'.1 q = hp.1 q) → Q none hp') : mj_call 47 [.ref a, .int (nI n)] hp Q := by
  have z : ((80 : Int32) < 0) = False := by decide
  have z1 : (80 : Int32).toNatClampNeg = 80 := by decide
  have z2 : (65536 < 80) = False := by decide
  have key : ∀ (d i : Nat) (ρ : Nat → Option Nat) (hp1 : mj_H), i + d = 80 → hp1.2 = (a + 3 + 2 * i, hp.2.2 + (160 + i * 133)) → (∀ q, q < a → hp1.1 q = hp.1 q) → hp1.1 a = some (pf_o a n 0) → hp1.1 (a + 1) = some (pf_q ρ) → hp1.1 (a + 2) = some (pf_z (fun _ => 0)) → (∀ j, j < i → ρ j = some (a + 3 + 2 * j) ∧ ln_at hp1 (a + 3 + 2 * j) (0, [])) → mj_wp 47 28 [some (.ref a), some (.int (nI n)), some (.int (nI i))] [] hp1 Q := by
    intro d
    induction d with
    | zero =>
      intro i ρ hp1 hi h2 hq r1 r2 r3 hl
      obtain rfl : i = 80 := by omega
      have e1 : (80 : Int32) ≤ nI 80 := by decide
      rw [x_47_28]
      simp only [x_47_29, x_47_31, x_47_53, mw_nx, mw_no, mw_ite, mw_call, mw_ret, mw_cst, mw_ii, mw_i1, mw_ll, mw_l1, mw_li, mw_i2l, mw_l2i, mw_lcm, mw_if, mw_ic, mw_ifnN, mw_ifnR, mw_go, mw_dupi, mw_dupr, mw_popi, mw_popr, mw_nw, mw_rti, mw_rtl, mw_rtr, mw_rtn, mw_rtv, mw_rt0, mw_rt1, mj_ild, mj_lld, mj_ald, mj_ist, mj_lst, mj_ast, mj_inc, mj_iz, mj_get, mj_put, mj_len, mj_iar, mj_aar, mj_iaw, mj_aaw, mj_ivs, mj_ivv, mj_ivi, mj_ob, mj_tk, mj_cat, mj_st1, mj_st2, mj_clr, mj_nwi, mj_nwq, List.getElem?_cons_zero, List.getElem?_cons_succ, List.length_cons, List.length_nil, List.set_cons_zero, List.set_cons_succ, Value.category, decide_eq_true_eq, List.map_cons, List.map_nil, List.sum_cons, List.sum_nil, Option.toList, List.cons_append, List.nil_append, ite_true, ite_false, if_true, if_false, reduceCtorEq, true_and, and_true, narrow_i, narrow_l, narrow_r, narrow_n, fits_i, fits_l, fits_ro, fits_ra, fits_no, fits_na, Nat.reduceAdd, Nat.reduceLT, Nat.reduceLeDiff, Nat.reduceEqDiff, Nat.reduceSub, zero_add0, true_or, or_true, false_or, or_false, not_true_eq_false, not_false_eq_true, eq_self, i10, i01, im0, im1, e1]
      refine hQ hp1 ⟨ρ, _, fun j => j, fun _ => (0, []), ⟨r1, r2, r3⟩, ⟨fun j hj => ⟨hj, (hl j hj).1, (hl j hj).2⟩, fun i j _ _ q => q⟩, rfl, by simp, fun l hl => absurd hl List.not_mem_nil⟩ h2 hq
    | succ d ih =>
      intro i ρ hp1 hi h2 hq r1 r2 r3 hl
      have e1 : ¬ (80 : Int32) ≤ nI i := nI_ge (b := 80) (by omega) (by omega)
      have hn1 : hp1.2.1 = a + 3 + 2 * i := by rw [h2]
      rw [x_47_28]
      simp only [x_47_29, x_47_31, x_47_34, x_47_35, x_47_38, x_47_39, x_47_42, x_47_43, mw_nx, mw_no, mw_ite, mw_call, mw_ret, mw_cst, mw_ii, mw_i1, mw_ll, mw_l1, mw_li, mw_i2l, mw_l2i, mw_lcm, mw_if, mw_ic, mw_ifnN, mw_ifnR, mw_go, mw_dupi, mw_dupr, mw_popi, mw_popr, mw_nw, mw_rti, mw_rtl, mw_rtr, mw_rtn, mw_rtv, mw_rt0, mw_rt1, mj_ild, mj_lld, mj_ald, mj_ist, mj_lst, mj_ast, mj_inc, mj_iz, mj_get, mj_put, mj_len, mj_iar, mj_aar, mj_iaw, mj_aaw, mj_ivs, mj_ivv, mj_ivi, mj_ob, mj_tk, mj_cat, mj_st1, mj_st2, mj_clr, mj_nwi, mj_nwq, List.getElem?_cons_zero, List.getElem?_cons_succ, List.length_cons, List.length_nil, List.set_cons_zero, List.set_cons_succ, Value.category, decide_eq_true_eq, List.map_cons, List.map_nil, List.sum_cons, List.sum_nil, Option.toList, List.cons_append, List.nil_append, ite_true, ite_false, if_true, if_false, reduceCtorEq, true_and, and_true, narrow_i, narrow_l, narrow_r, narrow_n, fits_i, fits_l, fits_ro, fits_ra, fits_no, fits_na, Nat.reduceAdd, Nat.reduceLT, Nat.reduceLeDiff, Nat.reduceEqDiff, Nat.reduceSub, zero_add0, true_or, or_true, false_or, or_false, not_true_eq_false, not_false_eq_true, eq_self, i10, i01, im0, im1, e1, r1, hn1]
      have pu : ∀ (e : va_E) (k q : Nat), q ≠ a + 3 + 2 * i → (mj_push hp1 e k).1 q = hp1.1 q := fun e k q h => mj_push_off (by rw [hn1]; exact h)
      refine c_initLine (by rw [← hn1, mj_push_at]) (by show hp1.2.1 + 1 = _; rw [hn1]) (fun hp2 l2 n2 q2 => ?_)
      have l3 := l2
      obtain ⟨f, t, u, b1, -⟩ := l3
      have r2' : hp2.1 (a + 1) = some (pf_q ρ) := by rw [q2 _ (by omega) (by omega), pu _ _ _ (by omega)]; exact r2
      have zi : (nI i < 0) = False := eq_false (nI_pos (by omega))
      have zi1 : (nI i).toNatClampNeg = i := nI_clamp (by omega)
      have zi2 : (80 ≤ i) = False := eq_false (by omega)
      simp only [x_47_46, x_47_47, x_47_50, mw_nx, mw_no, mw_ite, mw_call, mw_ret, mw_cst, mw_ii, mw_i1, mw_ll, mw_l1, mw_li, mw_i2l, mw_l2i, mw_lcm, mw_if, mw_ic, mw_ifnN, mw_ifnR, mw_go, mw_dupi, mw_dupr, mw_popi, mw_popr, mw_nw, mw_rti, mw_rtl, mw_rtr, mw_rtn, mw_rtv, mw_rt0, mw_rt1, mj_ild, mj_lld, mj_ald, mj_ist, mj_lst, mj_ast, mj_inc, mj_iz, mj_get, mj_put, mj_len, mj_iar, mj_aar, mj_iaw, mj_aaw, mj_ivs, mj_ivv, mj_ivi, mj_ob, mj_tk, mj_cat, mj_st1, mj_st2, mj_clr, mj_nwi, mj_nwq, List.getElem?_cons_zero, List.getElem?_cons_succ, List.length_cons, List.length_nil, List.set_cons_zero, List.set_cons_succ, Value.category, decide_eq_true_eq, List.map_cons, List.map_nil, List.sum_cons, List.sum_nil, Option.toList, List.cons_append, List.nil_append, ite_true, ite_false, if_true, if_false, reduceCtorEq, true_and, and_true, narrow_i, narrow_l, narrow_r, narrow_n, fits_i, fits_l, fits_ro, fits_ra, fits_no, fits_na, Nat.reduceAdd, Nat.reduceLT, Nat.reduceLeDiff, Nat.reduceEqDiff, Nat.reduceSub, zero_add0, true_or, or_true, false_or, or_false, not_true_eq_false, not_false_eq_true, eq_self, i10, i01, im0, im1, r2', b1, at_2, cl_0, zi, zi1, zi2, Option.map_some, Option.isSome_some, nI_1]
      refine ih (i + 1) (va_up ρ i (some (a + 3 + 2 * i))) _ (by omega) ?_ ?_ ?_ mj_up_at ?_ ?_
      · show hp2.2 = _
        rw [n2]
        refine Prod.ext ?_ ?_
        · show a + 3 + 2 * i + 2 = _; omega
        · show hp1.2.2 + 5 + 128 = _
          rw [h2]; show hp.2.2 + (160 + i * 133) + 5 + 128 = _; omega
      · intro q hqa
        rw [mj_up_off (by omega), q2 _ (by omega) (by omega), pu _ _ _ (by omega)]
        exact hq q hqa
      · rw [mj_up_off (by omega), q2 _ (by omega) (by omega), pu _ _ _ (by omega)]; exact r1
      · rw [mj_up_off (by omega), q2 _ (by omega) (by omega), pu _ _ _ (by omega)]; exact r3
      · intro j hj
        by_cases hji : j = i
        · subst hji
          refine ⟨va_up_self _ _ _, ?_⟩
          exact l2.keep (mj_up_off (by omega)) (mj_up_off (by omega))
        · rw [va_up_ne _ _ hji]
          obtain ⟨m1, m2⟩ := hl j (by omega)
          exact ⟨m1, m2.keep (by rw [mj_up_off (by omega), q2 _ (by omega) (by omega), pu _ _ _ (by omega)]) (by rw [mj_up_off (by omega), q2 _ (by omega) (by omega), pu _ _ _ (by omega)])⟩
  have o1 : ∀ (h : mj_H) (e : va_E) (k : Nat), a < h.2.1 → (mj_push h e k).1 a = h.1 a := fun h e k q => mj_push_off (by omega)
  rw [en_47]
  have nA : ∀ (e : va_E), (mj_up hp a e).2.1 = a + 1 := fun _ => ha
  have s1 : ∀ (e e' : va_E) (k : Nat), (mj_push (mj_up hp a e) e' k).1 a = some e := fun e e' k => by rw [mj_push_off (by rw [nA]; omega), mj_up_at]
  have nB : ∀ (e e' e2 : va_E) (k : Nat), (mj_up (mj_push (mj_up hp a e) e' k) a e2).2.1 = a + 2 := fun e e' e2 k => by show hp.2.1 + 1 = _; omega
  have s2 : ∀ (e e' e2 e3 : va_E) (k k2 : Nat), (mj_push (mj_up (mj_push (mj_up hp a e) e' k) a e2) e3 k2).1 a = some e2 := fun e e' e2 e3 k k2 => by rw [mj_push_off (by rw [nB]; omega), mj_up_at]
  simp only [x_47_0, x_47_1, x_47_4, x_47_5, x_47_6, x_47_9, x_47_10, x_47_12, x_47_15, x_47_18, x_47_19, x_47_21, x_47_23, x_47_26, x_47_27, mw_nx, mw_no, mw_ite, mw_call, mw_ret, mw_cst, mw_ii, mw_i1, mw_ll, mw_l1, mw_li, mw_i2l, mw_l2i, mw_lcm, mw_if, mw_ic, mw_ifnN, mw_ifnR, mw_go, mw_dupi, mw_dupr, mw_popi, mw_popr, mw_nw, mw_rti, mw_rtl, mw_rtr, mw_rtn, mw_rtv, mw_rt0, mw_rt1, mj_ild, mj_lld, mj_ald, mj_ist, mj_lst, mj_ast, mj_inc, mj_iz, mj_get, mj_put, mj_len, mj_iar, mj_aar, mj_iaw, mj_aaw, mj_ivs, mj_ivv, mj_ivi, mj_ob, mj_tk, mj_cat, mj_st1, mj_st2, mj_clr, mj_nwi, mj_nwq, List.getElem?_cons_zero, List.getElem?_cons_succ, List.length_cons, List.length_nil, List.set_cons_zero, List.set_cons_succ, Value.category, decide_eq_true_eq, List.map_cons, List.map_nil, List.sum_cons, List.sum_nil, Option.toList, List.cons_append, List.nil_append, ite_true, ite_false, if_true, if_false, reduceCtorEq, true_and, and_true, narrow_i, narrow_l, narrow_r, narrow_n, fits_i, fits_l, fits_ro, fits_ra, fits_no, fits_na, Nat.reduceAdd, Nat.reduceLT, Nat.reduceLeDiff, Nat.reduceEqDiff, Nat.reduceSub, zero_add0, true_or, or_true, false_or, or_false, not_true_eq_false, not_false_eq_true, eq_self, i10, i01, im0, im1, z, z1, z2, h, s1, nA, nB, s2]
  refine key 80 0 (fun _ => none) _ rfl ?_ ?_ ?_ ?_ ?_ (fun j hj => absurd hj (by omega))
  · show (hp.2.1 + 1 + 1, hp.2.2 + 80 + 80) = _
    rw [ha]
  · intro q hq
    rw [mj_up_off (by omega), mj_push_off (by rw [nB]; omega), mj_up_off (by omega), mj_push_off (by rw [nA]; omega), mj_up_off (by omega)]
  · rw [mj_up_at]; rfl
  · rw [mj_up_off (by omega), mj_push_off (by rw [nB]; omega), mj_up_off (by omega), ← nA (.inr (1, [.int (nI n), .null, .null, .int 0])), mj_push_at]
  · rw [mj_up_off (by omega)]
    rw [← nB (.inr (1, [.int (nI n), .null, .null, .int 0])) (.inl (2, 80, .inr (.inr (.inr (.inr (fun _ => none)))))) (.inr (1, [.int (nI n), .ref (a + 1), .null, .int 0])) 80, mj_push_at]
end MK
