/-! The law -/
theorem pr_at.keep {hp hp' : mj_H} {P n : Nat} {ls : List sp_Ln} (h : pr_at hp P n ls) (hc : ∀ q, P ≤ q → q < P + 163 → hp'.1 q = hp.1 q) : pr_at hp' P n ls := by
  obtain ⟨ρ, g, π, C, a1, a2, a3⟩ := h
  refine ⟨ρ, g, π, C, ⟨(hc _ (by omega) (by omega)).trans a1.1, (hc _ (by omega) (by omega)).trans a1.2.1, (hc _ (by omega) (by omega)).trans a1.2.2⟩, ⟨fun j hj => ?_, a2.2⟩, a3⟩
  obtain ⟨b1, b2, b3⟩ := a2.1 j hj
  exact ⟨b1, b2, b3.keep (hc _ (by omega) (by omega)) (hc _ (by omega) (by omega))⟩
theorem sr_at.keep {hp hp' : mj_H} {P n : Nat} (h : sr_at hp P n) (hc : ∀ q, P ≤ q → q < P + 163 → hp'.1 q = hp.1 q) : sr_at hp' P n := by
  obtain ⟨ρ, g, π, C, k, a1, a2, a3⟩ := h
  refine ⟨ρ, g, π, C, k, ⟨(hc _ (by omega) (by omega)).trans a1.1, (hc _ (by omega) (by omega)).trans a1.2.1, (hc _ (by omega) (by omega)).trans a1.2.2⟩, ⟨fun j hj => ?_, a2.2⟩, a3⟩
  obtain ⟨b1, b2, b3⟩ := a2.1 j hj
  exact ⟨b1, b2, b3.keep (hc _ (by omega) (by omega)) (hc _ (by omega) (by omega))⟩
theorem cl_at.keep {hp hp' : mj_H} {o : Nat} {s : sp_S} (h : cl_at hp o s) (hc : ∀ q, o ≤ q → q < o + 331 → hp'.1 q = hp.1 q) : cl_at hp' o s := by
  obtain ⟨P, S, h0, h1, h2, ⟨kc, h3, h4⟩, h5, ⟨p, h6⟩, h7, h8⟩ := h
  exact ⟨P, S, h0, h1, (hc _ (by omega) (by omega)).trans h2, ⟨kc, h3, h4.keep (hc _ (by omega) (by omega)) (hc _ (by omega) (by omega))⟩, h5, ⟨p, h6.keep (hc _ (by omega) (by omega)) (hc _ (by omega) (by omega))⟩, h7.keep (fun q _ _ => hc q (by omega) (by omega)), h8.keep (fun q _ _ => hc q (by omega) (by omega))⟩
theorem mo_at.keep {hp hp' : mj_H} {M : Nat} {s : sp_S} (h : mo_at hp M s) (hc : ∀ q, M ≤ q → q < M + 8 → hp'.1 q = hp.1 q) : mo_at hp' M s := by
  obtain ⟨h0, a, b, t, C, h1, h2, h3, h4, h5, h6, h7, h8, h9⟩ := h
  exact ⟨h0, a, b, t, C, (hc _ (by omega) (by omega)).trans h1, h2.keep (hc _ (by omega) (by omega)) (hc _ (by omega) (by omega)) (hc _ (by omega) (by omega)), h3, h4, h5, h6.keep (hc _ (by omega) (by omega)), h7, h8.keep (hc _ (by omega) (by omega)), h9.keep (hc _ (by omega) (by omega)) (hc _ (by omega) (by omega))⟩
theorem cl_at.ob {hp : mj_H} {o : Nat} {s : sp_S} (h : cl_at hp o s) : ∃ fs, hp.1 o = some (.inr (3, fs)) := by
  obtain ⟨P, S, -, -, h2, -⟩ := h
  exact ⟨_, h2⟩
theorem mo_at.ob {hp : mj_H} {M : Nat} {s : sp_S} (h : mo_at hp M s) : ∃ fs, hp.1 M = some (.inr (4, fs)) := by
  obtain ⟨-, a, b, t, C, h1, -⟩ := h
  exact ⟨_, h1⟩
theorem h99a : (mj_at[99]? = some FieldType.int) = False := eq_false (by decide)
theorem h99b : ((99 : Nat) = mj_tag) = True := eq_true rfl
theorem lw_and (x : Int32) : ∃ n, n < 16 ∧ x &&& 15 = nI n := by
  refine ⟨x.toBitVec.toNat % 16, by omega, ?_⟩
  apply Int32.toBitVec_inj.mp
  apply BitVec.eq_of_toNat_eq
  have h1 : (x &&& 15).toBitVec.toNat = x.toBitVec.toNat &&& (2 ^ 4 - 1) := rfl
  rw [h1, Nat.and_two_pow_sub_one_eq_mod]
  show _ = (BitVec.ofNat 32 (x.toBitVec.toNat % 16)).toNat
  rw [BitVec.toNat_ofNat]
  omega
theorem sw_0 {L : mj_L} {st : List Value} {hp : mj_H} {Q : mj_Q} : mj_wpR 119 L hp Q (mj_tsw 0 15 536 [120, 133, 192, 241, 254, 277, 290, 349, 362, 375, 408, 421, 444, 477, 500, 523] L (.int (nI 0) :: st) hp) = mj_wp 119 120 L st hp Q := rfl
theorem sw_1 {L : mj_L} {st : List Value} {hp : mj_H} {Q : mj_Q} : mj_wpR 119 L hp Q (mj_tsw 0 15 536 [120, 133, 192, 241, 254, 277, 290, 349, 362, 375, 408, 421, 444, 477, 500, 523] L (.int (nI 1) :: st) hp) = mj_wp 119 133 L st hp Q := rfl
theorem sw_2 {L : mj_L} {st : List Value} {hp : mj_H} {Q : mj_Q} : mj_wpR 119 L hp Q (mj_tsw 0 15 536 [120, 133, 192, 241, 254, 277, 290, 349, 362, 375, 408, 421, 444, 477, 500, 523] L (.int (nI 2) :: st) hp) = mj_wp 119 192 L st hp Q := rfl
theorem sw_3 {L : mj_L} {st : List Value} {hp : mj_H} {Q : mj_Q} : mj_wpR 119 L hp Q (mj_tsw 0 15 536 [120, 133, 192, 241, 254, 277, 290, 349, 362, 375, 408, 421, 444, 477, 500, 523] L (.int (nI 3) :: st) hp) = mj_wp 119 241 L st hp Q := rfl
theorem sw_4 {L : mj_L} {st : List Value} {hp : mj_H} {Q : mj_Q} : mj_wpR 119 L hp Q (mj_tsw 0 15 536 [120, 133, 192, 241, 254, 277, 290, 349, 362, 375, 408, 421, 444, 477, 500, 523] L (.int (nI 4) :: st) hp) = mj_wp 119 254 L st hp Q := rfl
theorem sw_5 {L : mj_L} {st : List Value} {hp : mj_H} {Q : mj_Q} : mj_wpR 119 L hp Q (mj_tsw 0 15 536 [120, 133, 192, 241, 254, 277, 290, 349, 362, 375, 408, 421, 444, 477, 500, 523] L (.int (nI 5) :: st) hp) = mj_wp 119 277 L st hp Q := rfl
theorem sw_6 {L : mj_L} {st : List Value} {hp : mj_H} {Q : mj_Q} : mj_wpR 119 L hp Q (mj_tsw 0 15 536 [120, 133, 192, 241, 254, 277, 290, 349, 362, 375, 408, 421, 444, 477, 500, 523] L (.int (nI 6) :: st) hp) = mj_wp 119 290 L st hp Q := rfl
theorem sw_7 {L : mj_L} {st : List Value} {hp : mj_H} {Q : mj_Q} : mj_wpR 119 L hp Q (mj_tsw 0 15 536 [120, 133, 192, 241, 254, 277, 290, 349, 362, 375, 408, 421, 444, 477, 500, 523] L (.int (nI 7) :: st) hp) = mj_wp 119 349 L st hp Q := rfl
theorem sw_8 {L : mj_L} {st : List Value} {hp : mj_H} {Q : mj_Q} : mj_wpR 119 L hp Q (mj_tsw 0 15 536 [120, 133, 192, 241, 254, 277, 290, 349, 362, 375, 408, 421, 444, 477, 500, 523] L (.int (nI 8) :: st) hp) = mj_wp 119 362 L st hp Q := rfl
theorem sw_9 {L : mj_L} {st : List Value} {hp : mj_H} {Q : mj_Q} : mj_wpR 119 L hp Q (mj_tsw 0 15 536 [120, 133, 192, 241, 254, 277, 290, 349, 362, 375, 408, 421, 444, 477, 500, 523] L (.int (nI 9) :: st) hp) = mj_wp 119 375 L st hp Q := rfl
theorem sw_10 {L : mj_L} {st : List Value} {hp : mj_H} {Q : mj_Q} : mj_wpR 119 L hp Q (mj_tsw 0 15 536 [120, 133, 192, 241, 254, 277, 290, 349, 362, 375, 408, 421, 444, 477, 500, 523] L (.int (nI 10) :: st) hp) = mj_wp 119 408 L st hp Q := rfl
theorem sw_11 {L : mj_L} {st : List Value} {hp : mj_H} {Q : mj_Q} : mj_wpR 119 L hp Q (mj_tsw 0 15 536 [120, 133, 192, 241, 254, 277, 290, 349, 362, 375, 408, 421, 444, 477, 500, 523] L (.int (nI 11) :: st) hp) = mj_wp 119 421 L st hp Q := rfl
theorem sw_12 {L : mj_L} {st : List Value} {hp : mj_H} {Q : mj_Q} : mj_wpR 119 L hp Q (mj_tsw 0 15 536 [120, 133, 192, 241, 254, 277, 290, 349, 362, 375, 408, 421, 444, 477, 500, 523] L (.int (nI 12) :: st) hp) = mj_wp 119 444 L st hp Q := rfl
theorem sw_13 {L : mj_L} {st : List Value} {hp : mj_H} {Q : mj_Q} : mj_wpR 119 L hp Q (mj_tsw 0 15 536 [120, 133, 192, 241, 254, 277, 290, 349, 362, 375, 408, 421, 444, 477, 500, 523] L (.int (nI 13) :: st) hp) = mj_wp 119 477 L st hp Q := rfl
theorem sw_14 {L : mj_L} {st : List Value} {hp : mj_H} {Q : mj_Q} : mj_wpR 119 L hp Q (mj_tsw 0 15 536 [120, 133, 192, 241, 254, 277, 290, 349, 362, 375, 408, 421, 444, 477, 500, 523] L (.int (nI 14) :: st) hp) = mj_wp 119 500 L st hp Q := rfl
theorem sw_15 {L : mj_L} {st : List Value} {hp : mj_H} {Q : mj_Q} : mj_wpR 119 L hp Q (mj_tsw 0 15 536 [120, 133, 192, 241, 254, 277, 290, 349, 362, 375, 408, 421, 444, 477, 500, 523] L (.int (nI 15) :: st) hp) = mj_wp 119 523 L st hp Q := rfl
section LW
variable {hp : mj_H} {Q : mj_Q} {b z : Nat} {g : Nat → Int32}
theorem law_cell (h : hp.1 b = some (.inl (99, z, .inl g))) (hz : z < 2 ^ 31) : mj_call 118 [.ref b, .int 0] hp Q = Q (some (.int (if 0 < z then g 0 else 0))) hp := by
  rw [en_118]
  have c0 : ((0 : Int32) < 0) = False := by decide
  have c1 : (0 : Int32).toNatClampNeg = 0 := by decide
  by_cases w : 0 < z
  · have q : ¬ Int32.ofNat z ≤ 0 := nI_ge (a := 0) (b := z) w hz
    have q2 : ¬ z ≤ 0 := by omega
    rw [if_pos w]
    simp only [x_118_0, x_118_1, x_118_2, x_118_3, x_118_6, x_118_7, x_118_8, x_118_9, x_118_12, x_118_13, mw_nx, mw_no, mw_ite, mw_call, mw_ret, mw_cst, mw_ii, mw_i1, mw_ll, mw_l1, mw_li, mw_i2l, mw_l2i, mw_lcm, mw_if, mw_ic, mw_ifnN, mw_ifnR, mw_go, mw_dupi, mw_dupr, mw_popi, mw_popr, mw_nw, mw_rti, mw_rtl, mw_rtr, mw_rtn, mw_rtv, mw_rt0, mw_rt1, mj_ild, mj_lld, mj_ald, mj_ist, mj_lst, mj_ast, mj_inc, mj_iz, mj_get, mj_put, mj_len, mj_iar, mj_aar, mj_iaw, mj_aaw, mj_ivs, mj_ivv, mj_ivi, mj_ob, mj_tk, mj_cat, mj_st1, mj_st2, mj_clr, mj_nwi, mj_nwq, List.getElem?_cons_zero, List.getElem?_cons_succ, List.length_cons, List.length_nil, List.set_cons_zero, List.set_cons_succ, Value.category, decide_eq_true_eq, List.map_cons, List.map_nil, List.sum_cons, List.sum_nil, Option.toList, List.cons_append, List.nil_append, ite_true, ite_false, if_true, if_false, reduceCtorEq, true_and, and_true, narrow_i, narrow_l, narrow_r, narrow_n, fits_i, fits_l, fits_ro, fits_ra, fits_no, fits_na, Nat.reduceAdd, Nat.reduceLT, Nat.reduceLeDiff, Nat.reduceEqDiff, Nat.reduceSub, zero_add0, true_or, or_true, false_or, or_false, not_true_eq_false, not_false_eq_true, eq_self, i10, i01, im0, im1, h, h99a, h99b, q, c0, c1, q2]
  · have q : Int32.ofNat z ≤ 0 := nI_le (a := z) (b := 0) (by omega) (by omega)
    rw [if_neg w]
    simp only [x_118_0, x_118_1, x_118_2, x_118_3, x_118_6, x_118_7, x_118_8, x_118_9, x_118_12, x_118_13, mw_nx, mw_no, mw_ite, mw_call, mw_ret, mw_cst, mw_ii, mw_i1, mw_ll, mw_l1, mw_li, mw_i2l, mw_l2i, mw_lcm, mw_if, mw_ic, mw_ifnN, mw_ifnR, mw_go, mw_dupi, mw_dupr, mw_popi, mw_popr, mw_nw, mw_rti, mw_rtl, mw_rtr, mw_rtn, mw_rtv, mw_rt0, mw_rt1, mj_ild, mj_lld, mj_ald, mj_ist, mj_lst, mj_ast, mj_inc, mj_iz, mj_get, mj_put, mj_len, mj_iar, mj_aar, mj_iaw, mj_aaw, mj_ivs, mj_ivv, mj_ivi, mj_ob, mj_tk, mj_cat, mj_st1, mj_st2, mj_clr, mj_nwi, mj_nwq, List.getElem?_cons_zero, List.getElem?_cons_succ, List.length_cons, List.length_nil, List.set_cons_zero, List.set_cons_succ, Value.category, decide_eq_true_eq, List.map_cons, List.map_nil, List.sum_cons, List.sum_nil, Option.toList, List.cons_append, List.nil_append, ite_true, ite_false, if_true, if_false, reduceCtorEq, true_and, and_true, narrow_i, narrow_l, narrow_r, narrow_n, fits_i, fits_l, fits_ro, fits_ra, fits_no, fits_na, Nat.reduceAdd, Nat.reduceLT, Nat.reduceLeDiff, Nat.reduceEqDiff, Nat.reduceSub, zero_add0, true_or, or_true, false_or, or_false, not_true_eq_false, not_false_eq_true, eq_self, i10, i01, im0, im1, h, h99a, h99b, q]
/-- what stands at the loop's head -/
def lw_in (b z : Nat) (g : Nat → Int32) (o M : Nat) (c : Nat × Nat) (s : sp_S) (hp : mj_H) : Prop := hp.1 b = some (.inl (99, z, .inl g)) ∧ b < o ∧ o + 331 ≤ M ∧ hp.2 = c ∧ cl_at hp o s ∧ mo_at hp M s
theorem lw_in.cl {o M : Nat} {c : Nat × Nat} {s s' : sp_S} {hp hp' : mj_H} (h : lw_in b z g o M c s hp) (s1 : sm hp hp' o (o + 331)) (h1 : cl_at hp' o s') : hp'.1 b = some (.inl (99, z, .inl g)) ∧ mo_at hp' M s ∧ hp'.2 = c ∧ cl_at hp' o s' := ⟨(s1.2 _ (by have := h.2.1; omega)).trans h.1, h.2.2.2.2.2.keep (fun q _ _ => s1.2 _ (by have := h.2.2.1; omega)), s1.1.trans h.2.2.2.1, h1⟩
theorem lw_in.mo {o M : Nat} {c : Nat × Nat} {s' : sp_S} {hp hp' : mj_H} (hb : b < o) (hM : o + 331 ≤ M) (h : hp.1 b = some (.inl (99, z, .inl g))) (hc : hp.2 = c) (h1 : cl_at hp o s') (s1 : sm hp hp' M (M + 8)) (h2 : mo_at hp' M s') : lw_in b z g o M c s' hp' := ⟨(s1.2 _ (by omega)).trans h, hb, hM, s1.1.trans hc, h1.keep (fun q _ _ => s1.2 _ (by omega)), h2⟩
section LA
variable {o M i : Nat} {c : Nat × Nat} {s : sp_S}
theorem law_0 (h : lw_in b z g o M c s hp) (hz : z < 2 ^ 31) (hi : i + 4 ≤ z) (kk : ∀ (s' : sp_S) (hp' : mj_H), lw_in b z g o M c s' hp' → mj_wp 119 28 [some (.ref b), some (.ref o), some (.ref M), some (.int (nI (i + 4)))] [] hp' Q) : mj_wp 119 120 [some (.ref b), some (.ref o), some (.ref M), some (.int (nI i))] [] hp Q := by
  have hb := h.1
  obtain ⟨fs, hob⟩ := h.2.2.2.2.1.ob
  have n1 : nI i + 1 = nI (i + 1) := nI_add i 1
  have n2 : nI i + 2 = nI (i + 2) := nI_add i 2
  have n3 : nI i + 3 = nI (i + 3) := nI_add i 3
  have i4 : nI i + 4 = nI (i + 4) := nI_add i 4
  have y1 : ¬ nI (i + 1) < 0 := nI_pos (by omega)
  have y2 : ¬ nI (i + 2) < 0 := nI_pos (by omega)
  have y3 : ¬ nI (i + 3) < 0 := nI_pos (by omega)
  have z1 : (nI (i + 1)).toNatClampNeg = i + 1 := nI_clamp (by omega)
  have z2 : (nI (i + 2)).toNatClampNeg = i + 2 := nI_clamp (by omega)
  have z3 : (nI (i + 3)).toNatClampNeg = i + 3 := nI_clamp (by omega)
  have r1 : ¬ z ≤ i + 1 := by omega
  have r2 : ¬ z ≤ i + 2 := by omega
  have r3 : ¬ z ≤ i + 3 := by omega
  simp only [x_119_120, x_119_121, mw_nx, mw_no, mw_ite, mw_call, mw_ret, mw_cst, mw_ii, mw_i1, mw_ll, mw_l1, mw_li, mw_i2l, mw_l2i, mw_lcm, mw_if, mw_ic, mw_ifnN, mw_ifnR, mw_go, mw_dupi, mw_dupr, mw_popi, mw_popr, mw_nw, mw_rti, mw_rtl, mw_rtr, mw_rtn, mw_rtv, mw_rt0, mw_rt1, mj_ild, mj_lld, mj_ald, mj_ist, mj_lst, mj_ast, mj_inc, mj_iz, mj_get, mj_put, mj_len, mj_iar, mj_aar, mj_iaw, mj_aaw, mj_ivs, mj_ivv, mj_ivi, mj_ob, mj_tk, mj_cat, mj_st1, mj_st2, mj_clr, mj_nwi, mj_nwq, List.getElem?_cons_zero, List.getElem?_cons_succ, List.length_cons, List.length_nil, List.set_cons_zero, List.set_cons_succ, Value.category, decide_eq_true_eq, List.map_cons, List.map_nil, List.sum_cons, List.sum_nil, Option.toList, List.cons_append, List.nil_append, ite_true, ite_false, if_true, if_false, reduceCtorEq, true_and, and_true, narrow_i, narrow_l, narrow_r, narrow_n, fits_i, fits_l, fits_ro, fits_ra, fits_no, fits_na, Nat.reduceAdd, Nat.reduceLT, Nat.reduceLeDiff, Nat.reduceEqDiff, Nat.reduceSub, zero_add0, true_or, or_true, false_or, or_false, not_true_eq_false, not_false_eq_true, eq_self, i10, i01, im0, im1, hb, hob, h99a, h99b, n1, n2, n3, y1, y2, y3, z1, z2, z3, r1, r2, r3]
  refine d_given h.2.2.2.2.1 (fun hp1 c1 s1 => ?_)
  obtain ⟨b1, m1, k1, c1⟩ := h.cl s1 c1
  obtain ⟨fs1, hmb⟩ := m1.ob
  simp only [x_119_124, x_119_125, mw_nx, mw_no, mw_ite, mw_call, mw_ret, mw_cst, mw_ii, mw_i1, mw_ll, mw_l1, mw_li, mw_i2l, mw_l2i, mw_lcm, mw_if, mw_ic, mw_ifnN, mw_ifnR, mw_go, mw_dupi, mw_dupr, mw_popi, mw_popr, mw_nw, mw_rti, mw_rtl, mw_rtr, mw_rtn, mw_rtv, mw_rt0, mw_rt1, mj_ild, mj_lld, mj_ald, mj_ist, mj_lst, mj_ast, mj_inc, mj_iz, mj_get, mj_put, mj_len, mj_iar, mj_aar, mj_iaw, mj_aaw, mj_ivs, mj_ivv, mj_ivi, mj_ob, mj_tk, mj_cat, mj_st1, mj_st2, mj_clr, mj_nwi, mj_nwq, List.getElem?_cons_zero, List.getElem?_cons_succ, List.length_cons, List.length_nil, List.set_cons_zero, List.set_cons_succ, Value.category, decide_eq_true_eq, List.map_cons, List.map_nil, List.sum_cons, List.sum_nil, Option.toList, List.cons_append, List.nil_append, ite_true, ite_false, if_true, if_false, reduceCtorEq, true_and, and_true, narrow_i, narrow_l, narrow_r, narrow_n, fits_i, fits_l, fits_ro, fits_ra, fits_no, fits_na, Nat.reduceAdd, Nat.reduceLT, Nat.reduceLeDiff, Nat.reduceEqDiff, Nat.reduceSub, zero_add0, true_or, or_true, false_or, or_false, not_true_eq_false, not_false_eq_true, eq_self, i10, i01, im0, im1, b1, hmb, h99a, h99b, n1, n2, n3, y1, y2, y3, z1, z2, z3, r1, r2, r3]
  refine e_given m1 (fun hp2 m2 s2 => ?_)
  simp only [x_119_128, x_119_536, x_119_539, mw_nx, mw_no, mw_ite, mw_call, mw_ret, mw_cst, mw_ii, mw_i1, mw_ll, mw_l1, mw_li, mw_i2l, mw_l2i, mw_lcm, mw_if, mw_ic, mw_ifnN, mw_ifnR, mw_go, mw_dupi, mw_dupr, mw_popi, mw_popr, mw_nw, mw_rti, mw_rtl, mw_rtr, mw_rtn, mw_rtv, mw_rt0, mw_rt1, mj_ild, mj_lld, mj_ald, mj_ist, mj_lst, mj_ast, mj_inc, mj_iz, mj_get, mj_put, mj_len, mj_iar, mj_aar, mj_iaw, mj_aaw, mj_ivs, mj_ivv, mj_ivi, mj_ob, mj_tk, mj_cat, mj_st1, mj_st2, mj_clr, mj_nwi, mj_nwq, List.getElem?_cons_zero, List.getElem?_cons_succ, List.length_cons, List.length_nil, List.set_cons_zero, List.set_cons_succ, Value.category, decide_eq_true_eq, List.map_cons, List.map_nil, List.sum_cons, List.sum_nil, Option.toList, List.cons_append, List.nil_append, ite_true, ite_false, if_true, if_false, reduceCtorEq, true_and, and_true, narrow_i, narrow_l, narrow_r, narrow_n, fits_i, fits_l, fits_ro, fits_ra, fits_no, fits_na, Nat.reduceAdd, Nat.reduceLT, Nat.reduceLeDiff, Nat.reduceEqDiff, Nat.reduceSub, zero_add0, true_or, or_true, false_or, or_false, not_true_eq_false, not_false_eq_true, eq_self, i10, i01, im0, im1, i4]
  exact kk _ hp2 (lw_in.mo h.2.1 h.2.2.1 b1 k1 c1 s2 m2)
theorem law_1 (h : lw_in b z g o M c s hp) (hz : z < 2 ^ 31) (hi : i + 4 ≤ z) (kk : ∀ (s' : sp_S) (hp' : mj_H), lw_in b z g o M c s' hp' → mj_wp 119 28 [some (.ref b), some (.ref o), some (.ref M), some (.int (nI (i + 4)))] [] hp' Q) : mj_wp 119 133 [some (.ref b), some (.ref o), some (.ref M), some (.int (nI i))] [] hp Q := by
  have hb := h.1
  obtain ⟨fs, hob⟩ := h.2.2.2.2.1.ob
  have n1 : nI i + 1 = nI (i + 1) := nI_add i 1
  have n2 : nI i + 2 = nI (i + 2) := nI_add i 2
  have n3 : nI i + 3 = nI (i + 3) := nI_add i 3
  have i4 : nI i + 4 = nI (i + 4) := nI_add i 4
  have y1 : ¬ nI (i + 1) < 0 := nI_pos (by omega)
  have y2 : ¬ nI (i + 2) < 0 := nI_pos (by omega)
  have y3 : ¬ nI (i + 3) < 0 := nI_pos (by omega)
  have z1 : (nI (i + 1)).toNatClampNeg = i + 1 := nI_clamp (by omega)
  have z2 : (nI (i + 2)).toNatClampNeg = i + 2 := nI_clamp (by omega)
  have z3 : (nI (i + 3)).toNatClampNeg = i + 3 := nI_clamp (by omega)
  have r1 : ¬ z ≤ i + 1 := by omega
  have r2 : ¬ z ≤ i + 2 := by omega
  have r3 : ¬ z ≤ i + 3 := by omega
  by_cases wq : g (i + 3) = 0
  · have q := eq_true wq
    simp only [x_119_133, x_119_134, x_119_135, x_119_136, x_119_137, x_119_138, x_119_139, x_119_140, x_119_141, x_119_142, x_119_143, x_119_144, x_119_145, x_119_146, x_119_147, x_119_148, x_119_149, x_119_152, x_119_153, x_119_156, x_119_157, mw_nx, mw_no, mw_ite, mw_call, mw_ret, mw_cst, mw_ii, mw_i1, mw_ll, mw_l1, mw_li, mw_i2l, mw_l2i, mw_lcm, mw_if, mw_ic, mw_ifnN, mw_ifnR, mw_go, mw_dupi, mw_dupr, mw_popi, mw_popr, mw_nw, mw_rti, mw_rtl, mw_rtr, mw_rtn, mw_rtv, mw_rt0, mw_rt1, mj_ild, mj_lld, mj_ald, mj_ist, mj_lst, mj_ast, mj_inc, mj_iz, mj_get, mj_put, mj_len, mj_iar, mj_aar, mj_iaw, mj_aaw, mj_ivs, mj_ivv, mj_ivi, mj_ob, mj_tk, mj_cat, mj_st1, mj_st2, mj_clr, mj_nwi, mj_nwq, List.getElem?_cons_zero, List.getElem?_cons_succ, List.length_cons, List.length_nil, List.set_cons_zero, List.set_cons_succ, Value.category, decide_eq_true_eq, List.map_cons, List.map_nil, List.sum_cons, List.sum_nil, Option.toList, List.cons_append, List.nil_append, ite_true, ite_false, if_true, if_false, reduceCtorEq, true_and, and_true, narrow_i, narrow_l, narrow_r, narrow_n, fits_i, fits_l, fits_ro, fits_ra, fits_no, fits_na, Nat.reduceAdd, Nat.reduceLT, Nat.reduceLeDiff, Nat.reduceEqDiff, Nat.reduceSub, zero_add0, true_or, or_true, false_or, or_false, not_true_eq_false, not_false_eq_true, eq_self, i10, i01, im0, im1, hb, hob, h99a, h99b, n1, n2, n3, y1, y2, y3, z1, z2, z3, r1, r2, r3, q]
    refine d_literal (g (i + 1)) (g (i + 2)) 0 h.2.2.2.2.1 (fun hp1 c1 s1 => ?_)
    obtain ⟨b1, m1, k1, c1⟩ := h.cl s1 c1
    obtain ⟨fs1, hmb⟩ := m1.ob
    simp only [x_119_160, x_119_161, x_119_162, x_119_163, x_119_164, x_119_165, x_119_166, x_119_167, x_119_168, x_119_169, x_119_170, x_119_171, x_119_172, x_119_173, x_119_174, x_119_175, x_119_176, x_119_179, x_119_180, x_119_183, x_119_184, mw_nx, mw_no, mw_ite, mw_call, mw_ret, mw_cst, mw_ii, mw_i1, mw_ll, mw_l1, mw_li, mw_i2l, mw_l2i, mw_lcm, mw_if, mw_ic, mw_ifnN, mw_ifnR, mw_go, mw_dupi, mw_dupr, mw_popi, mw_popr, mw_nw, mw_rti, mw_rtl, mw_rtr, mw_rtn, mw_rtv, mw_rt0, mw_rt1, mj_ild, mj_lld, mj_ald, mj_ist, mj_lst, mj_ast, mj_inc, mj_iz, mj_get, mj_put, mj_len, mj_iar, mj_aar, mj_iaw, mj_aaw, mj_ivs, mj_ivv, mj_ivi, mj_ob, mj_tk, mj_cat, mj_st1, mj_st2, mj_clr, mj_nwi, mj_nwq, List.getElem?_cons_zero, List.getElem?_cons_succ, List.length_cons, List.length_nil, List.set_cons_zero, List.set_cons_succ, Value.category, decide_eq_true_eq, List.map_cons, List.map_nil, List.sum_cons, List.sum_nil, Option.toList, List.cons_append, List.nil_append, ite_true, ite_false, if_true, if_false, reduceCtorEq, true_and, and_true, narrow_i, narrow_l, narrow_r, narrow_n, fits_i, fits_l, fits_ro, fits_ra, fits_no, fits_na, Nat.reduceAdd, Nat.reduceLT, Nat.reduceLeDiff, Nat.reduceEqDiff, Nat.reduceSub, zero_add0, true_or, or_true, false_or, or_false, not_true_eq_false, not_false_eq_true, eq_self, i10, i01, im0, im1, b1, hmb, h99a, h99b, n1, n2, n3, y1, y2, y3, z1, z2, z3, r1, r2, r3, q]
    refine e_literal (g (i + 1)) (g (i + 2)) 0 m1 (fun hp2 m2 s2 => ?_)
    simp only [x_119_187, x_119_536, x_119_539, mw_nx, mw_no, mw_ite, mw_call, mw_ret, mw_cst, mw_ii, mw_i1, mw_ll, mw_l1, mw_li, mw_i2l, mw_l2i, mw_lcm, mw_if, mw_ic, mw_ifnN, mw_ifnR, mw_go, mw_dupi, mw_dupr, mw_popi, mw_popr, mw_nw, mw_rti, mw_rtl, mw_rtr, mw_rtn, mw_rtv, mw_rt0, mw_rt1, mj_ild, mj_lld, mj_ald, mj_ist, mj_lst, mj_ast, mj_inc, mj_iz, mj_get, mj_put, mj_len, mj_iar, mj_aar, mj_iaw, mj_aaw, mj_ivs, mj_ivv, mj_ivi, mj_ob, mj_tk, mj_cat, mj_st1, mj_st2, mj_clr, mj_nwi, mj_nwq, List.getElem?_cons_zero, List.getElem?_cons_succ, List.length_cons, List.length_nil, List.set_cons_zero, List.set_cons_succ, Value.category, decide_eq_true_eq, List.map_cons, List.map_nil, List.sum_cons, List.sum_nil, Option.toList, List.cons_append, List.nil_append, ite_true, ite_false, if_true, if_false, reduceCtorEq, true_and, and_true, narrow_i, narrow_l, narrow_r, narrow_n, fits_i, fits_l, fits_ro, fits_ra, fits_no, fits_na, Nat.reduceAdd, Nat.reduceLT, Nat.reduceLeDiff, Nat.reduceEqDiff, Nat.reduceSub, zero_add0, true_or, or_true, false_or, or_false, not_true_eq_false, not_false_eq_true, eq_self, i10, i01, im0, im1, i4]
    exact kk _ hp2 (lw_in.mo h.2.1 h.2.2.1 b1 k1 c1 s2 m2)
  · have q := eq_false wq
    simp only [x_119_133, x_119_134, x_119_135, x_119_136, x_119_137, x_119_138, x_119_139, x_119_140, x_119_141, x_119_142, x_119_143, x_119_144, x_119_145, x_119_146, x_119_147, x_119_148, x_119_149, x_119_152, x_119_153, x_119_156, x_119_157, mw_nx, mw_no, mw_ite, mw_call, mw_ret, mw_cst, mw_ii, mw_i1, mw_ll, mw_l1, mw_li, mw_i2l, mw_l2i, mw_lcm, mw_if, mw_ic, mw_ifnN, mw_ifnR, mw_go, mw_dupi, mw_dupr, mw_popi, mw_popr, mw_nw, mw_rti, mw_rtl, mw_rtr, mw_rtn, mw_rtv, mw_rt0, mw_rt1, mj_ild, mj_lld, mj_ald, mj_ist, mj_lst, mj_ast, mj_inc, mj_iz, mj_get, mj_put, mj_len, mj_iar, mj_aar, mj_iaw, mj_aaw, mj_ivs, mj_ivv, mj_ivi, mj_ob, mj_tk, mj_cat, mj_st1, mj_st2, mj_clr, mj_nwi, mj_nwq, List.getElem?_cons_zero, List.getElem?_cons_succ, List.length_cons, List.length_nil, List.set_cons_zero, List.set_cons_succ, Value.category, decide_eq_true_eq, List.map_cons, List.map_nil, List.sum_cons, List.sum_nil, Option.toList, List.cons_append, List.nil_append, ite_true, ite_false, if_true, if_false, reduceCtorEq, true_and, and_true, narrow_i, narrow_l, narrow_r, narrow_n, fits_i, fits_l, fits_ro, fits_ra, fits_no, fits_na, Nat.reduceAdd, Nat.reduceLT, Nat.reduceLeDiff, Nat.reduceEqDiff, Nat.reduceSub, zero_add0, true_or, or_true, false_or, or_false, not_true_eq_false, not_false_eq_true, eq_self, i10, i01, im0, im1, hb, hob, h99a, h99b, n1, n2, n3, y1, y2, y3, z1, z2, z3, r1, r2, r3, q]
    refine d_literal (g (i + 1)) (g (i + 2)) 1 h.2.2.2.2.1 (fun hp1 c1 s1 => ?_)
    obtain ⟨b1, m1, k1, c1⟩ := h.cl s1 c1
    obtain ⟨fs1, hmb⟩ := m1.ob
    simp only [x_119_160, x_119_161, x_119_162, x_119_163, x_119_164, x_119_165, x_119_166, x_119_167, x_119_168, x_119_169, x_119_170, x_119_171, x_119_172, x_119_173, x_119_174, x_119_175, x_119_176, x_119_179, x_119_180, x_119_183, x_119_184, mw_nx, mw_no, mw_ite, mw_call, mw_ret, mw_cst, mw_ii, mw_i1, mw_ll, mw_l1, mw_li, mw_i2l, mw_l2i, mw_lcm, mw_if, mw_ic, mw_ifnN, mw_ifnR, mw_go, mw_dupi, mw_dupr, mw_popi, mw_popr, mw_nw, mw_rti, mw_rtl, mw_rtr, mw_rtn, mw_rtv, mw_rt0, mw_rt1, mj_ild, mj_lld, mj_ald, mj_ist, mj_lst, mj_ast, mj_inc, mj_iz, mj_get, mj_put, mj_len, mj_iar, mj_aar, mj_iaw, mj_aaw, mj_ivs, mj_ivv, mj_ivi, mj_ob, mj_tk, mj_cat, mj_st1, mj_st2, mj_clr, mj_nwi, mj_nwq, List.getElem?_cons_zero, List.getElem?_cons_succ, List.length_cons, List.length_nil, List.set_cons_zero, List.set_cons_succ, Value.category, decide_eq_true_eq, List.map_cons, List.map_nil, List.sum_cons, List.sum_nil, Option.toList, List.cons_append, List.nil_append, ite_true, ite_false, if_true, if_false, reduceCtorEq, true_and, and_true, narrow_i, narrow_l, narrow_r, narrow_n, fits_i, fits_l, fits_ro, fits_ra, fits_no, fits_na, Nat.reduceAdd, Nat.reduceLT, Nat.reduceLeDiff, Nat.reduceEqDiff, Nat.reduceSub, zero_add0, true_or, or_true, false_or, or_false, not_true_eq_false, not_false_eq_true, eq_self, i10, i01, im0, im1, b1, hmb, h99a, h99b, n1, n2, n3, y1, y2, y3, z1, z2, z3, r1, r2, r3, q]
    refine e_literal (g (i + 1)) (g (i + 2)) 1 m1 (fun hp2 m2 s2 => ?_)
    simp only [x_119_187, x_119_536, x_119_539, mw_nx, mw_no, mw_ite, mw_call, mw_ret, mw_cst, mw_ii, mw_i1, mw_ll, mw_l1, mw_li, mw_i2l, mw_l2i, mw_lcm, mw_if, mw_ic, mw_ifnN, mw_ifnR, mw_go, mw_dupi, mw_dupr, mw_popi, mw_popr, mw_nw, mw_rti, mw_rtl, mw_rtr, mw_rtn, mw_rtv, mw_rt0, mw_rt1, mj_ild, mj_lld, mj_ald, mj_ist, mj_lst, mj_ast, mj_inc, mj_iz, mj_get, mj_put, mj_len, mj_iar, mj_aar, mj_iaw, mj_aaw, mj_ivs, mj_ivv, mj_ivi, mj_ob, mj_tk, mj_cat, mj_st1, mj_st2, mj_clr, mj_nwi, mj_nwq, List.getElem?_cons_zero, List.getElem?_cons_succ, List.length_cons, List.length_nil, List.set_cons_zero, List.set_cons_succ, Value.category, decide_eq_true_eq, List.map_cons, List.map_nil, List.sum_cons, List.sum_nil, Option.toList, List.cons_append, List.nil_append, ite_true, ite_false, if_true, if_false, reduceCtorEq, true_and, and_true, narrow_i, narrow_l, narrow_r, narrow_n, fits_i, fits_l, fits_ro, fits_ra, fits_no, fits_na, Nat.reduceAdd, Nat.reduceLT, Nat.reduceLeDiff, Nat.reduceEqDiff, Nat.reduceSub, zero_add0, true_or, or_true, false_or, or_false, not_true_eq_false, not_false_eq_true, eq_self, i10, i01, im0, im1, i4]
    exact kk _ hp2 (lw_in.mo h.2.1 h.2.2.1 b1 k1 c1 s2 m2)
theorem law_2 (h : lw_in b z g o M c s hp) (hz : z < 2 ^ 31) (hi : i + 4 ≤ z) (kk : ∀ (s' : sp_S) (hp' : mj_H), lw_in b z g o M c s' hp' → mj_wp 119 28 [some (.ref b), some (.ref o), some (.ref M), some (.int (nI (i + 4)))] [] hp' Q) : mj_wp 119 192 [some (.ref b), some (.ref o), some (.ref M), some (.int (nI i))] [] hp Q := by
  have hb := h.1
  obtain ⟨fs, hob⟩ := h.2.2.2.2.1.ob
  have n1 : nI i + 1 = nI (i + 1) := nI_add i 1
  have n2 : nI i + 2 = nI (i + 2) := nI_add i 2
  have n3 : nI i + 3 = nI (i + 3) := nI_add i 3
  have i4 : nI i + 4 = nI (i + 4) := nI_add i 4
  have y1 : ¬ nI (i + 1) < 0 := nI_pos (by omega)
  have y2 : ¬ nI (i + 2) < 0 := nI_pos (by omega)
  have y3 : ¬ nI (i + 3) < 0 := nI_pos (by omega)
  have z1 : (nI (i + 1)).toNatClampNeg = i + 1 := nI_clamp (by omega)
  have z2 : (nI (i + 2)).toNatClampNeg = i + 2 := nI_clamp (by omega)
  have z3 : (nI (i + 3)).toNatClampNeg = i + 3 := nI_clamp (by omega)
  have r1 : ¬ z ≤ i + 1 := by omega
  have r2 : ¬ z ≤ i + 2 := by omega
  have r3 : ¬ z ≤ i + 3 := by omega
  by_cases wq : g (i + 2) = 0
  · have q := eq_true wq
    simp only [x_119_192, x_119_193, x_119_194, x_119_195, x_119_196, x_119_197, x_119_198, x_119_199, x_119_200, x_119_201, x_119_202, x_119_203, x_119_206, x_119_207, x_119_210, x_119_211, mw_nx, mw_no, mw_ite, mw_call, mw_ret, mw_cst, mw_ii, mw_i1, mw_ll, mw_l1, mw_li, mw_i2l, mw_l2i, mw_lcm, mw_if, mw_ic, mw_ifnN, mw_ifnR, mw_go, mw_dupi, mw_dupr, mw_popi, mw_popr, mw_nw, mw_rti, mw_rtl, mw_rtr, mw_rtn, mw_rtv, mw_rt0, mw_rt1, mj_ild, mj_lld, mj_ald, mj_ist, mj_lst, mj_ast, mj_inc, mj_iz, mj_get, mj_put, mj_len, mj_iar, mj_aar, mj_iaw, mj_aaw, mj_ivs, mj_ivv, mj_ivi, mj_ob, mj_tk, mj_cat, mj_st1, mj_st2, mj_clr, mj_nwi, mj_nwq, List.getElem?_cons_zero, List.getElem?_cons_succ, List.length_cons, List.length_nil, List.set_cons_zero, List.set_cons_succ, Value.category, decide_eq_true_eq, List.map_cons, List.map_nil, List.sum_cons, List.sum_nil, Option.toList, List.cons_append, List.nil_append, ite_true, ite_false, if_true, if_false, reduceCtorEq, true_and, and_true, narrow_i, narrow_l, narrow_r, narrow_n, fits_i, fits_l, fits_ro, fits_ra, fits_no, fits_na, Nat.reduceAdd, Nat.reduceLT, Nat.reduceLeDiff, Nat.reduceEqDiff, Nat.reduceSub, zero_add0, true_or, or_true, false_or, or_false, not_true_eq_false, not_false_eq_true, eq_self, i10, i01, im0, im1, hb, hob, h99a, h99b, n1, n2, n3, y1, y2, y3, z1, z2, z3, r1, r2, r3, q]
    refine d_collect (g (i + 1)) 0 h.2.2.2.2.1 (fun hp1 c1 s1 => ?_)
    obtain ⟨b1, m1, k1, c1⟩ := h.cl s1 c1
    obtain ⟨fs1, hmb⟩ := m1.ob
    simp only [x_119_214, x_119_215, x_119_216, x_119_217, x_119_218, x_119_219, x_119_220, x_119_221, x_119_222, x_119_223, x_119_224, x_119_225, x_119_228, x_119_229, x_119_232, x_119_233, mw_nx, mw_no, mw_ite, mw_call, mw_ret, mw_cst, mw_ii, mw_i1, mw_ll, mw_l1, mw_li, mw_i2l, mw_l2i, mw_lcm, mw_if, mw_ic, mw_ifnN, mw_ifnR, mw_go, mw_dupi, mw_dupr, mw_popi, mw_popr, mw_nw, mw_rti, mw_rtl, mw_rtr, mw_rtn, mw_rtv, mw_rt0, mw_rt1, mj_ild, mj_lld, mj_ald, mj_ist, mj_lst, mj_ast, mj_inc, mj_iz, mj_get, mj_put, mj_len, mj_iar, mj_aar, mj_iaw, mj_aaw, mj_ivs, mj_ivv, mj_ivi, mj_ob, mj_tk, mj_cat, mj_st1, mj_st2, mj_clr, mj_nwi, mj_nwq, List.getElem?_cons_zero, List.getElem?_cons_succ, List.length_cons, List.length_nil, List.set_cons_zero, List.set_cons_succ, Value.category, decide_eq_true_eq, List.map_cons, List.map_nil, List.sum_cons, List.sum_nil, Option.toList, List.cons_append, List.nil_append, ite_true, ite_false, if_true, if_false, reduceCtorEq, true_and, and_true, narrow_i, narrow_l, narrow_r, narrow_n, fits_i, fits_l, fits_ro, fits_ra, fits_no, fits_na, Nat.reduceAdd, Nat.reduceLT, Nat.reduceLeDiff, Nat.reduceEqDiff, Nat.reduceSub, zero_add0, true_or, or_true, false_or, or_false, not_true_eq_false, not_false_eq_true, eq_self, i10, i01, im0, im1, b1, hmb, h99a, h99b, n1, n2, n3, y1, y2, y3, z1, z2, z3, r1, r2, r3, q]
    refine e_collect (g (i + 1)) 0 m1 (fun hp2 m2 s2 => ?_)
    simp only [x_119_236, x_119_536, x_119_539, mw_nx, mw_no, mw_ite, mw_call, mw_ret, mw_cst, mw_ii, mw_i1, mw_ll, mw_l1, mw_li, mw_i2l, mw_l2i, mw_lcm, mw_if, mw_ic, mw_ifnN, mw_ifnR, mw_go, mw_dupi, mw_dupr, mw_popi, mw_popr, mw_nw, mw_rti, mw_rtl, mw_rtr, mw_rtn, mw_rtv, mw_rt0, mw_rt1, mj_ild, mj_lld, mj_ald, mj_ist, mj_lst, mj_ast, mj_inc, mj_iz, mj_get, mj_put, mj_len, mj_iar, mj_aar, mj_iaw, mj_aaw, mj_ivs, mj_ivv, mj_ivi, mj_ob, mj_tk, mj_cat, mj_st1, mj_st2, mj_clr, mj_nwi, mj_nwq, List.getElem?_cons_zero, List.getElem?_cons_succ, List.length_cons, List.length_nil, List.set_cons_zero, List.set_cons_succ, Value.category, decide_eq_true_eq, List.map_cons, List.map_nil, List.sum_cons, List.sum_nil, Option.toList, List.cons_append, List.nil_append, ite_true, ite_false, if_true, if_false, reduceCtorEq, true_and, and_true, narrow_i, narrow_l, narrow_r, narrow_n, fits_i, fits_l, fits_ro, fits_ra, fits_no, fits_na, Nat.reduceAdd, Nat.reduceLT, Nat.reduceLeDiff, Nat.reduceEqDiff, Nat.reduceSub, zero_add0, true_or, or_true, false_or, or_false, not_true_eq_false, not_false_eq_true, eq_self, i10, i01, im0, im1, i4]
    exact kk _ hp2 (lw_in.mo h.2.1 h.2.2.1 b1 k1 c1 s2 m2)
  · have q := eq_false wq
    simp only [x_119_192, x_119_193, x_119_194, x_119_195, x_119_196, x_119_197, x_119_198, x_119_199, x_119_200, x_119_201, x_119_202, x_119_203, x_119_206, x_119_207, x_119_210, x_119_211, mw_nx, mw_no, mw_ite, mw_call, mw_ret, mw_cst, mw_ii, mw_i1, mw_ll, mw_l1, mw_li, mw_i2l, mw_l2i, mw_lcm, mw_if, mw_ic, mw_ifnN, mw_ifnR, mw_go, mw_dupi, mw_dupr, mw_popi, mw_popr, mw_nw, mw_rti, mw_rtl, mw_rtr, mw_rtn, mw_rtv, mw_rt0, mw_rt1, mj_ild, mj_lld, mj_ald, mj_ist, mj_lst, mj_ast, mj_inc, mj_iz, mj_get, mj_put, mj_len, mj_iar, mj_aar, mj_iaw, mj_aaw, mj_ivs, mj_ivv, mj_ivi, mj_ob, mj_tk, mj_cat, mj_st1, mj_st2, mj_clr, mj_nwi, mj_nwq, List.getElem?_cons_zero, List.getElem?_cons_succ, List.length_cons, List.length_nil, List.set_cons_zero, List.set_cons_succ, Value.category, decide_eq_true_eq, List.map_cons, List.map_nil, List.sum_cons, List.sum_nil, Option.toList, List.cons_append, List.nil_append, ite_true, ite_false, if_true, if_false, reduceCtorEq, true_and, and_true, narrow_i, narrow_l, narrow_r, narrow_n, fits_i, fits_l, fits_ro, fits_ra, fits_no, fits_na, Nat.reduceAdd, Nat.reduceLT, Nat.reduceLeDiff, Nat.reduceEqDiff, Nat.reduceSub, zero_add0, true_or, or_true, false_or, or_false, not_true_eq_false, not_false_eq_true, eq_self, i10, i01, im0, im1, hb, hob, h99a, h99b, n1, n2, n3, y1, y2, y3, z1, z2, z3, r1, r2, r3, q]
    refine d_collect (g (i + 1)) 1 h.2.2.2.2.1 (fun hp1 c1 s1 => ?_)
    obtain ⟨b1, m1, k1, c1⟩ := h.cl s1 c1
    obtain ⟨fs1, hmb⟩ := m1.ob
    simp only [x_119_214, x_119_215, x_119_216, x_119_217, x_119_218, x_119_219, x_119_220, x_119_221, x_119_222, x_119_223, x_119_224, x_119_225, x_119_228, x_119_229, x_119_232, x_119_233, mw_nx, mw_no, mw_ite, mw_call, mw_ret, mw_cst, mw_ii, mw_i1, mw_ll, mw_l1, mw_li, mw_i2l, mw_l2i, mw_lcm, mw_if, mw_ic, mw_ifnN, mw_ifnR, mw_go, mw_dupi, mw_dupr, mw_popi, mw_popr, mw_nw, mw_rti, mw_rtl, mw_rtr, mw_rtn, mw_rtv, mw_rt0, mw_rt1, mj_ild, mj_lld, mj_ald, mj_ist, mj_lst, mj_ast, mj_inc, mj_iz, mj_get, mj_put, mj_len, mj_iar, mj_aar, mj_iaw, mj_aaw, mj_ivs, mj_ivv, mj_ivi, mj_ob, mj_tk, mj_cat, mj_st1, mj_st2, mj_clr, mj_nwi, mj_nwq, List.getElem?_cons_zero, List.getElem?_cons_succ, List.length_cons, List.length_nil, List.set_cons_zero, List.set_cons_succ, Value.category, decide_eq_true_eq, List.map_cons, List.map_nil, List.sum_cons, List.sum_nil, Option.toList, List.cons_append, List.nil_append, ite_true, ite_false, if_true, if_false, reduceCtorEq, true_and, and_true, narrow_i, narrow_l, narrow_r, narrow_n, fits_i, fits_l, fits_ro, fits_ra, fits_no, fits_na, Nat.reduceAdd, Nat.reduceLT, Nat.reduceLeDiff, Nat.reduceEqDiff, Nat.reduceSub, zero_add0, true_or, or_true, false_or, or_false, not_true_eq_false, not_false_eq_true, eq_self, i10, i01, im0, im1, b1, hmb, h99a, h99b, n1, n2, n3, y1, y2, y3, z1, z2, z3, r1, r2, r3, q]
    refine e_collect (g (i + 1)) 1 m1 (fun hp2 m2 s2 => ?_)
    simp only [x_119_236, x_119_536, x_119_539, mw_nx, mw_no, mw_ite, mw_call, mw_ret, mw_cst, mw_ii, mw_i1, mw_ll, mw_l1, mw_li, mw_i2l, mw_l2i, mw_lcm, mw_if, mw_ic, mw_ifnN, mw_ifnR, mw_go, mw_dupi, mw_dupr, mw_popi, mw_popr, mw_nw, mw_rti, mw_rtl, mw_rtr, mw_rtn, mw_rtv, mw_rt0, mw_rt1, mj_ild, mj_lld, mj_ald, mj_ist, mj_lst, mj_ast, mj_inc, mj_iz, mj_get, mj_put, mj_len, mj_iar, mj_aar, mj_iaw, mj_aaw, mj_ivs, mj_ivv, mj_ivi, mj_ob, mj_tk, mj_cat, mj_st1, mj_st2, mj_clr, mj_nwi, mj_nwq, List.getElem?_cons_zero, List.getElem?_cons_succ, List.length_cons, List.length_nil, List.set_cons_zero, List.set_cons_succ, Value.category, decide_eq_true_eq, List.map_cons, List.map_nil, List.sum_cons, List.sum_nil, Option.toList, List.cons_append, List.nil_append, ite_true, ite_false, if_true, if_false, reduceCtorEq, true_and, and_true, narrow_i, narrow_l, narrow_r, narrow_n, fits_i, fits_l, fits_ro, fits_ra, fits_no, fits_na, Nat.reduceAdd, Nat.reduceLT, Nat.reduceLeDiff, Nat.reduceEqDiff, Nat.reduceSub, zero_add0, true_or, or_true, false_or, or_false, not_true_eq_false, not_false_eq_true, eq_self, i10, i01, im0, im1, i4]
    exact kk _ hp2 (lw_in.mo h.2.1 h.2.2.1 b1 k1 c1 s2 m2)
theorem law_3 (h : lw_in b z g o M c s hp) (hz : z < 2 ^ 31) (hi : i + 4 ≤ z) (kk : ∀ (s' : sp_S) (hp' : mj_H), lw_in b z g o M c s' hp' → mj_wp 119 28 [some (.ref b), some (.ref o), some (.ref M), some (.int (nI (i + 4)))] [] hp' Q) : mj_wp 119 241 [some (.ref b), some (.ref o), some (.ref M), some (.int (nI i))] [] hp Q := by
  have hb := h.1
  obtain ⟨fs, hob⟩ := h.2.2.2.2.1.ob
  have n1 : nI i + 1 = nI (i + 1) := nI_add i 1
  have n2 : nI i + 2 = nI (i + 2) := nI_add i 2
  have n3 : nI i + 3 = nI (i + 3) := nI_add i 3
  have i4 : nI i + 4 = nI (i + 4) := nI_add i 4
  have y1 : ¬ nI (i + 1) < 0 := nI_pos (by omega)
  have y2 : ¬ nI (i + 2) < 0 := nI_pos (by omega)
  have y3 : ¬ nI (i + 3) < 0 := nI_pos (by omega)
  have z1 : (nI (i + 1)).toNatClampNeg = i + 1 := nI_clamp (by omega)
  have z2 : (nI (i + 2)).toNatClampNeg = i + 2 := nI_clamp (by omega)
  have z3 : (nI (i + 3)).toNatClampNeg = i + 3 := nI_clamp (by omega)
  have r1 : ¬ z ≤ i + 1 := by omega
  have r2 : ¬ z ≤ i + 2 := by omega
  have r3 : ¬ z ≤ i + 3 := by omega
  simp only [x_119_241, x_119_242, mw_nx, mw_no, mw_ite, mw_call, mw_ret, mw_cst, mw_ii, mw_i1, mw_ll, mw_l1, mw_li, mw_i2l, mw_l2i, mw_lcm, mw_if, mw_ic, mw_ifnN, mw_ifnR, mw_go, mw_dupi, mw_dupr, mw_popi, mw_popr, mw_nw, mw_rti, mw_rtl, mw_rtr, mw_rtn, mw_rtv, mw_rt0, mw_rt1, mj_ild, mj_lld, mj_ald, mj_ist, mj_lst, mj_ast, mj_inc, mj_iz, mj_get, mj_put, mj_len, mj_iar, mj_aar, mj_iaw, mj_aaw, mj_ivs, mj_ivv, mj_ivi, mj_ob, mj_tk, mj_cat, mj_st1, mj_st2, mj_clr, mj_nwi, mj_nwq, List.getElem?_cons_zero, List.getElem?_cons_succ, List.length_cons, List.length_nil, List.set_cons_zero, List.set_cons_succ, Value.category, decide_eq_true_eq, List.map_cons, List.map_nil, List.sum_cons, List.sum_nil, Option.toList, List.cons_append, List.nil_append, ite_true, ite_false, if_true, if_false, reduceCtorEq, true_and, and_true, narrow_i, narrow_l, narrow_r, narrow_n, fits_i, fits_l, fits_ro, fits_ra, fits_no, fits_na, Nat.reduceAdd, Nat.reduceLT, Nat.reduceLeDiff, Nat.reduceEqDiff, Nat.reduceSub, zero_add0, true_or, or_true, false_or, or_false, not_true_eq_false, not_false_eq_true, eq_self, i10, i01, im0, im1, hb, hob, h99a, h99b, n1, n2, n3, y1, y2, y3, z1, z2, z3, r1, r2, r3]
  refine d_learn h.2.2.2.2.1 (fun hp1 c1 s1 => ?_)
  obtain ⟨b1, m1, k1, c1⟩ := h.cl s1 c1
  obtain ⟨fs1, hmb⟩ := m1.ob
  simp only [x_119_245, x_119_246, mw_nx, mw_no, mw_ite, mw_call, mw_ret, mw_cst, mw_ii, mw_i1, mw_ll, mw_l1, mw_li, mw_i2l, mw_l2i, mw_lcm, mw_if, mw_ic, mw_ifnN, mw_ifnR, mw_go, mw_dupi, mw_dupr, mw_popi, mw_popr, mw_nw, mw_rti, mw_rtl, mw_rtr, mw_rtn, mw_rtv, mw_rt0, mw_rt1, mj_ild, mj_lld, mj_ald, mj_ist, mj_lst, mj_ast, mj_inc, mj_iz, mj_get, mj_put, mj_len, mj_iar, mj_aar, mj_iaw, mj_aaw, mj_ivs, mj_ivv, mj_ivi, mj_ob, mj_tk, mj_cat, mj_st1, mj_st2, mj_clr, mj_nwi, mj_nwq, List.getElem?_cons_zero, List.getElem?_cons_succ, List.length_cons, List.length_nil, List.set_cons_zero, List.set_cons_succ, Value.category, decide_eq_true_eq, List.map_cons, List.map_nil, List.sum_cons, List.sum_nil, Option.toList, List.cons_append, List.nil_append, ite_true, ite_false, if_true, if_false, reduceCtorEq, true_and, and_true, narrow_i, narrow_l, narrow_r, narrow_n, fits_i, fits_l, fits_ro, fits_ra, fits_no, fits_na, Nat.reduceAdd, Nat.reduceLT, Nat.reduceLeDiff, Nat.reduceEqDiff, Nat.reduceSub, zero_add0, true_or, or_true, false_or, or_false, not_true_eq_false, not_false_eq_true, eq_self, i10, i01, im0, im1, b1, hmb, h99a, h99b, n1, n2, n3, y1, y2, y3, z1, z2, z3, r1, r2, r3]
  refine e_learn m1 (fun hp2 m2 s2 => ?_)
  simp only [x_119_249, x_119_536, x_119_539, mw_nx, mw_no, mw_ite, mw_call, mw_ret, mw_cst, mw_ii, mw_i1, mw_ll, mw_l1, mw_li, mw_i2l, mw_l2i, mw_lcm, mw_if, mw_ic, mw_ifnN, mw_ifnR, mw_go, mw_dupi, mw_dupr, mw_popi, mw_popr, mw_nw, mw_rti, mw_rtl, mw_rtr, mw_rtn, mw_rtv, mw_rt0, mw_rt1, mj_ild, mj_lld, mj_ald, mj_ist, mj_lst, mj_ast, mj_inc, mj_iz, mj_get, mj_put, mj_len, mj_iar, mj_aar, mj_iaw, mj_aaw, mj_ivs, mj_ivv, mj_ivi, mj_ob, mj_tk, mj_cat, mj_st1, mj_st2, mj_clr, mj_nwi, mj_nwq, List.getElem?_cons_zero, List.getElem?_cons_succ, List.length_cons, List.length_nil, List.set_cons_zero, List.set_cons_succ, Value.category, decide_eq_true_eq, List.map_cons, List.map_nil, List.sum_cons, List.sum_nil, Option.toList, List.cons_append, List.nil_append, ite_true, ite_false, if_true, if_false, reduceCtorEq, true_and, and_true, narrow_i, narrow_l, narrow_r, narrow_n, fits_i, fits_l, fits_ro, fits_ra, fits_no, fits_na, Nat.reduceAdd, Nat.reduceLT, Nat.reduceLeDiff, Nat.reduceEqDiff, Nat.reduceSub, zero_add0, true_or, or_true, false_or, or_false, not_true_eq_false, not_false_eq_true, eq_self, i10, i01, im0, im1, i4]
  exact kk _ hp2 (lw_in.mo h.2.1 h.2.2.1 b1 k1 c1 s2 m2)
theorem law_4 (h : lw_in b z g o M c s hp) (hz : z < 2 ^ 31) (hi : i + 4 ≤ z) (kk : ∀ (s' : sp_S) (hp' : mj_H), lw_in b z g o M c s' hp' → mj_wp 119 28 [some (.ref b), some (.ref o), some (.ref M), some (.int (nI (i + 4)))] [] hp' Q) : mj_wp 119 254 [some (.ref b), some (.ref o), some (.ref M), some (.int (nI i))] [] hp Q := by
  have hb := h.1
  obtain ⟨fs, hob⟩ := h.2.2.2.2.1.ob
  have n1 : nI i + 1 = nI (i + 1) := nI_add i 1
  have n2 : nI i + 2 = nI (i + 2) := nI_add i 2
  have n3 : nI i + 3 = nI (i + 3) := nI_add i 3
  have i4 : nI i + 4 = nI (i + 4) := nI_add i 4
  have y1 : ¬ nI (i + 1) < 0 := nI_pos (by omega)
  have y2 : ¬ nI (i + 2) < 0 := nI_pos (by omega)
  have y3 : ¬ nI (i + 3) < 0 := nI_pos (by omega)
  have z1 : (nI (i + 1)).toNatClampNeg = i + 1 := nI_clamp (by omega)
  have z2 : (nI (i + 2)).toNatClampNeg = i + 2 := nI_clamp (by omega)
  have z3 : (nI (i + 3)).toNatClampNeg = i + 3 := nI_clamp (by omega)
  have r1 : ¬ z ≤ i + 1 := by omega
  have r2 : ¬ z ≤ i + 2 := by omega
  have r3 : ¬ z ≤ i + 3 := by omega
  simp only [x_119_254, x_119_255, x_119_256, x_119_257, x_119_258, x_119_259, x_119_260, mw_nx, mw_no, mw_ite, mw_call, mw_ret, mw_cst, mw_ii, mw_i1, mw_ll, mw_l1, mw_li, mw_i2l, mw_l2i, mw_lcm, mw_if, mw_ic, mw_ifnN, mw_ifnR, mw_go, mw_dupi, mw_dupr, mw_popi, mw_popr, mw_nw, mw_rti, mw_rtl, mw_rtr, mw_rtn, mw_rtv, mw_rt0, mw_rt1, mj_ild, mj_lld, mj_ald, mj_ist, mj_lst, mj_ast, mj_inc, mj_iz, mj_get, mj_put, mj_len, mj_iar, mj_aar, mj_iaw, mj_aaw, mj_ivs, mj_ivv, mj_ivi, mj_ob, mj_tk, mj_cat, mj_st1, mj_st2, mj_clr, mj_nwi, mj_nwq, List.getElem?_cons_zero, List.getElem?_cons_succ, List.length_cons, List.length_nil, List.set_cons_zero, List.set_cons_succ, Value.category, decide_eq_true_eq, List.map_cons, List.map_nil, List.sum_cons, List.sum_nil, Option.toList, List.cons_append, List.nil_append, ite_true, ite_false, if_true, if_false, reduceCtorEq, true_and, and_true, narrow_i, narrow_l, narrow_r, narrow_n, fits_i, fits_l, fits_ro, fits_ra, fits_no, fits_na, Nat.reduceAdd, Nat.reduceLT, Nat.reduceLeDiff, Nat.reduceEqDiff, Nat.reduceSub, zero_add0, true_or, or_true, false_or, or_false, not_true_eq_false, not_false_eq_true, eq_self, i10, i01, im0, im1, hb, hob, h99a, h99b, n1, n2, n3, y1, y2, y3, z1, z2, z3, r1, r2, r3]
  refine d_split (g (i + 1)) h.2.2.2.2.1 (fun hp1 c1 s1 => ?_)
  obtain ⟨b1, m1, k1, c1⟩ := h.cl s1 c1
  obtain ⟨fs1, hmb⟩ := m1.ob
  simp only [x_119_263, x_119_264, x_119_265, x_119_266, x_119_267, x_119_268, x_119_269, mw_nx, mw_no, mw_ite, mw_call, mw_ret, mw_cst, mw_ii, mw_i1, mw_ll, mw_l1, mw_li, mw_i2l, mw_l2i, mw_lcm, mw_if, mw_ic, mw_ifnN, mw_ifnR, mw_go, mw_dupi, mw_dupr, mw_popi, mw_popr, mw_nw, mw_rti, mw_rtl, mw_rtr, mw_rtn, mw_rtv, mw_rt0, mw_rt1, mj_ild, mj_lld, mj_ald, mj_ist, mj_lst, mj_ast, mj_inc, mj_iz, mj_get, mj_put, mj_len, mj_iar, mj_aar, mj_iaw, mj_aaw, mj_ivs, mj_ivv, mj_ivi, mj_ob, mj_tk, mj_cat, mj_st1, mj_st2, mj_clr, mj_nwi, mj_nwq, List.getElem?_cons_zero, List.getElem?_cons_succ, List.length_cons, List.length_nil, List.set_cons_zero, List.set_cons_succ, Value.category, decide_eq_true_eq, List.map_cons, List.map_nil, List.sum_cons, List.sum_nil, Option.toList, List.cons_append, List.nil_append, ite_true, ite_false, if_true, if_false, reduceCtorEq, true_and, and_true, narrow_i, narrow_l, narrow_r, narrow_n, fits_i, fits_l, fits_ro, fits_ra, fits_no, fits_na, Nat.reduceAdd, Nat.reduceLT, Nat.reduceLeDiff, Nat.reduceEqDiff, Nat.reduceSub, zero_add0, true_or, or_true, false_or, or_false, not_true_eq_false, not_false_eq_true, eq_self, i10, i01, im0, im1, b1, hmb, h99a, h99b, n1, n2, n3, y1, y2, y3, z1, z2, z3, r1, r2, r3]
  refine e_split (g (i + 1)) m1 (fun hp2 m2 s2 => ?_)
  simp only [x_119_272, x_119_536, x_119_539, mw_nx, mw_no, mw_ite, mw_call, mw_ret, mw_cst, mw_ii, mw_i1, mw_ll, mw_l1, mw_li, mw_i2l, mw_l2i, mw_lcm, mw_if, mw_ic, mw_ifnN, mw_ifnR, mw_go, mw_dupi, mw_dupr, mw_popi, mw_popr, mw_nw, mw_rti, mw_rtl, mw_rtr, mw_rtn, mw_rtv, mw_rt0, mw_rt1, mj_ild, mj_lld, mj_ald, mj_ist, mj_lst, mj_ast, mj_inc, mj_iz, mj_get, mj_put, mj_len, mj_iar, mj_aar, mj_iaw, mj_aaw, mj_ivs, mj_ivv, mj_ivi, mj_ob, mj_tk, mj_cat, mj_st1, mj_st2, mj_clr, mj_nwi, mj_nwq, List.getElem?_cons_zero, List.getElem?_cons_succ, List.length_cons, List.length_nil, List.set_cons_zero, List.set_cons_succ, Value.category, decide_eq_true_eq, List.map_cons, List.map_nil, List.sum_cons, List.sum_nil, Option.toList, List.cons_append, List.nil_append, ite_true, ite_false, if_true, if_false, reduceCtorEq, true_and, and_true, narrow_i, narrow_l, narrow_r, narrow_n, fits_i, fits_l, fits_ro, fits_ra, fits_no, fits_na, Nat.reduceAdd, Nat.reduceLT, Nat.reduceLeDiff, Nat.reduceEqDiff, Nat.reduceSub, zero_add0, true_or, or_true, false_or, or_false, not_true_eq_false, not_false_eq_true, eq_self, i10, i01, im0, im1, i4]
  exact kk _ hp2 (lw_in.mo h.2.1 h.2.2.1 b1 k1 c1 s2 m2)
theorem law_5 (h : lw_in b z g o M c s hp) (hz : z < 2 ^ 31) (hi : i + 4 ≤ z) (kk : ∀ (s' : sp_S) (hp' : mj_H), lw_in b z g o M c s' hp' → mj_wp 119 28 [some (.ref b), some (.ref o), some (.ref M), some (.int (nI (i + 4)))] [] hp' Q) : mj_wp 119 277 [some (.ref b), some (.ref o), some (.ref M), some (.int (nI i))] [] hp Q := by
  have hb := h.1
  obtain ⟨fs, hob⟩ := h.2.2.2.2.1.ob
  have n1 : nI i + 1 = nI (i + 1) := nI_add i 1
  have n2 : nI i + 2 = nI (i + 2) := nI_add i 2
  have n3 : nI i + 3 = nI (i + 3) := nI_add i 3
  have i4 : nI i + 4 = nI (i + 4) := nI_add i 4
  have y1 : ¬ nI (i + 1) < 0 := nI_pos (by omega)
  have y2 : ¬ nI (i + 2) < 0 := nI_pos (by omega)
  have y3 : ¬ nI (i + 3) < 0 := nI_pos (by omega)
  have z1 : (nI (i + 1)).toNatClampNeg = i + 1 := nI_clamp (by omega)
  have z2 : (nI (i + 2)).toNatClampNeg = i + 2 := nI_clamp (by omega)
  have z3 : (nI (i + 3)).toNatClampNeg = i + 3 := nI_clamp (by omega)
  have r1 : ¬ z ≤ i + 1 := by omega
  have r2 : ¬ z ≤ i + 2 := by omega
  have r3 : ¬ z ≤ i + 3 := by omega
  simp only [x_119_277, x_119_278, mw_nx, mw_no, mw_ite, mw_call, mw_ret, mw_cst, mw_ii, mw_i1, mw_ll, mw_l1, mw_li, mw_i2l, mw_l2i, mw_lcm, mw_if, mw_ic, mw_ifnN, mw_ifnR, mw_go, mw_dupi, mw_dupr, mw_popi, mw_popr, mw_nw, mw_rti, mw_rtl, mw_rtr, mw_rtn, mw_rtv, mw_rt0, mw_rt1, mj_ild, mj_lld, mj_ald, mj_ist, mj_lst, mj_ast, mj_inc, mj_iz, mj_get, mj_put, mj_len, mj_iar, mj_aar, mj_iaw, mj_aaw, mj_ivs, mj_ivv, mj_ivi, mj_ob, mj_tk, mj_cat, mj_st1, mj_st2, mj_clr, mj_nwi, mj_nwq, List.getElem?_cons_zero, List.getElem?_cons_succ, List.length_cons, List.length_nil, List.set_cons_zero, List.set_cons_succ, Value.category, decide_eq_true_eq, List.map_cons, List.map_nil, List.sum_cons, List.sum_nil, Option.toList, List.cons_append, List.nil_append, ite_true, ite_false, if_true, if_false, reduceCtorEq, true_and, and_true, narrow_i, narrow_l, narrow_r, narrow_n, fits_i, fits_l, fits_ro, fits_ra, fits_no, fits_na, Nat.reduceAdd, Nat.reduceLT, Nat.reduceLeDiff, Nat.reduceEqDiff, Nat.reduceSub, zero_add0, true_or, or_true, false_or, or_false, not_true_eq_false, not_false_eq_true, eq_self, i10, i01, im0, im1, hb, hob, h99a, h99b, n1, n2, n3, y1, y2, y3, z1, z2, z3, r1, r2, r3]
  refine d_answer h.2.2.2.2.1 (fun hp1 c1 s1 => ?_)
  obtain ⟨b1, m1, k1, c1⟩ := h.cl s1 c1
  obtain ⟨fs1, hmb⟩ := m1.ob
  simp only [x_119_281, x_119_282, mw_nx, mw_no, mw_ite, mw_call, mw_ret, mw_cst, mw_ii, mw_i1, mw_ll, mw_l1, mw_li, mw_i2l, mw_l2i, mw_lcm, mw_if, mw_ic, mw_ifnN, mw_ifnR, mw_go, mw_dupi, mw_dupr, mw_popi, mw_popr, mw_nw, mw_rti, mw_rtl, mw_rtr, mw_rtn, mw_rtv, mw_rt0, mw_rt1, mj_ild, mj_lld, mj_ald, mj_ist, mj_lst, mj_ast, mj_inc, mj_iz, mj_get, mj_put, mj_len, mj_iar, mj_aar, mj_iaw, mj_aaw, mj_ivs, mj_ivv, mj_ivi, mj_ob, mj_tk, mj_cat, mj_st1, mj_st2, mj_clr, mj_nwi, mj_nwq, List.getElem?_cons_zero, List.getElem?_cons_succ, List.length_cons, List.length_nil, List.set_cons_zero, List.set_cons_succ, Value.category, decide_eq_true_eq, List.map_cons, List.map_nil, List.sum_cons, List.sum_nil, Option.toList, List.cons_append, List.nil_append, ite_true, ite_false, if_true, if_false, reduceCtorEq, true_and, and_true, narrow_i, narrow_l, narrow_r, narrow_n, fits_i, fits_l, fits_ro, fits_ra, fits_no, fits_na, Nat.reduceAdd, Nat.reduceLT, Nat.reduceLeDiff, Nat.reduceEqDiff, Nat.reduceSub, zero_add0, true_or, or_true, false_or, or_false, not_true_eq_false, not_false_eq_true, eq_self, i10, i01, im0, im1, b1, hmb, h99a, h99b, n1, n2, n3, y1, y2, y3, z1, z2, z3, r1, r2, r3]
  refine e_answer m1 (fun hp2 m2 s2 => ?_)
  simp only [x_119_285, x_119_536, x_119_539, mw_nx, mw_no, mw_ite, mw_call, mw_ret, mw_cst, mw_ii, mw_i1, mw_ll, mw_l1, mw_li, mw_i2l, mw_l2i, mw_lcm, mw_if, mw_ic, mw_ifnN, mw_ifnR, mw_go, mw_dupi, mw_dupr, mw_popi, mw_popr, mw_nw, mw_rti, mw_rtl, mw_rtr, mw_rtn, mw_rtv, mw_rt0, mw_rt1, mj_ild, mj_lld, mj_ald, mj_ist, mj_lst, mj_ast, mj_inc, mj_iz, mj_get, mj_put, mj_len, mj_iar, mj_aar, mj_iaw, mj_aaw, mj_ivs, mj_ivv, mj_ivi, mj_ob, mj_tk, mj_cat, mj_st1, mj_st2, mj_clr, mj_nwi, mj_nwq, List.getElem?_cons_zero, List.getElem?_cons_succ, List.length_cons, List.length_nil, List.set_cons_zero, List.set_cons_succ, Value.category, decide_eq_true_eq, List.map_cons, List.map_nil, List.sum_cons, List.sum_nil, Option.toList, List.cons_append, List.nil_append, ite_true, ite_false, if_true, if_false, reduceCtorEq, true_and, and_true, narrow_i, narrow_l, narrow_r, narrow_n, fits_i, fits_l, fits_ro, fits_ra, fits_no, fits_na, Nat.reduceAdd, Nat.reduceLT, Nat.reduceLeDiff, Nat.reduceEqDiff, Nat.reduceSub, zero_add0, true_or, or_true, false_or, or_false, not_true_eq_false, not_false_eq_true, eq_self, i10, i01, im0, im1, i4]
  exact kk _ hp2 (lw_in.mo h.2.1 h.2.2.1 b1 k1 c1 s2 m2)
theorem law_6 (h : lw_in b z g o M c s hp) (hz : z < 2 ^ 31) (hi : i + 4 ≤ z) (kk : ∀ (s' : sp_S) (hp' : mj_H), lw_in b z g o M c s' hp' → mj_wp 119 28 [some (.ref b), some (.ref o), some (.ref M), some (.int (nI (i + 4)))] [] hp' Q) : mj_wp 119 290 [some (.ref b), some (.ref o), some (.ref M), some (.int (nI i))] [] hp Q := by
  have hb := h.1
  obtain ⟨fs, hob⟩ := h.2.2.2.2.1.ob
  have n1 : nI i + 1 = nI (i + 1) := nI_add i 1
  have n2 : nI i + 2 = nI (i + 2) := nI_add i 2
  have n3 : nI i + 3 = nI (i + 3) := nI_add i 3
  have i4 : nI i + 4 = nI (i + 4) := nI_add i 4
  have y1 : ¬ nI (i + 1) < 0 := nI_pos (by omega)
  have y2 : ¬ nI (i + 2) < 0 := nI_pos (by omega)
  have y3 : ¬ nI (i + 3) < 0 := nI_pos (by omega)
  have z1 : (nI (i + 1)).toNatClampNeg = i + 1 := nI_clamp (by omega)
  have z2 : (nI (i + 2)).toNatClampNeg = i + 2 := nI_clamp (by omega)
  have z3 : (nI (i + 3)).toNatClampNeg = i + 3 := nI_clamp (by omega)
  have r1 : ¬ z ≤ i + 1 := by omega
  have r2 : ¬ z ≤ i + 2 := by omega
  have r3 : ¬ z ≤ i + 3 := by omega
  by_cases wq : g (i + 3) = 0
  · have q := eq_true wq
    simp only [x_119_290, x_119_291, x_119_292, x_119_293, x_119_294, x_119_295, x_119_296, x_119_297, x_119_298, x_119_299, x_119_300, x_119_301, x_119_302, x_119_303, x_119_304, x_119_305, x_119_306, x_119_309, x_119_310, x_119_313, x_119_314, mw_nx, mw_no, mw_ite, mw_call, mw_ret, mw_cst, mw_ii, mw_i1, mw_ll, mw_l1, mw_li, mw_i2l, mw_l2i, mw_lcm, mw_if, mw_ic, mw_ifnN, mw_ifnR, mw_go, mw_dupi, mw_dupr, mw_popi, mw_popr, mw_nw, mw_rti, mw_rtl, mw_rtr, mw_rtn, mw_rtv, mw_rt0, mw_rt1, mj_ild, mj_lld, mj_ald, mj_ist, mj_lst, mj_ast, mj_inc, mj_iz, mj_get, mj_put, mj_len, mj_iar, mj_aar, mj_iaw, mj_aaw, mj_ivs, mj_ivv, mj_ivi, mj_ob, mj_tk, mj_cat, mj_st1, mj_st2, mj_clr, mj_nwi, mj_nwq, List.getElem?_cons_zero, List.getElem?_cons_succ, List.length_cons, List.length_nil, List.set_cons_zero, List.set_cons_succ, Value.category, decide_eq_true_eq, List.map_cons, List.map_nil, List.sum_cons, List.sum_nil, Option.toList, List.cons_append, List.nil_append, ite_true, ite_false, if_true, if_false, reduceCtorEq, true_and, and_true, narrow_i, narrow_l, narrow_r, narrow_n, fits_i, fits_l, fits_ro, fits_ra, fits_no, fits_na, Nat.reduceAdd, Nat.reduceLT, Nat.reduceLeDiff, Nat.reduceEqDiff, Nat.reduceSub, zero_add0, true_or, or_true, false_or, or_false, not_true_eq_false, not_false_eq_true, eq_self, i10, i01, im0, im1, hb, hob, h99a, h99b, n1, n2, n3, y1, y2, y3, z1, z2, z3, r1, r2, r3, q]
    refine d_value (g (i + 1)) (g (i + 2)) 0 h.2.2.2.2.1 (fun hp1 c1 s1 => ?_)
    obtain ⟨b1, m1, k1, c1⟩ := h.cl s1 c1
    obtain ⟨fs1, hmb⟩ := m1.ob
    simp only [x_119_317, x_119_318, x_119_319, x_119_320, x_119_321, x_119_322, x_119_323, x_119_324, x_119_325, x_119_326, x_119_327, x_119_328, x_119_329, x_119_330, x_119_331, x_119_332, x_119_333, x_119_336, x_119_337, x_119_340, x_119_341, mw_nx, mw_no, mw_ite, mw_call, mw_ret, mw_cst, mw_ii, mw_i1, mw_ll, mw_l1, mw_li, mw_i2l, mw_l2i, mw_lcm, mw_if, mw_ic, mw_ifnN, mw_ifnR, mw_go, mw_dupi, mw_dupr, mw_popi, mw_popr, mw_nw, mw_rti, mw_rtl, mw_rtr, mw_rtn, mw_rtv, mw_rt0, mw_rt1, mj_ild, mj_lld, mj_ald, mj_ist, mj_lst, mj_ast, mj_inc, mj_iz, mj_get, mj_put, mj_len, mj_iar, mj_aar, mj_iaw, mj_aaw, mj_ivs, mj_ivv, mj_ivi, mj_ob, mj_tk, mj_cat, mj_st1, mj_st2, mj_clr, mj_nwi, mj_nwq, List.getElem?_cons_zero, List.getElem?_cons_succ, List.length_cons, List.length_nil, List.set_cons_zero, List.set_cons_succ, Value.category, decide_eq_true_eq, List.map_cons, List.map_nil, List.sum_cons, List.sum_nil, Option.toList, List.cons_append, List.nil_append, ite_true, ite_false, if_true, if_false, reduceCtorEq, true_and, and_true, narrow_i, narrow_l, narrow_r, narrow_n, fits_i, fits_l, fits_ro, fits_ra, fits_no, fits_na, Nat.reduceAdd, Nat.reduceLT, Nat.reduceLeDiff, Nat.reduceEqDiff, Nat.reduceSub, zero_add0, true_or, or_true, false_or, or_false, not_true_eq_false, not_false_eq_true, eq_self, i10, i01, im0, im1, b1, hmb, h99a, h99b, n1, n2, n3, y1, y2, y3, z1, z2, z3, r1, r2, r3, q]
    refine e_value (g (i + 1)) (g (i + 2)) 0 m1 (fun hp2 m2 s2 => ?_)
    simp only [x_119_344, x_119_536, x_119_539, mw_nx, mw_no, mw_ite, mw_call, mw_ret, mw_cst, mw_ii, mw_i1, mw_ll, mw_l1, mw_li, mw_i2l, mw_l2i, mw_lcm, mw_if, mw_ic, mw_ifnN, mw_ifnR, mw_go, mw_dupi, mw_dupr, mw_popi, mw_popr, mw_nw, mw_rti, mw_rtl, mw_rtr, mw_rtn, mw_rtv, mw_rt0, mw_rt1, mj_ild, mj_lld, mj_ald, mj_ist, mj_lst, mj_ast, mj_inc, mj_iz, mj_get, mj_put, mj_len, mj_iar, mj_aar, mj_iaw, mj_aaw, mj_ivs, mj_ivv, mj_ivi, mj_ob, mj_tk, mj_cat, mj_st1, mj_st2, mj_clr, mj_nwi, mj_nwq, List.getElem?_cons_zero, List.getElem?_cons_succ, List.length_cons, List.length_nil, List.set_cons_zero, List.set_cons_succ, Value.category, decide_eq_true_eq, List.map_cons, List.map_nil, List.sum_cons, List.sum_nil, Option.toList, List.cons_append, List.nil_append, ite_true, ite_false, if_true, if_false, reduceCtorEq, true_and, and_true, narrow_i, narrow_l, narrow_r, narrow_n, fits_i, fits_l, fits_ro, fits_ra, fits_no, fits_na, Nat.reduceAdd, Nat.reduceLT, Nat.reduceLeDiff, Nat.reduceEqDiff, Nat.reduceSub, zero_add0, true_or, or_true, false_or, or_false, not_true_eq_false, not_false_eq_true, eq_self, i10, i01, im0, im1, i4]
    exact kk _ hp2 (lw_in.mo h.2.1 h.2.2.1 b1 k1 c1 s2 m2)
  · have q := eq_false wq
    simp only [x_119_290, x_119_291, x_119_292, x_119_293, x_119_294, x_119_295, x_119_296, x_119_297, x_119_298, x_119_299, x_119_300, x_119_301, x_119_302, x_119_303, x_119_304, x_119_305, x_119_306, x_119_309, x_119_310, x_119_313, x_119_314, mw_nx, mw_no, mw_ite, mw_call, mw_ret, mw_cst, mw_ii, mw_i1, mw_ll, mw_l1, mw_li, mw_i2l, mw_l2i, mw_lcm, mw_if, mw_ic, mw_ifnN, mw_ifnR, mw_go, mw_dupi, mw_dupr, mw_popi, mw_popr, mw_nw, mw_rti, mw_rtl, mw_rtr, mw_rtn, mw_rtv, mw_rt0, mw_rt1, mj_ild, mj_lld, mj_ald, mj_ist, mj_lst, mj_ast, mj_inc, mj_iz, mj_get, mj_put, mj_len, mj_iar, mj_aar, mj_iaw, mj_aaw, mj_ivs, mj_ivv, mj_ivi, mj_ob, mj_tk, mj_cat, mj_st1, mj_st2, mj_clr, mj_nwi, mj_nwq, List.getElem?_cons_zero, List.getElem?_cons_succ, List.length_cons, List.length_nil, List.set_cons_zero, List.set_cons_succ, Value.category, decide_eq_true_eq, List.map_cons, List.map_nil, List.sum_cons, List.sum_nil, Option.toList, List.cons_append, List.nil_append, ite_true, ite_false, if_true, if_false, reduceCtorEq, true_and, and_true, narrow_i, narrow_l, narrow_r, narrow_n, fits_i, fits_l, fits_ro, fits_ra, fits_no, fits_na, Nat.reduceAdd, Nat.reduceLT, Nat.reduceLeDiff, Nat.reduceEqDiff, Nat.reduceSub, zero_add0, true_or, or_true, false_or, or_false, not_true_eq_false, not_false_eq_true, eq_self, i10, i01, im0, im1, hb, hob, h99a, h99b, n1, n2, n3, y1, y2, y3, z1, z2, z3, r1, r2, r3, q]
    refine d_value (g (i + 1)) (g (i + 2)) 1 h.2.2.2.2.1 (fun hp1 c1 s1 => ?_)
    obtain ⟨b1, m1, k1, c1⟩ := h.cl s1 c1
    obtain ⟨fs1, hmb⟩ := m1.ob
    simp only [x_119_317, x_119_318, x_119_319, x_119_320, x_119_321, x_119_322, x_119_323, x_119_324, x_119_325, x_119_326, x_119_327, x_119_328, x_119_329, x_119_330, x_119_331, x_119_332, x_119_333, x_119_336, x_119_337, x_119_340, x_119_341, mw_nx, mw_no, mw_ite, mw_call, mw_ret, mw_cst, mw_ii, mw_i1, mw_ll, mw_l1, mw_li, mw_i2l, mw_l2i, mw_lcm, mw_if, mw_ic, mw_ifnN, mw_ifnR, mw_go, mw_dupi, mw_dupr, mw_popi, mw_popr, mw_nw, mw_rti, mw_rtl, mw_rtr, mw_rtn, mw_rtv, mw_rt0, mw_rt1, mj_ild, mj_lld, mj_ald, mj_ist, mj_lst, mj_ast, mj_inc, mj_iz, mj_get, mj_put, mj_len, mj_iar, mj_aar, mj_iaw, mj_aaw, mj_ivs, mj_ivv, mj_ivi, mj_ob, mj_tk, mj_cat, mj_st1, mj_st2, mj_clr, mj_nwi, mj_nwq, List.getElem?_cons_zero, List.getElem?_cons_succ, List.length_cons, List.length_nil, List.set_cons_zero, List.set_cons_succ, Value.category, decide_eq_true_eq, List.map_cons, List.map_nil, List.sum_cons, List.sum_nil, Option.toList, List.cons_append, List.nil_append, ite_true, ite_false, if_true, if_false, reduceCtorEq, true_and, and_true, narrow_i, narrow_l, narrow_r, narrow_n, fits_i, fits_l, fits_ro, fits_ra, fits_no, fits_na, Nat.reduceAdd, Nat.reduceLT, Nat.reduceLeDiff, Nat.reduceEqDiff, Nat.reduceSub, zero_add0, true_or, or_true, false_or, or_false, not_true_eq_false, not_false_eq_true, eq_self, i10, i01, im0, im1, b1, hmb, h99a, h99b, n1, n2, n3, y1, y2, y3, z1, z2, z3, r1, r2, r3, q]
    refine e_value (g (i + 1)) (g (i + 2)) 1 m1 (fun hp2 m2 s2 => ?_)
    simp only [x_119_344, x_119_536, x_119_539, mw_nx, mw_no, mw_ite, mw_call, mw_ret, mw_cst, mw_ii, mw_i1, mw_ll, mw_l1, mw_li, mw_i2l, mw_l2i, mw_lcm, mw_if, mw_ic, mw_ifnN, mw_ifnR, mw_go, mw_dupi, mw_dupr, mw_popi, mw_popr, mw_nw, mw_rti, mw_rtl, mw_rtr, mw_rtn, mw_rtv, mw_rt0, mw_rt1, mj_ild, mj_lld, mj_ald, mj_ist, mj_lst, mj_ast, mj_inc, mj_iz, mj_get, mj_put, mj_len, mj_iar, mj_aar, mj_iaw, mj_aaw, mj_ivs, mj_ivv, mj_ivi, mj_ob, mj_tk, mj_cat, mj_st1, mj_st2, mj_clr, mj_nwi, mj_nwq, List.getElem?_cons_zero, List.getElem?_cons_succ, List.length_cons, List.length_nil, List.set_cons_zero, List.set_cons_succ, Value.category, decide_eq_true_eq, List.map_cons, List.map_nil, List.sum_cons, List.sum_nil, Option.toList, List.cons_append, List.nil_append, ite_true, ite_false, if_true, if_false, reduceCtorEq, true_and, and_true, narrow_i, narrow_l, narrow_r, narrow_n, fits_i, fits_l, fits_ro, fits_ra, fits_no, fits_na, Nat.reduceAdd, Nat.reduceLT, Nat.reduceLeDiff, Nat.reduceEqDiff, Nat.reduceSub, zero_add0, true_or, or_true, false_or, or_false, not_true_eq_false, not_false_eq_true, eq_self, i10, i01, im0, im1, i4]
    exact kk _ hp2 (lw_in.mo h.2.1 h.2.2.1 b1 k1 c1 s2 m2)
theorem law_7 (h : lw_in b z g o M c s hp) (hz : z < 2 ^ 31) (hi : i + 4 ≤ z) (kk : ∀ (s' : sp_S) (hp' : mj_H), lw_in b z g o M c s' hp' → mj_wp 119 28 [some (.ref b), some (.ref o), some (.ref M), some (.int (nI (i + 4)))] [] hp' Q) : mj_wp 119 349 [some (.ref b), some (.ref o), some (.ref M), some (.int (nI i))] [] hp Q := by
  have hb := h.1
  obtain ⟨fs, hob⟩ := h.2.2.2.2.1.ob
  have n1 : nI i + 1 = nI (i + 1) := nI_add i 1
  have n2 : nI i + 2 = nI (i + 2) := nI_add i 2
  have n3 : nI i + 3 = nI (i + 3) := nI_add i 3
  have i4 : nI i + 4 = nI (i + 4) := nI_add i 4
  have y1 : ¬ nI (i + 1) < 0 := nI_pos (by omega)
  have y2 : ¬ nI (i + 2) < 0 := nI_pos (by omega)
  have y3 : ¬ nI (i + 3) < 0 := nI_pos (by omega)
  have z1 : (nI (i + 1)).toNatClampNeg = i + 1 := nI_clamp (by omega)
  have z2 : (nI (i + 2)).toNatClampNeg = i + 2 := nI_clamp (by omega)
  have z3 : (nI (i + 3)).toNatClampNeg = i + 3 := nI_clamp (by omega)
  have r1 : ¬ z ≤ i + 1 := by omega
  have r2 : ¬ z ≤ i + 2 := by omega
  have r3 : ¬ z ≤ i + 3 := by omega
  simp only [x_119_349, x_119_350, mw_nx, mw_no, mw_ite, mw_call, mw_ret, mw_cst, mw_ii, mw_i1, mw_ll, mw_l1, mw_li, mw_i2l, mw_l2i, mw_lcm, mw_if, mw_ic, mw_ifnN, mw_ifnR, mw_go, mw_dupi, mw_dupr, mw_popi, mw_popr, mw_nw, mw_rti, mw_rtl, mw_rtr, mw_rtn, mw_rtv, mw_rt0, mw_rt1, mj_ild, mj_lld, mj_ald, mj_ist, mj_lst, mj_ast, mj_inc, mj_iz, mj_get, mj_put, mj_len, mj_iar, mj_aar, mj_iaw, mj_aaw, mj_ivs, mj_ivv, mj_ivi, mj_ob, mj_tk, mj_cat, mj_st1, mj_st2, mj_clr, mj_nwi, mj_nwq, List.getElem?_cons_zero, List.getElem?_cons_succ, List.length_cons, List.length_nil, List.set_cons_zero, List.set_cons_succ, Value.category, decide_eq_true_eq, List.map_cons, List.map_nil, List.sum_cons, List.sum_nil, Option.toList, List.cons_append, List.nil_append, ite_true, ite_false, if_true, if_false, reduceCtorEq, true_and, and_true, narrow_i, narrow_l, narrow_r, narrow_n, fits_i, fits_l, fits_ro, fits_ra, fits_no, fits_na, Nat.reduceAdd, Nat.reduceLT, Nat.reduceLeDiff, Nat.reduceEqDiff, Nat.reduceSub, zero_add0, true_or, or_true, false_or, or_false, not_true_eq_false, not_false_eq_true, eq_self, i10, i01, im0, im1, hb, hob, h99a, h99b, n1, n2, n3, y1, y2, y3, z1, z2, z3, r1, r2, r3]
  refine d_check h.2.2.2.2.1 (fun hp1 c1 s1 => ?_)
  obtain ⟨b1, m1, k1, c1⟩ := h.cl s1 c1
  obtain ⟨fs1, hmb⟩ := m1.ob
  simp only [x_119_353, x_119_354, mw_nx, mw_no, mw_ite, mw_call, mw_ret, mw_cst, mw_ii, mw_i1, mw_ll, mw_l1, mw_li, mw_i2l, mw_l2i, mw_lcm, mw_if, mw_ic, mw_ifnN, mw_ifnR, mw_go, mw_dupi, mw_dupr, mw_popi, mw_popr, mw_nw, mw_rti, mw_rtl, mw_rtr, mw_rtn, mw_rtv, mw_rt0, mw_rt1, mj_ild, mj_lld, mj_ald, mj_ist, mj_lst, mj_ast, mj_inc, mj_iz, mj_get, mj_put, mj_len, mj_iar, mj_aar, mj_iaw, mj_aaw, mj_ivs, mj_ivv, mj_ivi, mj_ob, mj_tk, mj_cat, mj_st1, mj_st2, mj_clr, mj_nwi, mj_nwq, List.getElem?_cons_zero, List.getElem?_cons_succ, List.length_cons, List.length_nil, List.set_cons_zero, List.set_cons_succ, Value.category, decide_eq_true_eq, List.map_cons, List.map_nil, List.sum_cons, List.sum_nil, Option.toList, List.cons_append, List.nil_append, ite_true, ite_false, if_true, if_false, reduceCtorEq, true_and, and_true, narrow_i, narrow_l, narrow_r, narrow_n, fits_i, fits_l, fits_ro, fits_ra, fits_no, fits_na, Nat.reduceAdd, Nat.reduceLT, Nat.reduceLeDiff, Nat.reduceEqDiff, Nat.reduceSub, zero_add0, true_or, or_true, false_or, or_false, not_true_eq_false, not_false_eq_true, eq_self, i10, i01, im0, im1, b1, hmb, h99a, h99b, n1, n2, n3, y1, y2, y3, z1, z2, z3, r1, r2, r3]
  refine e_check m1 (fun hp2 m2 s2 => ?_)
  simp only [x_119_357, x_119_536, x_119_539, mw_nx, mw_no, mw_ite, mw_call, mw_ret, mw_cst, mw_ii, mw_i1, mw_ll, mw_l1, mw_li, mw_i2l, mw_l2i, mw_lcm, mw_if, mw_ic, mw_ifnN, mw_ifnR, mw_go, mw_dupi, mw_dupr, mw_popi, mw_popr, mw_nw, mw_rti, mw_rtl, mw_rtr, mw_rtn, mw_rtv, mw_rt0, mw_rt1, mj_ild, mj_lld, mj_ald, mj_ist, mj_lst, mj_ast, mj_inc, mj_iz, mj_get, mj_put, mj_len, mj_iar, mj_aar, mj_iaw, mj_aaw, mj_ivs, mj_ivv, mj_ivi, mj_ob, mj_tk, mj_cat, mj_st1, mj_st2, mj_clr, mj_nwi, mj_nwq, List.getElem?_cons_zero, List.getElem?_cons_succ, List.length_cons, List.length_nil, List.set_cons_zero, List.set_cons_succ, Value.category, decide_eq_true_eq, List.map_cons, List.map_nil, List.sum_cons, List.sum_nil, Option.toList, List.cons_append, List.nil_append, ite_true, ite_false, if_true, if_false, reduceCtorEq, true_and, and_true, narrow_i, narrow_l, narrow_r, narrow_n, fits_i, fits_l, fits_ro, fits_ra, fits_no, fits_na, Nat.reduceAdd, Nat.reduceLT, Nat.reduceLeDiff, Nat.reduceEqDiff, Nat.reduceSub, zero_add0, true_or, or_true, false_or, or_false, not_true_eq_false, not_false_eq_true, eq_self, i10, i01, im0, im1, i4]
  exact kk _ hp2 (lw_in.mo h.2.1 h.2.2.1 b1 k1 c1 s2 m2)
theorem law_8 (h : lw_in b z g o M c s hp) (hz : z < 2 ^ 31) (hi : i + 4 ≤ z) (kk : ∀ (s' : sp_S) (hp' : mj_H), lw_in b z g o M c s' hp' → mj_wp 119 28 [some (.ref b), some (.ref o), some (.ref M), some (.int (nI (i + 4)))] [] hp' Q) : mj_wp 119 362 [some (.ref b), some (.ref o), some (.ref M), some (.int (nI i))] [] hp Q := by
  have hb := h.1
  obtain ⟨fs, hob⟩ := h.2.2.2.2.1.ob
  have n1 : nI i + 1 = nI (i + 1) := nI_add i 1
  have n2 : nI i + 2 = nI (i + 2) := nI_add i 2
  have n3 : nI i + 3 = nI (i + 3) := nI_add i 3
  have i4 : nI i + 4 = nI (i + 4) := nI_add i 4
  have y1 : ¬ nI (i + 1) < 0 := nI_pos (by omega)
  have y2 : ¬ nI (i + 2) < 0 := nI_pos (by omega)
  have y3 : ¬ nI (i + 3) < 0 := nI_pos (by omega)
  have z1 : (nI (i + 1)).toNatClampNeg = i + 1 := nI_clamp (by omega)
  have z2 : (nI (i + 2)).toNatClampNeg = i + 2 := nI_clamp (by omega)
  have z3 : (nI (i + 3)).toNatClampNeg = i + 3 := nI_clamp (by omega)
  have r1 : ¬ z ≤ i + 1 := by omega
  have r2 : ¬ z ≤ i + 2 := by omega
  have r3 : ¬ z ≤ i + 3 := by omega
  simp only [x_119_362, x_119_363, mw_nx, mw_no, mw_ite, mw_call, mw_ret, mw_cst, mw_ii, mw_i1, mw_ll, mw_l1, mw_li, mw_i2l, mw_l2i, mw_lcm, mw_if, mw_ic, mw_ifnN, mw_ifnR, mw_go, mw_dupi, mw_dupr, mw_popi, mw_popr, mw_nw, mw_rti, mw_rtl, mw_rtr, mw_rtn, mw_rtv, mw_rt0, mw_rt1, mj_ild, mj_lld, mj_ald, mj_ist, mj_lst, mj_ast, mj_inc, mj_iz, mj_get, mj_put, mj_len, mj_iar, mj_aar, mj_iaw, mj_aaw, mj_ivs, mj_ivv, mj_ivi, mj_ob, mj_tk, mj_cat, mj_st1, mj_st2, mj_clr, mj_nwi, mj_nwq, List.getElem?_cons_zero, List.getElem?_cons_succ, List.length_cons, List.length_nil, List.set_cons_zero, List.set_cons_succ, Value.category, decide_eq_true_eq, List.map_cons, List.map_nil, List.sum_cons, List.sum_nil, Option.toList, List.cons_append, List.nil_append, ite_true, ite_false, if_true, if_false, reduceCtorEq, true_and, and_true, narrow_i, narrow_l, narrow_r, narrow_n, fits_i, fits_l, fits_ro, fits_ra, fits_no, fits_na, Nat.reduceAdd, Nat.reduceLT, Nat.reduceLeDiff, Nat.reduceEqDiff, Nat.reduceSub, zero_add0, true_or, or_true, false_or, or_false, not_true_eq_false, not_false_eq_true, eq_self, i10, i01, im0, im1, hb, hob, h99a, h99b, n1, n2, n3, y1, y2, y3, z1, z2, z3, r1, r2, r3]
  refine d_shorten h.2.2.2.2.1 (fun hp1 c1 s1 => ?_)
  obtain ⟨b1, m1, k1, c1⟩ := h.cl s1 c1
  obtain ⟨fs1, hmb⟩ := m1.ob
  simp only [x_119_366, x_119_367, mw_nx, mw_no, mw_ite, mw_call, mw_ret, mw_cst, mw_ii, mw_i1, mw_ll, mw_l1, mw_li, mw_i2l, mw_l2i, mw_lcm, mw_if, mw_ic, mw_ifnN, mw_ifnR, mw_go, mw_dupi, mw_dupr, mw_popi, mw_popr, mw_nw, mw_rti, mw_rtl, mw_rtr, mw_rtn, mw_rtv, mw_rt0, mw_rt1, mj_ild, mj_lld, mj_ald, mj_ist, mj_lst, mj_ast, mj_inc, mj_iz, mj_get, mj_put, mj_len, mj_iar, mj_aar, mj_iaw, mj_aaw, mj_ivs, mj_ivv, mj_ivi, mj_ob, mj_tk, mj_cat, mj_st1, mj_st2, mj_clr, mj_nwi, mj_nwq, List.getElem?_cons_zero, List.getElem?_cons_succ, List.length_cons, List.length_nil, List.set_cons_zero, List.set_cons_succ, Value.category, decide_eq_true_eq, List.map_cons, List.map_nil, List.sum_cons, List.sum_nil, Option.toList, List.cons_append, List.nil_append, ite_true, ite_false, if_true, if_false, reduceCtorEq, true_and, and_true, narrow_i, narrow_l, narrow_r, narrow_n, fits_i, fits_l, fits_ro, fits_ra, fits_no, fits_na, Nat.reduceAdd, Nat.reduceLT, Nat.reduceLeDiff, Nat.reduceEqDiff, Nat.reduceSub, zero_add0, true_or, or_true, false_or, or_false, not_true_eq_false, not_false_eq_true, eq_self, i10, i01, im0, im1, b1, hmb, h99a, h99b, n1, n2, n3, y1, y2, y3, z1, z2, z3, r1, r2, r3]
  refine e_shorten m1 (fun hp2 m2 s2 => ?_)
  simp only [x_119_370, x_119_536, x_119_539, mw_nx, mw_no, mw_ite, mw_call, mw_ret, mw_cst, mw_ii, mw_i1, mw_ll, mw_l1, mw_li, mw_i2l, mw_l2i, mw_lcm, mw_if, mw_ic, mw_ifnN, mw_ifnR, mw_go, mw_dupi, mw_dupr, mw_popi, mw_popr, mw_nw, mw_rti, mw_rtl, mw_rtr, mw_rtn, mw_rtv, mw_rt0, mw_rt1, mj_ild, mj_lld, mj_ald, mj_ist, mj_lst, mj_ast, mj_inc, mj_iz, mj_get, mj_put, mj_len, mj_iar, mj_aar, mj_iaw, mj_aaw, mj_ivs, mj_ivv, mj_ivi, mj_ob, mj_tk, mj_cat, mj_st1, mj_st2, mj_clr, mj_nwi, mj_nwq, List.getElem?_cons_zero, List.getElem?_cons_succ, List.length_cons, List.length_nil, List.set_cons_zero, List.set_cons_succ, Value.category, decide_eq_true_eq, List.map_cons, List.map_nil, List.sum_cons, List.sum_nil, Option.toList, List.cons_append, List.nil_append, ite_true, ite_false, if_true, if_false, reduceCtorEq, true_and, and_true, narrow_i, narrow_l, narrow_r, narrow_n, fits_i, fits_l, fits_ro, fits_ra, fits_no, fits_na, Nat.reduceAdd, Nat.reduceLT, Nat.reduceLeDiff, Nat.reduceEqDiff, Nat.reduceSub, zero_add0, true_or, or_true, false_or, or_false, not_true_eq_false, not_false_eq_true, eq_self, i10, i01, im0, im1, i4]
  exact kk _ hp2 (lw_in.mo h.2.1 h.2.2.1 b1 k1 c1 s2 m2)
theorem law_9 (h : lw_in b z g o M c s hp) (hz : z < 2 ^ 31) (hi : i + 4 ≤ z) (kk : ∀ (s' : sp_S) (hp' : mj_H), lw_in b z g o M c s' hp' → mj_wp 119 28 [some (.ref b), some (.ref o), some (.ref M), some (.int (nI (i + 4)))] [] hp' Q) : mj_wp 119 375 [some (.ref b), some (.ref o), some (.ref M), some (.int (nI i))] [] hp Q := by
  have hb := h.1
  obtain ⟨fs, hob⟩ := h.2.2.2.2.1.ob
  have n1 : nI i + 1 = nI (i + 1) := nI_add i 1
  have n2 : nI i + 2 = nI (i + 2) := nI_add i 2
  have n3 : nI i + 3 = nI (i + 3) := nI_add i 3
  have i4 : nI i + 4 = nI (i + 4) := nI_add i 4
  have y1 : ¬ nI (i + 1) < 0 := nI_pos (by omega)
  have y2 : ¬ nI (i + 2) < 0 := nI_pos (by omega)
  have y3 : ¬ nI (i + 3) < 0 := nI_pos (by omega)
  have z1 : (nI (i + 1)).toNatClampNeg = i + 1 := nI_clamp (by omega)
  have z2 : (nI (i + 2)).toNatClampNeg = i + 2 := nI_clamp (by omega)
  have z3 : (nI (i + 3)).toNatClampNeg = i + 3 := nI_clamp (by omega)
  have r1 : ¬ z ≤ i + 1 := by omega
  have r2 : ¬ z ≤ i + 2 := by omega
  have r3 : ¬ z ≤ i + 3 := by omega
  simp only [x_119_375, x_119_376, x_119_377, x_119_378, x_119_379, x_119_380, x_119_381, x_119_382, x_119_383, x_119_384, x_119_385, x_119_386, mw_nx, mw_no, mw_ite, mw_call, mw_ret, mw_cst, mw_ii, mw_i1, mw_ll, mw_l1, mw_li, mw_i2l, mw_l2i, mw_lcm, mw_if, mw_ic, mw_ifnN, mw_ifnR, mw_go, mw_dupi, mw_dupr, mw_popi, mw_popr, mw_nw, mw_rti, mw_rtl, mw_rtr, mw_rtn, mw_rtv, mw_rt0, mw_rt1, mj_ild, mj_lld, mj_ald, mj_ist, mj_lst, mj_ast, mj_inc, mj_iz, mj_get, mj_put, mj_len, mj_iar, mj_aar, mj_iaw, mj_aaw, mj_ivs, mj_ivv, mj_ivi, mj_ob, mj_tk, mj_cat, mj_st1, mj_st2, mj_clr, mj_nwi, mj_nwq, List.getElem?_cons_zero, List.getElem?_cons_succ, List.length_cons, List.length_nil, List.set_cons_zero, List.set_cons_succ, Value.category, decide_eq_true_eq, List.map_cons, List.map_nil, List.sum_cons, List.sum_nil, Option.toList, List.cons_append, List.nil_append, ite_true, ite_false, if_true, if_false, reduceCtorEq, true_and, and_true, narrow_i, narrow_l, narrow_r, narrow_n, fits_i, fits_l, fits_ro, fits_ra, fits_no, fits_na, Nat.reduceAdd, Nat.reduceLT, Nat.reduceLeDiff, Nat.reduceEqDiff, Nat.reduceSub, zero_add0, true_or, or_true, false_or, or_false, not_true_eq_false, not_false_eq_true, eq_self, i10, i01, im0, im1, hb, hob, h99a, h99b, n1, n2, n3, y1, y2, y3, z1, z2, z3, r1, r2, r3]
  refine d_turn (g (i + 1)) (g (i + 2)) h.2.2.2.2.1 (fun hp1 c1 s1 => ?_)
  obtain ⟨b1, m1, k1, c1⟩ := h.cl s1 c1
  obtain ⟨fs1, hmb⟩ := m1.ob
  simp only [x_119_389, x_119_390, x_119_391, x_119_392, x_119_393, x_119_394, x_119_395, x_119_396, x_119_397, x_119_398, x_119_399, x_119_400, mw_nx, mw_no, mw_ite, mw_call, mw_ret, mw_cst, mw_ii, mw_i1, mw_ll, mw_l1, mw_li, mw_i2l, mw_l2i, mw_lcm, mw_if, mw_ic, mw_ifnN, mw_ifnR, mw_go, mw_dupi, mw_dupr, mw_popi, mw_popr, mw_nw, mw_rti, mw_rtl, mw_rtr, mw_rtn, mw_rtv, mw_rt0, mw_rt1, mj_ild, mj_lld, mj_ald, mj_ist, mj_lst, mj_ast, mj_inc, mj_iz, mj_get, mj_put, mj_len, mj_iar, mj_aar, mj_iaw, mj_aaw, mj_ivs, mj_ivv, mj_ivi, mj_ob, mj_tk, mj_cat, mj_st1, mj_st2, mj_clr, mj_nwi, mj_nwq, List.getElem?_cons_zero, List.getElem?_cons_succ, List.length_cons, List.length_nil, List.set_cons_zero, List.set_cons_succ, Value.category, decide_eq_true_eq, List.map_cons, List.map_nil, List.sum_cons, List.sum_nil, Option.toList, List.cons_append, List.nil_append, ite_true, ite_false, if_true, if_false, reduceCtorEq, true_and, and_true, narrow_i, narrow_l, narrow_r, narrow_n, fits_i, fits_l, fits_ro, fits_ra, fits_no, fits_na, Nat.reduceAdd, Nat.reduceLT, Nat.reduceLeDiff, Nat.reduceEqDiff, Nat.reduceSub, zero_add0, true_or, or_true, false_or, or_false, not_true_eq_false, not_false_eq_true, eq_self, i10, i01, im0, im1, b1, hmb, h99a, h99b, n1, n2, n3, y1, y2, y3, z1, z2, z3, r1, r2, r3]
  refine e_turn (g (i + 1)) (g (i + 2)) m1 (fun hp2 m2 s2 => ?_)
  simp only [x_119_403, x_119_536, x_119_539, mw_nx, mw_no, mw_ite, mw_call, mw_ret, mw_cst, mw_ii, mw_i1, mw_ll, mw_l1, mw_li, mw_i2l, mw_l2i, mw_lcm, mw_if, mw_ic, mw_ifnN, mw_ifnR, mw_go, mw_dupi, mw_dupr, mw_popi, mw_popr, mw_nw, mw_rti, mw_rtl, mw_rtr, mw_rtn, mw_rtv, mw_rt0, mw_rt1, mj_ild, mj_lld, mj_ald, mj_ist, mj_lst, mj_ast, mj_inc, mj_iz, mj_get, mj_put, mj_len, mj_iar, mj_aar, mj_iaw, mj_aaw, mj_ivs, mj_ivv, mj_ivi, mj_ob, mj_tk, mj_cat, mj_st1, mj_st2, mj_clr, mj_nwi, mj_nwq, List.getElem?_cons_zero, List.getElem?_cons_succ, List.length_cons, List.length_nil, List.set_cons_zero, List.set_cons_succ, Value.category, decide_eq_true_eq, List.map_cons, List.map_nil, List.sum_cons, List.sum_nil, Option.toList, List.cons_append, List.nil_append, ite_true, ite_false, if_true, if_false, reduceCtorEq, true_and, and_true, narrow_i, narrow_l, narrow_r, narrow_n, fits_i, fits_l, fits_ro, fits_ra, fits_no, fits_na, Nat.reduceAdd, Nat.reduceLT, Nat.reduceLeDiff, Nat.reduceEqDiff, Nat.reduceSub, zero_add0, true_or, or_true, false_or, or_false, not_true_eq_false, not_false_eq_true, eq_self, i10, i01, im0, im1, i4]
  exact kk _ hp2 (lw_in.mo h.2.1 h.2.2.1 b1 k1 c1 s2 m2)
theorem law_10 (h : lw_in b z g o M c s hp) (hz : z < 2 ^ 31) (hi : i + 4 ≤ z) (kk : ∀ (s' : sp_S) (hp' : mj_H), lw_in b z g o M c s' hp' → mj_wp 119 28 [some (.ref b), some (.ref o), some (.ref M), some (.int (nI (i + 4)))] [] hp' Q) : mj_wp 119 408 [some (.ref b), some (.ref o), some (.ref M), some (.int (nI i))] [] hp Q := by
  have hb := h.1
  obtain ⟨fs, hob⟩ := h.2.2.2.2.1.ob
  have n1 : nI i + 1 = nI (i + 1) := nI_add i 1
  have n2 : nI i + 2 = nI (i + 2) := nI_add i 2
  have n3 : nI i + 3 = nI (i + 3) := nI_add i 3
  have i4 : nI i + 4 = nI (i + 4) := nI_add i 4
  have y1 : ¬ nI (i + 1) < 0 := nI_pos (by omega)
  have y2 : ¬ nI (i + 2) < 0 := nI_pos (by omega)
  have y3 : ¬ nI (i + 3) < 0 := nI_pos (by omega)
  have z1 : (nI (i + 1)).toNatClampNeg = i + 1 := nI_clamp (by omega)
  have z2 : (nI (i + 2)).toNatClampNeg = i + 2 := nI_clamp (by omega)
  have z3 : (nI (i + 3)).toNatClampNeg = i + 3 := nI_clamp (by omega)
  have r1 : ¬ z ≤ i + 1 := by omega
  have r2 : ¬ z ≤ i + 2 := by omega
  have r3 : ¬ z ≤ i + 3 := by omega
  simp only [x_119_408, x_119_409, mw_nx, mw_no, mw_ite, mw_call, mw_ret, mw_cst, mw_ii, mw_i1, mw_ll, mw_l1, mw_li, mw_i2l, mw_l2i, mw_lcm, mw_if, mw_ic, mw_ifnN, mw_ifnR, mw_go, mw_dupi, mw_dupr, mw_popi, mw_popr, mw_nw, mw_rti, mw_rtl, mw_rtr, mw_rtn, mw_rtv, mw_rt0, mw_rt1, mj_ild, mj_lld, mj_ald, mj_ist, mj_lst, mj_ast, mj_inc, mj_iz, mj_get, mj_put, mj_len, mj_iar, mj_aar, mj_iaw, mj_aaw, mj_ivs, mj_ivv, mj_ivi, mj_ob, mj_tk, mj_cat, mj_st1, mj_st2, mj_clr, mj_nwi, mj_nwq, List.getElem?_cons_zero, List.getElem?_cons_succ, List.length_cons, List.length_nil, List.set_cons_zero, List.set_cons_succ, Value.category, decide_eq_true_eq, List.map_cons, List.map_nil, List.sum_cons, List.sum_nil, Option.toList, List.cons_append, List.nil_append, ite_true, ite_false, if_true, if_false, reduceCtorEq, true_and, and_true, narrow_i, narrow_l, narrow_r, narrow_n, fits_i, fits_l, fits_ro, fits_ra, fits_no, fits_na, Nat.reduceAdd, Nat.reduceLT, Nat.reduceLeDiff, Nat.reduceEqDiff, Nat.reduceSub, zero_add0, true_or, or_true, false_or, or_false, not_true_eq_false, not_false_eq_true, eq_self, i10, i01, im0, im1, hb, hob, h99a, h99b, n1, n2, n3, y1, y2, y3, z1, z2, z3, r1, r2, r3]
  refine d_lines h.2.2.2.2.1 (fun hp1 c1 s1 => ?_)
  obtain ⟨b1, m1, k1, c1⟩ := h.cl s1 c1
  obtain ⟨fs1, hmb⟩ := m1.ob
  simp only [x_119_412, x_119_413, mw_nx, mw_no, mw_ite, mw_call, mw_ret, mw_cst, mw_ii, mw_i1, mw_ll, mw_l1, mw_li, mw_i2l, mw_l2i, mw_lcm, mw_if, mw_ic, mw_ifnN, mw_ifnR, mw_go, mw_dupi, mw_dupr, mw_popi, mw_popr, mw_nw, mw_rti, mw_rtl, mw_rtr, mw_rtn, mw_rtv, mw_rt0, mw_rt1, mj_ild, mj_lld, mj_ald, mj_ist, mj_lst, mj_ast, mj_inc, mj_iz, mj_get, mj_put, mj_len, mj_iar, mj_aar, mj_iaw, mj_aaw, mj_ivs, mj_ivv, mj_ivi, mj_ob, mj_tk, mj_cat, mj_st1, mj_st2, mj_clr, mj_nwi, mj_nwq, List.getElem?_cons_zero, List.getElem?_cons_succ, List.length_cons, List.length_nil, List.set_cons_zero, List.set_cons_succ, Value.category, decide_eq_true_eq, List.map_cons, List.map_nil, List.sum_cons, List.sum_nil, Option.toList, List.cons_append, List.nil_append, ite_true, ite_false, if_true, if_false, reduceCtorEq, true_and, and_true, narrow_i, narrow_l, narrow_r, narrow_n, fits_i, fits_l, fits_ro, fits_ra, fits_no, fits_na, Nat.reduceAdd, Nat.reduceLT, Nat.reduceLeDiff, Nat.reduceEqDiff, Nat.reduceSub, zero_add0, true_or, or_true, false_or, or_false, not_true_eq_false, not_false_eq_true, eq_self, i10, i01, im0, im1, b1, hmb, h99a, h99b, n1, n2, n3, y1, y2, y3, z1, z2, z3, r1, r2, r3]
  refine e_lines m1 (fun hp2 m2 s2 => ?_)
  simp only [x_119_416, x_119_536, x_119_539, mw_nx, mw_no, mw_ite, mw_call, mw_ret, mw_cst, mw_ii, mw_i1, mw_ll, mw_l1, mw_li, mw_i2l, mw_l2i, mw_lcm, mw_if, mw_ic, mw_ifnN, mw_ifnR, mw_go, mw_dupi, mw_dupr, mw_popi, mw_popr, mw_nw, mw_rti, mw_rtl, mw_rtr, mw_rtn, mw_rtv, mw_rt0, mw_rt1, mj_ild, mj_lld, mj_ald, mj_ist, mj_lst, mj_ast, mj_inc, mj_iz, mj_get, mj_put, mj_len, mj_iar, mj_aar, mj_iaw, mj_aaw, mj_ivs, mj_ivv, mj_ivi, mj_ob, mj_tk, mj_cat, mj_st1, mj_st2, mj_clr, mj_nwi, mj_nwq, List.getElem?_cons_zero, List.getElem?_cons_succ, List.length_cons, List.length_nil, List.set_cons_zero, List.set_cons_succ, Value.category, decide_eq_true_eq, List.map_cons, List.map_nil, List.sum_cons, List.sum_nil, Option.toList, List.cons_append, List.nil_append, ite_true, ite_false, if_true, if_false, reduceCtorEq, true_and, and_true, narrow_i, narrow_l, narrow_r, narrow_n, fits_i, fits_l, fits_ro, fits_ra, fits_no, fits_na, Nat.reduceAdd, Nat.reduceLT, Nat.reduceLeDiff, Nat.reduceEqDiff, Nat.reduceSub, zero_add0, true_or, or_true, false_or, or_false, not_true_eq_false, not_false_eq_true, eq_self, i10, i01, im0, im1, i4]
  exact kk _ hp2 (lw_in.mo h.2.1 h.2.2.1 b1 k1 c1 s2 m2)
theorem law_11 (h : lw_in b z g o M c s hp) (hz : z < 2 ^ 31) (hi : i + 4 ≤ z) (kk : ∀ (s' : sp_S) (hp' : mj_H), lw_in b z g o M c s' hp' → mj_wp 119 28 [some (.ref b), some (.ref o), some (.ref M), some (.int (nI (i + 4)))] [] hp' Q) : mj_wp 119 421 [some (.ref b), some (.ref o), some (.ref M), some (.int (nI i))] [] hp Q := by
  have hb := h.1
  obtain ⟨fs, hob⟩ := h.2.2.2.2.1.ob
  have n1 : nI i + 1 = nI (i + 1) := nI_add i 1
  have n2 : nI i + 2 = nI (i + 2) := nI_add i 2
  have n3 : nI i + 3 = nI (i + 3) := nI_add i 3
  have i4 : nI i + 4 = nI (i + 4) := nI_add i 4
  have y1 : ¬ nI (i + 1) < 0 := nI_pos (by omega)
  have y2 : ¬ nI (i + 2) < 0 := nI_pos (by omega)
  have y3 : ¬ nI (i + 3) < 0 := nI_pos (by omega)
  have z1 : (nI (i + 1)).toNatClampNeg = i + 1 := nI_clamp (by omega)
  have z2 : (nI (i + 2)).toNatClampNeg = i + 2 := nI_clamp (by omega)
  have z3 : (nI (i + 3)).toNatClampNeg = i + 3 := nI_clamp (by omega)
  have r1 : ¬ z ≤ i + 1 := by omega
  have r2 : ¬ z ≤ i + 2 := by omega
  have r3 : ¬ z ≤ i + 3 := by omega
  simp only [x_119_421, x_119_422, x_119_423, x_119_424, x_119_425, x_119_426, x_119_427, mw_nx, mw_no, mw_ite, mw_call, mw_ret, mw_cst, mw_ii, mw_i1, mw_ll, mw_l1, mw_li, mw_i2l, mw_l2i, mw_lcm, mw_if, mw_ic, mw_ifnN, mw_ifnR, mw_go, mw_dupi, mw_dupr, mw_popi, mw_popr, mw_nw, mw_rti, mw_rtl, mw_rtr, mw_rtn, mw_rtv, mw_rt0, mw_rt1, mj_ild, mj_lld, mj_ald, mj_ist, mj_lst, mj_ast, mj_inc, mj_iz, mj_get, mj_put, mj_len, mj_iar, mj_aar, mj_iaw, mj_aaw, mj_ivs, mj_ivv, mj_ivi, mj_ob, mj_tk, mj_cat, mj_st1, mj_st2, mj_clr, mj_nwi, mj_nwq, List.getElem?_cons_zero, List.getElem?_cons_succ, List.length_cons, List.length_nil, List.set_cons_zero, List.set_cons_succ, Value.category, decide_eq_true_eq, List.map_cons, List.map_nil, List.sum_cons, List.sum_nil, Option.toList, List.cons_append, List.nil_append, ite_true, ite_false, if_true, if_false, reduceCtorEq, true_and, and_true, narrow_i, narrow_l, narrow_r, narrow_n, fits_i, fits_l, fits_ro, fits_ra, fits_no, fits_na, Nat.reduceAdd, Nat.reduceLT, Nat.reduceLeDiff, Nat.reduceEqDiff, Nat.reduceSub, zero_add0, true_or, or_true, false_or, or_false, not_true_eq_false, not_false_eq_true, eq_self, i10, i01, im0, im1, hb, hob, h99a, h99b, n1, n2, n3, y1, y2, y3, z1, z2, z3, r1, r2, r3]
  refine d_kind (g (i + 1)) h.2.2.2.2.1 (fun hp1 c1 s1 => ?_)
  obtain ⟨b1, m1, k1, c1⟩ := h.cl s1 c1
  obtain ⟨fs1, hmb⟩ := m1.ob
  simp only [x_119_430, x_119_431, x_119_432, x_119_433, x_119_434, x_119_435, x_119_436, mw_nx, mw_no, mw_ite, mw_call, mw_ret, mw_cst, mw_ii, mw_i1, mw_ll, mw_l1, mw_li, mw_i2l, mw_l2i, mw_lcm, mw_if, mw_ic, mw_ifnN, mw_ifnR, mw_go, mw_dupi, mw_dupr, mw_popi, mw_popr, mw_nw, mw_rti, mw_rtl, mw_rtr, mw_rtn, mw_rtv, mw_rt0, mw_rt1, mj_ild, mj_lld, mj_ald, mj_ist, mj_lst, mj_ast, mj_inc, mj_iz, mj_get, mj_put, mj_len, mj_iar, mj_aar, mj_iaw, mj_aaw, mj_ivs, mj_ivv, mj_ivi, mj_ob, mj_tk, mj_cat, mj_st1, mj_st2, mj_clr, mj_nwi, mj_nwq, List.getElem?_cons_zero, List.getElem?_cons_succ, List.length_cons, List.length_nil, List.set_cons_zero, List.set_cons_succ, Value.category, decide_eq_true_eq, List.map_cons, List.map_nil, List.sum_cons, List.sum_nil, Option.toList, List.cons_append, List.nil_append, ite_true, ite_false, if_true, if_false, reduceCtorEq, true_and, and_true, narrow_i, narrow_l, narrow_r, narrow_n, fits_i, fits_l, fits_ro, fits_ra, fits_no, fits_na, Nat.reduceAdd, Nat.reduceLT, Nat.reduceLeDiff, Nat.reduceEqDiff, Nat.reduceSub, zero_add0, true_or, or_true, false_or, or_false, not_true_eq_false, not_false_eq_true, eq_self, i10, i01, im0, im1, b1, hmb, h99a, h99b, n1, n2, n3, y1, y2, y3, z1, z2, z3, r1, r2, r3]
  refine e_kind (g (i + 1)) m1 (fun hp2 m2 s2 => ?_)
  simp only [x_119_439, x_119_536, x_119_539, mw_nx, mw_no, mw_ite, mw_call, mw_ret, mw_cst, mw_ii, mw_i1, mw_ll, mw_l1, mw_li, mw_i2l, mw_l2i, mw_lcm, mw_if, mw_ic, mw_ifnN, mw_ifnR, mw_go, mw_dupi, mw_dupr, mw_popi, mw_popr, mw_nw, mw_rti, mw_rtl, mw_rtr, mw_rtn, mw_rtv, mw_rt0, mw_rt1, mj_ild, mj_lld, mj_ald, mj_ist, mj_lst, mj_ast, mj_inc, mj_iz, mj_get, mj_put, mj_len, mj_iar, mj_aar, mj_iaw, mj_aaw, mj_ivs, mj_ivv, mj_ivi, mj_ob, mj_tk, mj_cat, mj_st1, mj_st2, mj_clr, mj_nwi, mj_nwq, List.getElem?_cons_zero, List.getElem?_cons_succ, List.length_cons, List.length_nil, List.set_cons_zero, List.set_cons_succ, Value.category, decide_eq_true_eq, List.map_cons, List.map_nil, List.sum_cons, List.sum_nil, Option.toList, List.cons_append, List.nil_append, ite_true, ite_false, if_true, if_false, reduceCtorEq, true_and, and_true, narrow_i, narrow_l, narrow_r, narrow_n, fits_i, fits_l, fits_ro, fits_ra, fits_no, fits_na, Nat.reduceAdd, Nat.reduceLT, Nat.reduceLeDiff, Nat.reduceEqDiff, Nat.reduceSub, zero_add0, true_or, or_true, false_or, or_false, not_true_eq_false, not_false_eq_true, eq_self, i10, i01, im0, im1, i4]
  exact kk _ hp2 (lw_in.mo h.2.1 h.2.2.1 b1 k1 c1 s2 m2)
theorem law_12 (h : lw_in b z g o M c s hp) (hz : z < 2 ^ 31) (hi : i + 4 ≤ z) (kk : ∀ (s' : sp_S) (hp' : mj_H), lw_in b z g o M c s' hp' → mj_wp 119 28 [some (.ref b), some (.ref o), some (.ref M), some (.int (nI (i + 4)))] [] hp' Q) : mj_wp 119 444 [some (.ref b), some (.ref o), some (.ref M), some (.int (nI i))] [] hp Q := by
  have hb := h.1
  obtain ⟨fs, hob⟩ := h.2.2.2.2.1.ob
  have n1 : nI i + 1 = nI (i + 1) := nI_add i 1
  have n2 : nI i + 2 = nI (i + 2) := nI_add i 2
  have n3 : nI i + 3 = nI (i + 3) := nI_add i 3
  have i4 : nI i + 4 = nI (i + 4) := nI_add i 4
  have y1 : ¬ nI (i + 1) < 0 := nI_pos (by omega)
  have y2 : ¬ nI (i + 2) < 0 := nI_pos (by omega)
  have y3 : ¬ nI (i + 3) < 0 := nI_pos (by omega)
  have z1 : (nI (i + 1)).toNatClampNeg = i + 1 := nI_clamp (by omega)
  have z2 : (nI (i + 2)).toNatClampNeg = i + 2 := nI_clamp (by omega)
  have z3 : (nI (i + 3)).toNatClampNeg = i + 3 := nI_clamp (by omega)
  have r1 : ¬ z ≤ i + 1 := by omega
  have r2 : ¬ z ≤ i + 2 := by omega
  have r3 : ¬ z ≤ i + 3 := by omega
  simp only [x_119_444, x_119_445, x_119_446, x_119_447, x_119_448, x_119_449, x_119_450, x_119_451, x_119_452, x_119_453, x_119_454, x_119_455, mw_nx, mw_no, mw_ite, mw_call, mw_ret, mw_cst, mw_ii, mw_i1, mw_ll, mw_l1, mw_li, mw_i2l, mw_l2i, mw_lcm, mw_if, mw_ic, mw_ifnN, mw_ifnR, mw_go, mw_dupi, mw_dupr, mw_popi, mw_popr, mw_nw, mw_rti, mw_rtl, mw_rtr, mw_rtn, mw_rtv, mw_rt0, mw_rt1, mj_ild, mj_lld, mj_ald, mj_ist, mj_lst, mj_ast, mj_inc, mj_iz, mj_get, mj_put, mj_len, mj_iar, mj_aar, mj_iaw, mj_aaw, mj_ivs, mj_ivv, mj_ivi, mj_ob, mj_tk, mj_cat, mj_st1, mj_st2, mj_clr, mj_nwi, mj_nwq, List.getElem?_cons_zero, List.getElem?_cons_succ, List.length_cons, List.length_nil, List.set_cons_zero, List.set_cons_succ, Value.category, decide_eq_true_eq, List.map_cons, List.map_nil, List.sum_cons, List.sum_nil, Option.toList, List.cons_append, List.nil_append, ite_true, ite_false, if_true, if_false, reduceCtorEq, true_and, and_true, narrow_i, narrow_l, narrow_r, narrow_n, fits_i, fits_l, fits_ro, fits_ra, fits_no, fits_na, Nat.reduceAdd, Nat.reduceLT, Nat.reduceLeDiff, Nat.reduceEqDiff, Nat.reduceSub, zero_add0, true_or, or_true, false_or, or_false, not_true_eq_false, not_false_eq_true, eq_self, i10, i01, im0, im1, hb, hob, h99a, h99b, n1, n2, n3, y1, y2, y3, z1, z2, z3, r1, r2, r3]
  refine d_member (g (i + 1)) (g (i + 2)) h.2.2.2.2.1 (fun hp1 c1 s1 => ?_)
  obtain ⟨b1, m1, k1, c1⟩ := h.cl s1 c1
  obtain ⟨fs1, hmb⟩ := m1.ob
  simp only [x_119_458, x_119_459, x_119_460, x_119_461, x_119_462, x_119_463, x_119_464, x_119_465, x_119_466, x_119_467, x_119_468, x_119_469, mw_nx, mw_no, mw_ite, mw_call, mw_ret, mw_cst, mw_ii, mw_i1, mw_ll, mw_l1, mw_li, mw_i2l, mw_l2i, mw_lcm, mw_if, mw_ic, mw_ifnN, mw_ifnR, mw_go, mw_dupi, mw_dupr, mw_popi, mw_popr, mw_nw, mw_rti, mw_rtl, mw_rtr, mw_rtn, mw_rtv, mw_rt0, mw_rt1, mj_ild, mj_lld, mj_ald, mj_ist, mj_lst, mj_ast, mj_inc, mj_iz, mj_get, mj_put, mj_len, mj_iar, mj_aar, mj_iaw, mj_aaw, mj_ivs, mj_ivv, mj_ivi, mj_ob, mj_tk, mj_cat, mj_st1, mj_st2, mj_clr, mj_nwi, mj_nwq, List.getElem?_cons_zero, List.getElem?_cons_succ, List.length_cons, List.length_nil, List.set_cons_zero, List.set_cons_succ, Value.category, decide_eq_true_eq, List.map_cons, List.map_nil, List.sum_cons, List.sum_nil, Option.toList, List.cons_append, List.nil_append, ite_true, ite_false, if_true, if_false, reduceCtorEq, true_and, and_true, narrow_i, narrow_l, narrow_r, narrow_n, fits_i, fits_l, fits_ro, fits_ra, fits_no, fits_na, Nat.reduceAdd, Nat.reduceLT, Nat.reduceLeDiff, Nat.reduceEqDiff, Nat.reduceSub, zero_add0, true_or, or_true, false_or, or_false, not_true_eq_false, not_false_eq_true, eq_self, i10, i01, im0, im1, b1, hmb, h99a, h99b, n1, n2, n3, y1, y2, y3, z1, z2, z3, r1, r2, r3]
  refine e_member (g (i + 1)) (g (i + 2)) m1 (fun hp2 m2 s2 => ?_)
  simp only [x_119_472, x_119_536, x_119_539, mw_nx, mw_no, mw_ite, mw_call, mw_ret, mw_cst, mw_ii, mw_i1, mw_ll, mw_l1, mw_li, mw_i2l, mw_l2i, mw_lcm, mw_if, mw_ic, mw_ifnN, mw_ifnR, mw_go, mw_dupi, mw_dupr, mw_popi, mw_popr, mw_nw, mw_rti, mw_rtl, mw_rtr, mw_rtn, mw_rtv, mw_rt0, mw_rt1, mj_ild, mj_lld, mj_ald, mj_ist, mj_lst, mj_ast, mj_inc, mj_iz, mj_get, mj_put, mj_len, mj_iar, mj_aar, mj_iaw, mj_aaw, mj_ivs, mj_ivv, mj_ivi, mj_ob, mj_tk, mj_cat, mj_st1, mj_st2, mj_clr, mj_nwi, mj_nwq, List.getElem?_cons_zero, List.getElem?_cons_succ, List.length_cons, List.length_nil, List.set_cons_zero, List.set_cons_succ, Value.category, decide_eq_true_eq, List.map_cons, List.map_nil, List.sum_cons, List.sum_nil, Option.toList, List.cons_append, List.nil_append, ite_true, ite_false, if_true, if_false, reduceCtorEq, true_and, and_true, narrow_i, narrow_l, narrow_r, narrow_n, fits_i, fits_l, fits_ro, fits_ra, fits_no, fits_na, Nat.reduceAdd, Nat.reduceLT, Nat.reduceLeDiff, Nat.reduceEqDiff, Nat.reduceSub, zero_add0, true_or, or_true, false_or, or_false, not_true_eq_false, not_false_eq_true, eq_self, i10, i01, im0, im1, i4]
  exact kk _ hp2 (lw_in.mo h.2.1 h.2.2.1 b1 k1 c1 s2 m2)
theorem law_13 (h : lw_in b z g o M c s hp) (hz : z < 2 ^ 31) (hi : i + 4 ≤ z) (kk : ∀ (s' : sp_S) (hp' : mj_H), lw_in b z g o M c s' hp' → mj_wp 119 28 [some (.ref b), some (.ref o), some (.ref M), some (.int (nI (i + 4)))] [] hp' Q) : mj_wp 119 477 [some (.ref b), some (.ref o), some (.ref M), some (.int (nI i))] [] hp Q := by
  have hb := h.1
  obtain ⟨fs, hob⟩ := h.2.2.2.2.1.ob
  have n1 : nI i + 1 = nI (i + 1) := nI_add i 1
  have n2 : nI i + 2 = nI (i + 2) := nI_add i 2
  have n3 : nI i + 3 = nI (i + 3) := nI_add i 3
  have i4 : nI i + 4 = nI (i + 4) := nI_add i 4
  have y1 : ¬ nI (i + 1) < 0 := nI_pos (by omega)
  have y2 : ¬ nI (i + 2) < 0 := nI_pos (by omega)
  have y3 : ¬ nI (i + 3) < 0 := nI_pos (by omega)
  have z1 : (nI (i + 1)).toNatClampNeg = i + 1 := nI_clamp (by omega)
  have z2 : (nI (i + 2)).toNatClampNeg = i + 2 := nI_clamp (by omega)
  have z3 : (nI (i + 3)).toNatClampNeg = i + 3 := nI_clamp (by omega)
  have r1 : ¬ z ≤ i + 1 := by omega
  have r2 : ¬ z ≤ i + 2 := by omega
  have r3 : ¬ z ≤ i + 3 := by omega
  simp only [x_119_477, x_119_478, x_119_479, x_119_480, x_119_481, x_119_482, x_119_483, mw_nx, mw_no, mw_ite, mw_call, mw_ret, mw_cst, mw_ii, mw_i1, mw_ll, mw_l1, mw_li, mw_i2l, mw_l2i, mw_lcm, mw_if, mw_ic, mw_ifnN, mw_ifnR, mw_go, mw_dupi, mw_dupr, mw_popi, mw_popr, mw_nw, mw_rti, mw_rtl, mw_rtr, mw_rtn, mw_rtv, mw_rt0, mw_rt1, mj_ild, mj_lld, mj_ald, mj_ist, mj_lst, mj_ast, mj_inc, mj_iz, mj_get, mj_put, mj_len, mj_iar, mj_aar, mj_iaw, mj_aaw, mj_ivs, mj_ivv, mj_ivi, mj_ob, mj_tk, mj_cat, mj_st1, mj_st2, mj_clr, mj_nwi, mj_nwq, List.getElem?_cons_zero, List.getElem?_cons_succ, List.length_cons, List.length_nil, List.set_cons_zero, List.set_cons_succ, Value.category, decide_eq_true_eq, List.map_cons, List.map_nil, List.sum_cons, List.sum_nil, Option.toList, List.cons_append, List.nil_append, ite_true, ite_false, if_true, if_false, reduceCtorEq, true_and, and_true, narrow_i, narrow_l, narrow_r, narrow_n, fits_i, fits_l, fits_ro, fits_ra, fits_no, fits_na, Nat.reduceAdd, Nat.reduceLT, Nat.reduceLeDiff, Nat.reduceEqDiff, Nat.reduceSub, zero_add0, true_or, or_true, false_or, or_false, not_true_eq_false, not_false_eq_true, eq_self, i10, i01, im0, im1, hb, hob, h99a, h99b, n1, n2, n3, y1, y2, y3, z1, z2, z3, r1, r2, r3]
  refine d_text (g (i + 1)) h.2.2.2.2.1 (fun hp1 c1 s1 => ?_)
  obtain ⟨b1, m1, k1, c1⟩ := h.cl s1 c1
  obtain ⟨fs1, hmb⟩ := m1.ob
  simp only [x_119_486, x_119_487, x_119_488, x_119_489, x_119_490, x_119_491, x_119_492, mw_nx, mw_no, mw_ite, mw_call, mw_ret, mw_cst, mw_ii, mw_i1, mw_ll, mw_l1, mw_li, mw_i2l, mw_l2i, mw_lcm, mw_if, mw_ic, mw_ifnN, mw_ifnR, mw_go, mw_dupi, mw_dupr, mw_popi, mw_popr, mw_nw, mw_rti, mw_rtl, mw_rtr, mw_rtn, mw_rtv, mw_rt0, mw_rt1, mj_ild, mj_lld, mj_ald, mj_ist, mj_lst, mj_ast, mj_inc, mj_iz, mj_get, mj_put, mj_len, mj_iar, mj_aar, mj_iaw, mj_aaw, mj_ivs, mj_ivv, mj_ivi, mj_ob, mj_tk, mj_cat, mj_st1, mj_st2, mj_clr, mj_nwi, mj_nwq, List.getElem?_cons_zero, List.getElem?_cons_succ, List.length_cons, List.length_nil, List.set_cons_zero, List.set_cons_succ, Value.category, decide_eq_true_eq, List.map_cons, List.map_nil, List.sum_cons, List.sum_nil, Option.toList, List.cons_append, List.nil_append, ite_true, ite_false, if_true, if_false, reduceCtorEq, true_and, and_true, narrow_i, narrow_l, narrow_r, narrow_n, fits_i, fits_l, fits_ro, fits_ra, fits_no, fits_na, Nat.reduceAdd, Nat.reduceLT, Nat.reduceLeDiff, Nat.reduceEqDiff, Nat.reduceSub, zero_add0, true_or, or_true, false_or, or_false, not_true_eq_false, not_false_eq_true, eq_self, i10, i01, im0, im1, b1, hmb, h99a, h99b, n1, n2, n3, y1, y2, y3, z1, z2, z3, r1, r2, r3]
  refine e_text (g (i + 1)) m1 (fun hp2 m2 s2 => ?_)
  simp only [x_119_495, x_119_536, x_119_539, mw_nx, mw_no, mw_ite, mw_call, mw_ret, mw_cst, mw_ii, mw_i1, mw_ll, mw_l1, mw_li, mw_i2l, mw_l2i, mw_lcm, mw_if, mw_ic, mw_ifnN, mw_ifnR, mw_go, mw_dupi, mw_dupr, mw_popi, mw_popr, mw_nw, mw_rti, mw_rtl, mw_rtr, mw_rtn, mw_rtv, mw_rt0, mw_rt1, mj_ild, mj_lld, mj_ald, mj_ist, mj_lst, mj_ast, mj_inc, mj_iz, mj_get, mj_put, mj_len, mj_iar, mj_aar, mj_iaw, mj_aaw, mj_ivs, mj_ivv, mj_ivi, mj_ob, mj_tk, mj_cat, mj_st1, mj_st2, mj_clr, mj_nwi, mj_nwq, List.getElem?_cons_zero, List.getElem?_cons_succ, List.length_cons, List.length_nil, List.set_cons_zero, List.set_cons_succ, Value.category, decide_eq_true_eq, List.map_cons, List.map_nil, List.sum_cons, List.sum_nil, Option.toList, List.cons_append, List.nil_append, ite_true, ite_false, if_true, if_false, reduceCtorEq, true_and, and_true, narrow_i, narrow_l, narrow_r, narrow_n, fits_i, fits_l, fits_ro, fits_ra, fits_no, fits_na, Nat.reduceAdd, Nat.reduceLT, Nat.reduceLeDiff, Nat.reduceEqDiff, Nat.reduceSub, zero_add0, true_or, or_true, false_or, or_false, not_true_eq_false, not_false_eq_true, eq_self, i10, i01, im0, im1, i4]
  exact kk _ hp2 (lw_in.mo h.2.1 h.2.2.1 b1 k1 c1 s2 m2)
theorem law_14 (h : lw_in b z g o M c s hp) (hz : z < 2 ^ 31) (hi : i + 4 ≤ z) (kk : ∀ (s' : sp_S) (hp' : mj_H), lw_in b z g o M c s' hp' → mj_wp 119 28 [some (.ref b), some (.ref o), some (.ref M), some (.int (nI (i + 4)))] [] hp' Q) : mj_wp 119 500 [some (.ref b), some (.ref o), some (.ref M), some (.int (nI i))] [] hp Q := by
  have hb := h.1
  obtain ⟨fs, hob⟩ := h.2.2.2.2.1.ob
  have n1 : nI i + 1 = nI (i + 1) := nI_add i 1
  have n2 : nI i + 2 = nI (i + 2) := nI_add i 2
  have n3 : nI i + 3 = nI (i + 3) := nI_add i 3
  have i4 : nI i + 4 = nI (i + 4) := nI_add i 4
  have y1 : ¬ nI (i + 1) < 0 := nI_pos (by omega)
  have y2 : ¬ nI (i + 2) < 0 := nI_pos (by omega)
  have y3 : ¬ nI (i + 3) < 0 := nI_pos (by omega)
  have z1 : (nI (i + 1)).toNatClampNeg = i + 1 := nI_clamp (by omega)
  have z2 : (nI (i + 2)).toNatClampNeg = i + 2 := nI_clamp (by omega)
  have z3 : (nI (i + 3)).toNatClampNeg = i + 3 := nI_clamp (by omega)
  have r1 : ¬ z ≤ i + 1 := by omega
  have r2 : ¬ z ≤ i + 2 := by omega
  have r3 : ¬ z ≤ i + 3 := by omega
  simp only [x_119_500, x_119_501, x_119_502, x_119_503, x_119_504, x_119_505, x_119_506, mw_nx, mw_no, mw_ite, mw_call, mw_ret, mw_cst, mw_ii, mw_i1, mw_ll, mw_l1, mw_li, mw_i2l, mw_l2i, mw_lcm, mw_if, mw_ic, mw_ifnN, mw_ifnR, mw_go, mw_dupi, mw_dupr, mw_popi, mw_popr, mw_nw, mw_rti, mw_rtl, mw_rtr, mw_rtn, mw_rtv, mw_rt0, mw_rt1, mj_ild, mj_lld, mj_ald, mj_ist, mj_lst, mj_ast, mj_inc, mj_iz, mj_get, mj_put, mj_len, mj_iar, mj_aar, mj_iaw, mj_aaw, mj_ivs, mj_ivv, mj_ivi, mj_ob, mj_tk, mj_cat, mj_st1, mj_st2, mj_clr, mj_nwi, mj_nwq, List.getElem?_cons_zero, List.getElem?_cons_succ, List.length_cons, List.length_nil, List.set_cons_zero, List.set_cons_succ, Value.category, decide_eq_true_eq, List.map_cons, List.map_nil, List.sum_cons, List.sum_nil, Option.toList, List.cons_append, List.nil_append, ite_true, ite_false, if_true, if_false, reduceCtorEq, true_and, and_true, narrow_i, narrow_l, narrow_r, narrow_n, fits_i, fits_l, fits_ro, fits_ra, fits_no, fits_na, Nat.reduceAdd, Nat.reduceLT, Nat.reduceLeDiff, Nat.reduceEqDiff, Nat.reduceSub, zero_add0, true_or, or_true, false_or, or_false, not_true_eq_false, not_false_eq_true, eq_self, i10, i01, im0, im1, hb, hob, h99a, h99b, n1, n2, n3, y1, y2, y3, z1, z2, z3, r1, r2, r3]
  refine d_unit (g (i + 1)) h.2.2.2.2.1 (fun hp1 c1 s1 => ?_)
  obtain ⟨b1, m1, k1, c1⟩ := h.cl s1 c1
  obtain ⟨fs1, hmb⟩ := m1.ob
  simp only [x_119_509, x_119_510, x_119_511, x_119_512, x_119_513, x_119_514, x_119_515, mw_nx, mw_no, mw_ite, mw_call, mw_ret, mw_cst, mw_ii, mw_i1, mw_ll, mw_l1, mw_li, mw_i2l, mw_l2i, mw_lcm, mw_if, mw_ic, mw_ifnN, mw_ifnR, mw_go, mw_dupi, mw_dupr, mw_popi, mw_popr, mw_nw, mw_rti, mw_rtl, mw_rtr, mw_rtn, mw_rtv, mw_rt0, mw_rt1, mj_ild, mj_lld, mj_ald, mj_ist, mj_lst, mj_ast, mj_inc, mj_iz, mj_get, mj_put, mj_len, mj_iar, mj_aar, mj_iaw, mj_aaw, mj_ivs, mj_ivv, mj_ivi, mj_ob, mj_tk, mj_cat, mj_st1, mj_st2, mj_clr, mj_nwi, mj_nwq, List.getElem?_cons_zero, List.getElem?_cons_succ, List.length_cons, List.length_nil, List.set_cons_zero, List.set_cons_succ, Value.category, decide_eq_true_eq, List.map_cons, List.map_nil, List.sum_cons, List.sum_nil, Option.toList, List.cons_append, List.nil_append, ite_true, ite_false, if_true, if_false, reduceCtorEq, true_and, and_true, narrow_i, narrow_l, narrow_r, narrow_n, fits_i, fits_l, fits_ro, fits_ra, fits_no, fits_na, Nat.reduceAdd, Nat.reduceLT, Nat.reduceLeDiff, Nat.reduceEqDiff, Nat.reduceSub, zero_add0, true_or, or_true, false_or, or_false, not_true_eq_false, not_false_eq_true, eq_self, i10, i01, im0, im1, b1, hmb, h99a, h99b, n1, n2, n3, y1, y2, y3, z1, z2, z3, r1, r2, r3]
  refine e_unit (g (i + 1)) m1 (fun hp2 m2 s2 => ?_)
  simp only [x_119_518, x_119_536, x_119_539, mw_nx, mw_no, mw_ite, mw_call, mw_ret, mw_cst, mw_ii, mw_i1, mw_ll, mw_l1, mw_li, mw_i2l, mw_l2i, mw_lcm, mw_if, mw_ic, mw_ifnN, mw_ifnR, mw_go, mw_dupi, mw_dupr, mw_popi, mw_popr, mw_nw, mw_rti, mw_rtl, mw_rtr, mw_rtn, mw_rtv, mw_rt0, mw_rt1, mj_ild, mj_lld, mj_ald, mj_ist, mj_lst, mj_ast, mj_inc, mj_iz, mj_get, mj_put, mj_len, mj_iar, mj_aar, mj_iaw, mj_aaw, mj_ivs, mj_ivv, mj_ivi, mj_ob, mj_tk, mj_cat, mj_st1, mj_st2, mj_clr, mj_nwi, mj_nwq, List.getElem?_cons_zero, List.getElem?_cons_succ, List.length_cons, List.length_nil, List.set_cons_zero, List.set_cons_succ, Value.category, decide_eq_true_eq, List.map_cons, List.map_nil, List.sum_cons, List.sum_nil, Option.toList, List.cons_append, List.nil_append, ite_true, ite_false, if_true, if_false, reduceCtorEq, true_and, and_true, narrow_i, narrow_l, narrow_r, narrow_n, fits_i, fits_l, fits_ro, fits_ra, fits_no, fits_na, Nat.reduceAdd, Nat.reduceLT, Nat.reduceLeDiff, Nat.reduceEqDiff, Nat.reduceSub, zero_add0, true_or, or_true, false_or, or_false, not_true_eq_false, not_false_eq_true, eq_self, i10, i01, im0, im1, i4]
  exact kk _ hp2 (lw_in.mo h.2.1 h.2.2.1 b1 k1 c1 s2 m2)
theorem law_15 (h : lw_in b z g o M c s hp) (hz : z < 2 ^ 31) (hi : i + 4 ≤ z) (kk : ∀ (s' : sp_S) (hp' : mj_H), lw_in b z g o M c s' hp' → mj_wp 119 28 [some (.ref b), some (.ref o), some (.ref M), some (.int (nI (i + 4)))] [] hp' Q) : mj_wp 119 523 [some (.ref b), some (.ref o), some (.ref M), some (.int (nI i))] [] hp Q := by
  have hb := h.1
  obtain ⟨fs, hob⟩ := h.2.2.2.2.1.ob
  have n1 : nI i + 1 = nI (i + 1) := nI_add i 1
  have n2 : nI i + 2 = nI (i + 2) := nI_add i 2
  have n3 : nI i + 3 = nI (i + 3) := nI_add i 3
  have i4 : nI i + 4 = nI (i + 4) := nI_add i 4
  have y1 : ¬ nI (i + 1) < 0 := nI_pos (by omega)
  have y2 : ¬ nI (i + 2) < 0 := nI_pos (by omega)
  have y3 : ¬ nI (i + 3) < 0 := nI_pos (by omega)
  have z1 : (nI (i + 1)).toNatClampNeg = i + 1 := nI_clamp (by omega)
  have z2 : (nI (i + 2)).toNatClampNeg = i + 2 := nI_clamp (by omega)
  have z3 : (nI (i + 3)).toNatClampNeg = i + 3 := nI_clamp (by omega)
  have r1 : ¬ z ≤ i + 1 := by omega
  have r2 : ¬ z ≤ i + 2 := by omega
  have r3 : ¬ z ≤ i + 3 := by omega
  simp only [x_119_523, x_119_524, mw_nx, mw_no, mw_ite, mw_call, mw_ret, mw_cst, mw_ii, mw_i1, mw_ll, mw_l1, mw_li, mw_i2l, mw_l2i, mw_lcm, mw_if, mw_ic, mw_ifnN, mw_ifnR, mw_go, mw_dupi, mw_dupr, mw_popi, mw_popr, mw_nw, mw_rti, mw_rtl, mw_rtr, mw_rtn, mw_rtv, mw_rt0, mw_rt1, mj_ild, mj_lld, mj_ald, mj_ist, mj_lst, mj_ast, mj_inc, mj_iz, mj_get, mj_put, mj_len, mj_iar, mj_aar, mj_iaw, mj_aaw, mj_ivs, mj_ivv, mj_ivi, mj_ob, mj_tk, mj_cat, mj_st1, mj_st2, mj_clr, mj_nwi, mj_nwq, List.getElem?_cons_zero, List.getElem?_cons_succ, List.length_cons, List.length_nil, List.set_cons_zero, List.set_cons_succ, Value.category, decide_eq_true_eq, List.map_cons, List.map_nil, List.sum_cons, List.sum_nil, Option.toList, List.cons_append, List.nil_append, ite_true, ite_false, if_true, if_false, reduceCtorEq, true_and, and_true, narrow_i, narrow_l, narrow_r, narrow_n, fits_i, fits_l, fits_ro, fits_ra, fits_no, fits_na, Nat.reduceAdd, Nat.reduceLT, Nat.reduceLeDiff, Nat.reduceEqDiff, Nat.reduceSub, zero_add0, true_or, or_true, false_or, or_false, not_true_eq_false, not_false_eq_true, eq_self, i10, i01, im0, im1, hb, hob, h99a, h99b, n1, n2, n3, y1, y2, y3, z1, z2, z3, r1, r2, r3]
  refine d_read h.2.2.2.2.1 (fun hp1 c1 s1 => ?_)
  obtain ⟨b1, m1, k1, c1⟩ := h.cl s1 c1
  obtain ⟨fs1, hmb⟩ := m1.ob
  simp only [x_119_527, x_119_528, mw_nx, mw_no, mw_ite, mw_call, mw_ret, mw_cst, mw_ii, mw_i1, mw_ll, mw_l1, mw_li, mw_i2l, mw_l2i, mw_lcm, mw_if, mw_ic, mw_ifnN, mw_ifnR, mw_go, mw_dupi, mw_dupr, mw_popi, mw_popr, mw_nw, mw_rti, mw_rtl, mw_rtr, mw_rtn, mw_rtv, mw_rt0, mw_rt1, mj_ild, mj_lld, mj_ald, mj_ist, mj_lst, mj_ast, mj_inc, mj_iz, mj_get, mj_put, mj_len, mj_iar, mj_aar, mj_iaw, mj_aaw, mj_ivs, mj_ivv, mj_ivi, mj_ob, mj_tk, mj_cat, mj_st1, mj_st2, mj_clr, mj_nwi, mj_nwq, List.getElem?_cons_zero, List.getElem?_cons_succ, List.length_cons, List.length_nil, List.set_cons_zero, List.set_cons_succ, Value.category, decide_eq_true_eq, List.map_cons, List.map_nil, List.sum_cons, List.sum_nil, Option.toList, List.cons_append, List.nil_append, ite_true, ite_false, if_true, if_false, reduceCtorEq, true_and, and_true, narrow_i, narrow_l, narrow_r, narrow_n, fits_i, fits_l, fits_ro, fits_ra, fits_no, fits_na, Nat.reduceAdd, Nat.reduceLT, Nat.reduceLeDiff, Nat.reduceEqDiff, Nat.reduceSub, zero_add0, true_or, or_true, false_or, or_false, not_true_eq_false, not_false_eq_true, eq_self, i10, i01, im0, im1, b1, hmb, h99a, h99b, n1, n2, n3, y1, y2, y3, z1, z2, z3, r1, r2, r3]
  refine e_read m1 (fun hp2 m2 s2 => ?_)
  simp only [x_119_531, x_119_536, x_119_539, mw_nx, mw_no, mw_ite, mw_call, mw_ret, mw_cst, mw_ii, mw_i1, mw_ll, mw_l1, mw_li, mw_i2l, mw_l2i, mw_lcm, mw_if, mw_ic, mw_ifnN, mw_ifnR, mw_go, mw_dupi, mw_dupr, mw_popi, mw_popr, mw_nw, mw_rti, mw_rtl, mw_rtr, mw_rtn, mw_rtv, mw_rt0, mw_rt1, mj_ild, mj_lld, mj_ald, mj_ist, mj_lst, mj_ast, mj_inc, mj_iz, mj_get, mj_put, mj_len, mj_iar, mj_aar, mj_iaw, mj_aaw, mj_ivs, mj_ivv, mj_ivi, mj_ob, mj_tk, mj_cat, mj_st1, mj_st2, mj_clr, mj_nwi, mj_nwq, List.getElem?_cons_zero, List.getElem?_cons_succ, List.length_cons, List.length_nil, List.set_cons_zero, List.set_cons_succ, Value.category, decide_eq_true_eq, List.map_cons, List.map_nil, List.sum_cons, List.sum_nil, Option.toList, List.cons_append, List.nil_append, ite_true, ite_false, if_true, if_false, reduceCtorEq, true_and, and_true, narrow_i, narrow_l, narrow_r, narrow_n, fits_i, fits_l, fits_ro, fits_ra, fits_no, fits_na, Nat.reduceAdd, Nat.reduceLT, Nat.reduceLeDiff, Nat.reduceEqDiff, Nat.reduceSub, zero_add0, true_or, or_true, false_or, or_false, not_true_eq_false, not_false_eq_true, eq_self, i10, i01, im0, im1, i4]
  exact kk _ hp2 (lw_in.mo h.2.1 h.2.2.1 b1 k1 c1 s2 m2)
end LA
theorem law_loop {o M : Nat} {c : Nat × Nat} (hz : z ≤ 2049) (hQ : ∀ hp' : mj_H, hp'.2 = c → Q (some (.int 1)) hp') : ∀ (d i : Nat) (s : sp_S) (hp : mj_H), z ≤ i + 4 * d → i ≤ z + 4 → lw_in b z g o M c s hp → mj_wp 119 28 [some (.ref b), some (.ref o), some (.ref M), some (.int (nI i))] [] hp Q := by
  have e4 : (4 : Int32).toInt = 4 := by decide
  have cnd : ∀ i, i ≤ z + 4 → (Int32.ofNat z - 4 < nI i) = (z < i + 4) := by
    intro i hi
    apply propext
    have a1 : (Int32.ofNat z).toInt = (z : Int) := nI_toInt (by omega)
    have a2 : (nI i).toInt = (i : Int) := nI_toInt (by omega)
    have a3 : (Int32.ofNat z - 4).toInt = (z : Int) - 4 := by
      rw [Int32.toInt_sub, a1, e4]
      simp only [Int.bmod_def]
      omega
    rw [Int32.lt_iff_toInt_lt, a2, a3]
    omega
  have fin : ∀ (i : Nat) (s : sp_S) (hp : mj_H), z < i + 4 → i ≤ z + 4 → lw_in b z g o M c s hp → mj_wp 119 28 [some (.ref b), some (.ref o), some (.ref M), some (.int (nI i))] [] hp Q := by
    intro i s hp hi hi2 h
    have q := eq_true hi
    have hb := h.1
    rw [x_119_28]
    simp only [x_119_29, x_119_30, x_119_31, x_119_32, x_119_33, x_119_542, x_119_543, mw_nx, mw_no, mw_ite, mw_call, mw_ret, mw_cst, mw_ii, mw_i1, mw_ll, mw_l1, mw_li, mw_i2l, mw_l2i, mw_lcm, mw_if, mw_ic, mw_ifnN, mw_ifnR, mw_go, mw_dupi, mw_dupr, mw_popi, mw_popr, mw_nw, mw_rti, mw_rtl, mw_rtr, mw_rtn, mw_rtv, mw_rt0, mw_rt1, mj_ild, mj_lld, mj_ald, mj_ist, mj_lst, mj_ast, mj_inc, mj_iz, mj_get, mj_put, mj_len, mj_iar, mj_aar, mj_iaw, mj_aaw, mj_ivs, mj_ivv, mj_ivi, mj_ob, mj_tk, mj_cat, mj_st1, mj_st2, mj_clr, mj_nwi, mj_nwq, List.getElem?_cons_zero, List.getElem?_cons_succ, List.length_cons, List.length_nil, List.set_cons_zero, List.set_cons_succ, Value.category, decide_eq_true_eq, List.map_cons, List.map_nil, List.sum_cons, List.sum_nil, Option.toList, List.cons_append, List.nil_append, ite_true, ite_false, if_true, if_false, reduceCtorEq, true_and, and_true, narrow_i, narrow_l, narrow_r, narrow_n, fits_i, fits_l, fits_ro, fits_ra, fits_no, fits_na, Nat.reduceAdd, Nat.reduceLT, Nat.reduceLeDiff, Nat.reduceEqDiff, Nat.reduceSub, zero_add0, true_or, or_true, false_or, or_false, not_true_eq_false, not_false_eq_true, eq_self, i10, i01, im0, im1, hb, h99a, h99b, cnd i hi2, q]
    exact hQ hp h.2.2.2.1
  intro d
  induction d with
  | zero => intro i s hp hi hi2 h; exact fin i s hp (by omega) hi2 h
  | succ d ih =>
    intro i s hp hi hi2 h
    by_cases w : z < i + 4
    · exact fin i s hp w hi2 h
    · have q := eq_false w
      have hb := h.1
      have y0 : ¬ nI i < 0 := nI_pos (by omega)
      have z0 : (nI i).toNatClampNeg = i := nI_clamp (by omega)
      have r0 : ¬ z ≤ i := by omega
      have kk : ∀ (s' : sp_S) (hp' : mj_H), lw_in b z g o M c s' hp' → mj_wp 119 28 [some (.ref b), some (.ref o), some (.ref M), some (.int (nI (i + 4)))] [] hp' Q := fun s' hp' h' => ih (i + 4) s' hp' (by omega) (by omega) h'
      obtain ⟨k, hk, hx⟩ := lw_and (g i)
      rw [x_119_28]
      have head : mj_wp 119 42 [some (.ref b), some (.ref o), some (.ref M), some (.int (nI i))] [.int (g i &&& 15)] hp Q → mj_wpR 119 [some (.ref b), some (.ref o), some (.ref M), some (.int (nI i))] hp Q (mj_ild 3 29 [some (.ref b), some (.ref o), some (.ref M), some (.int (nI i))] [] hp) := by
        intro hh
        simp only [x_119_29, x_119_30, x_119_31, x_119_32, x_119_33, x_119_36, x_119_37, x_119_38, x_119_39, x_119_41, mw_nx, mw_no, mw_ite, mw_call, mw_ret, mw_cst, mw_ii, mw_i1, mw_ll, mw_l1, mw_li, mw_i2l, mw_l2i, mw_lcm, mw_if, mw_ic, mw_ifnN, mw_ifnR, mw_go, mw_dupi, mw_dupr, mw_popi, mw_popr, mw_nw, mw_rti, mw_rtl, mw_rtr, mw_rtn, mw_rtv, mw_rt0, mw_rt1, mj_ild, mj_lld, mj_ald, mj_ist, mj_lst, mj_ast, mj_inc, mj_iz, mj_get, mj_put, mj_len, mj_iar, mj_aar, mj_iaw, mj_aaw, mj_ivs, mj_ivv, mj_ivi, mj_ob, mj_tk, mj_cat, mj_st1, mj_st2, mj_clr, mj_nwi, mj_nwq, List.getElem?_cons_zero, List.getElem?_cons_succ, List.length_cons, List.length_nil, List.set_cons_zero, List.set_cons_succ, Value.category, decide_eq_true_eq, List.map_cons, List.map_nil, List.sum_cons, List.sum_nil, Option.toList, List.cons_append, List.nil_append, ite_true, ite_false, if_true, if_false, reduceCtorEq, true_and, and_true, narrow_i, narrow_l, narrow_r, narrow_n, fits_i, fits_l, fits_ro, fits_ra, fits_no, fits_na, Nat.reduceAdd, Nat.reduceLT, Nat.reduceLeDiff, Nat.reduceEqDiff, Nat.reduceSub, zero_add0, true_or, or_true, false_or, or_false, not_true_eq_false, not_false_eq_true, eq_self, i10, i01, im0, im1, hb, h99a, h99b, cnd i hi2, q, y0, z0, r0]
        exact hh
      apply head
      rw [hx, x_119_42]
      have hz31 : z < 2 ^ 31 := by omega
      have hi4 : i + 4 ≤ z := by omega
      match k, hk with
      | 0, _ => rw [sw_0]; exact law_0 h hz31 hi4 kk
      | 1, _ => rw [sw_1]; exact law_1 h hz31 hi4 kk
      | 2, _ => rw [sw_2]; exact law_2 h hz31 hi4 kk
      | 3, _ => rw [sw_3]; exact law_3 h hz31 hi4 kk
      | 4, _ => rw [sw_4]; exact law_4 h hz31 hi4 kk
      | 5, _ => rw [sw_5]; exact law_5 h hz31 hi4 kk
      | 6, _ => rw [sw_6]; exact law_6 h hz31 hi4 kk
      | 7, _ => rw [sw_7]; exact law_7 h hz31 hi4 kk
      | 8, _ => rw [sw_8]; exact law_8 h hz31 hi4 kk
      | 9, _ => rw [sw_9]; exact law_9 h hz31 hi4 kk
      | 10, _ => rw [sw_10]; exact law_10 h hz31 hi4 kk
      | 11, _ => rw [sw_11]; exact law_11 h hz31 hi4 kk
      | 12, _ => rw [sw_12]; exact law_12 h hz31 hi4 kk
      | 13, _ => rw [sw_13]; exact law_13 h hz31 hi4 kk
      | 14, _ => rw [sw_14]; exact law_14 h hz31 hi4 kk
      | 15, _ => rw [sw_15]; exact law_15 h hz31 hi4 kk
      | k + 16, hk => omega
theorem law_run (hb : hp.1 b = some (.inl (99, z, .inl g))) (hz : z ≤ 2049) (hbo : b < hp.2.1) (hQ : ∀ hp' : mj_H, hp'.2 = (hp.2.1 + 339, hp.2.2 + 50900) → Q (some (.int 1)) hp') : mj_call 119 [.ref b] hp Q := by
  have hz31 : z < 2 ^ 31 := by omega
  have hb1 : ∀ (e : va_E) (k : Nat), (mj_push hp e k).1 b = some (.inl (99, z, .inl g)) := fun e k => (mj_push_off (by omega)).trans hb
  rw [en_119]
  simp only [x_119_0, x_119_3, x_119_4, x_119_5, x_119_6, x_119_9, mw_nx, mw_no, mw_ite, mw_call, mw_ret, mw_cst, mw_ii, mw_i1, mw_ll, mw_l1, mw_li, mw_i2l, mw_l2i, mw_lcm, mw_if, mw_ic, mw_ifnN, mw_ifnR, mw_go, mw_dupi, mw_dupr, mw_popi, mw_popr, mw_nw, mw_rti, mw_rtl, mw_rtr, mw_rtn, mw_rtv, mw_rt0, mw_rt1, mj_ild, mj_lld, mj_ald, mj_ist, mj_lst, mj_ast, mj_inc, mj_iz, mj_get, mj_put, mj_len, mj_iar, mj_aar, mj_iaw, mj_aaw, mj_ivs, mj_ivv, mj_ivi, mj_ob, mj_tk, mj_cat, mj_st1, mj_st2, mj_clr, mj_nwi, mj_nwq, List.getElem?_cons_zero, List.getElem?_cons_succ, List.length_cons, List.length_nil, List.set_cons_zero, List.set_cons_succ, Value.category, decide_eq_true_eq, List.map_cons, List.map_nil, List.sum_cons, List.sum_nil, Option.toList, List.cons_append, List.nil_append, ite_true, ite_false, if_true, if_false, reduceCtorEq, true_and, and_true, narrow_i, narrow_l, narrow_r, narrow_n, fits_i, fits_l, fits_ro, fits_ra, fits_no, fits_na, Nat.reduceAdd, Nat.reduceLT, Nat.reduceLeDiff, Nat.reduceEqDiff, Nat.reduceSub, zero_add0, true_or, or_true, false_or, or_false, not_true_eq_false, not_false_eq_true, eq_self, i10, i01, im0, im1, law_cell (hb1 _ _) hz31]
  refine d_init _ mj_push_at rfl (fun hp1 c1 n1 q1 => ?_)
  have b1 : hp1.1 b = some (.inl (99, z, .inl g)) := (q1 b (by omega)).trans (hb1 _ _)
  have hM : hp1.2.1 = hp.2.1 + 331 := by rw [n1]
  have hs1 : hp1.2.2 = hp.2.2 + 5 + 25745 := by rw [n1]; rfl
  have hb2 : ∀ (e : va_E) (k : Nat), (mj_push hp1 e k).1 b = some (.inl (99, z, .inl g)) := fun e k => (mj_push_off (by omega)).trans b1
  simp only [x_119_12, x_119_13, x_119_16, x_119_17, x_119_18, x_119_19, x_119_22, mw_nx, mw_no, mw_ite, mw_call, mw_ret, mw_cst, mw_ii, mw_i1, mw_ll, mw_l1, mw_li, mw_i2l, mw_l2i, mw_lcm, mw_if, mw_ic, mw_ifnN, mw_ifnR, mw_go, mw_dupi, mw_dupr, mw_popi, mw_popr, mw_nw, mw_rti, mw_rtl, mw_rtr, mw_rtn, mw_rtv, mw_rt0, mw_rt1, mj_ild, mj_lld, mj_ald, mj_ist, mj_lst, mj_ast, mj_inc, mj_iz, mj_get, mj_put, mj_len, mj_iar, mj_aar, mj_iaw, mj_aaw, mj_ivs, mj_ivv, mj_ivi, mj_ob, mj_tk, mj_cat, mj_st1, mj_st2, mj_clr, mj_nwi, mj_nwq, List.getElem?_cons_zero, List.getElem?_cons_succ, List.length_cons, List.length_nil, List.set_cons_zero, List.set_cons_succ, Value.category, decide_eq_true_eq, List.map_cons, List.map_nil, List.sum_cons, List.sum_nil, Option.toList, List.cons_append, List.nil_append, ite_true, ite_false, if_true, if_false, reduceCtorEq, true_and, and_true, narrow_i, narrow_l, narrow_r, narrow_n, fits_i, fits_l, fits_ro, fits_ra, fits_no, fits_na, Nat.reduceAdd, Nat.reduceLT, Nat.reduceLeDiff, Nat.reduceEqDiff, Nat.reduceSub, zero_add0, true_or, or_true, false_or, or_false, not_true_eq_false, not_false_eq_true, eq_self, i10, i01, im0, im1, law_cell (hb2 _ _) hz31, hM]
  refine e_init _ (by rw [← hM, mj_push_at]) (by show hp1.2.1 + 1 = _; omega) (fun hp2 m2 n2 q2 => ?_)
  have n2' : hp2.2 = (hp.2.1 + 339, hp.2.2 + 50900) := by
    rw [n2]
    refine Prod.ext (by show hp.2.1 + 331 + 8 = _; omega) ?_
    show hp1.2.2 + 14 + 25136 = _
    omega
  have b2 : hp2.1 b = some (.inl (99, z, .inl g)) := (q2 b (by omega)).trans (hb2 _ _)
  have c2 : cl_at hp2 hp.2.1 (so_n (if 0 < z then g 0 else 0), [], [], []) := c1.keep (fun q _ hq => by rw [q2 q (by omega), mj_push_off (by omega)])
  simp only [x_119_25, x_119_26, x_119_27, mw_nx, mw_no, mw_ite, mw_call, mw_ret, mw_cst, mw_ii, mw_i1, mw_ll, mw_l1, mw_li, mw_i2l, mw_l2i, mw_lcm, mw_if, mw_ic, mw_ifnN, mw_ifnR, mw_go, mw_dupi, mw_dupr, mw_popi, mw_popr, mw_nw, mw_rti, mw_rtl, mw_rtr, mw_rtn, mw_rtv, mw_rt0, mw_rt1, mj_ild, mj_lld, mj_ald, mj_ist, mj_lst, mj_ast, mj_inc, mj_iz, mj_get, mj_put, mj_len, mj_iar, mj_aar, mj_iaw, mj_aaw, mj_ivs, mj_ivv, mj_ivi, mj_ob, mj_tk, mj_cat, mj_st1, mj_st2, mj_clr, mj_nwi, mj_nwq, List.getElem?_cons_zero, List.getElem?_cons_succ, List.length_cons, List.length_nil, List.set_cons_zero, List.set_cons_succ, Value.category, decide_eq_true_eq, List.map_cons, List.map_nil, List.sum_cons, List.sum_nil, Option.toList, List.cons_append, List.nil_append, ite_true, ite_false, if_true, if_false, reduceCtorEq, true_and, and_true, narrow_i, narrow_l, narrow_r, narrow_n, fits_i, fits_l, fits_ro, fits_ra, fits_no, fits_na, Nat.reduceAdd, Nat.reduceLT, Nat.reduceLeDiff, Nat.reduceEqDiff, Nat.reduceSub, zero_add0, true_or, or_true, false_or, or_false, not_true_eq_false, not_false_eq_true, eq_self, i10, i01, im0, im1]
  exact law_loop (o := hp.2.1) (M := hp.2.1 + 331) (c := (hp.2.1 + 339, hp.2.2 + 50900)) hz hQ z 1 _ hp2 (by omega) (by omega) ⟨b2, hbo, Nat.le_refl _, n2', c2, m2⟩
end LW
