/-! The reference: how its object comes to be -/
theorem st_new {m pc : Nat} {L : mj_L} {st : List Value} {hp : mj_H} {Q : mj_Q} {M k n : Nat} {e o : va_E} (h : hp.2.1 = M + k) (hk : 0 < k) (hn : ∀ hp' : mj_H, hp'.2.1 = M + (k + 1) → hp'.2.2 = hp.2.2 + n → hp'.1 M = some o → hp'.1 (M + k) = some e → (∀ q, q ≠ M → q ≠ M + k → hp'.1 q = hp.1 q) → mj_wp m pc L st hp' Q) : mj_wp m pc L st (mj_up (mj_push hp e n) M o) Q := by
  refine hn _ ?_ rfl mj_up_at ?_ (fun q h1 h2 => ?_)
  · show hp.2.1 + 1 = _
    omega
  · rw [mj_up_off (by omega), ← h, mj_push_at]
  · rw [mj_up_off h1, mj_push_off (by omega)]
theorem e_init {hp : mj_H} {Q : mj_Q} {M : Nat} (x : Int32) (h : hp.1 M = some (.inr (4, [.int 0, .null, .null, .null, .int 0, .null, .int 0, .null, .int 0, .int 0, .int 0, .int 0, .null, .null]))) (hM : hp.2.1 = M + 1) (hQ : ∀ hp' : mj_H, mo_at hp' M (so_n x, [], [], []) → hp'.2 = (M + 8, hp.2.2 + 25136) → (∀ q, q < M → hp'.1 q = hp.1 q) → Q none hp') : mj_call 74 [.ref M, .int x] hp Q := by
  have z0 : ((160 : Int32) < 0) = False := by decide
  have z1 : (160 : Int32).toNatClampNeg = 160 := by decide
  have z2 : (65536 < 160) = False := by decide
  have y0 : ((20480 : Int32) < 0) = False := by decide
  have y1 : (20480 : Int32).toNatClampNeg = 20480 := by decide
  have y2 : (65536 < 20480) = False := by decide
  have w0 : ((128 : Int32) < 0) = False := by decide
  have w1 : (128 : Int32).toNatClampNeg = 128 := by decide
  have w2 : (65536 < 128) = False := by decide
  have v0 : ((4000 : Int32) < 0) = False := by decide
  have v1 : (4000 : Int32).toNatClampNeg = 4000 := by decide
  have v2 : (65536 < 4000) = False := by decide
  have t0 : ((80 : Int32) < 0) = False := by decide
  have t1 : (80 : Int32).toNatClampNeg = 80 := by decide
  have t2 : (65536 < 80) = False := by decide
  have hoff : ∀ (hp : mj_H) (k : Nat) (e : va_E) (n : Nat), hp.2.1 = M + (k + 1) → (mj_push hp e n).1 M = hp.1 M := fun hp k e n q => mj_push_off (by omega)
  have p0 := fun (e : va_E) (n : Nat) => hoff hp 0 e n hM
  rw [en_74]
  simp only [x_74_0, x_74_1, x_74_4, x_74_5, x_74_8, x_74_10, mw_nx, mw_no, mw_ite, mw_call, mw_ret, mw_cst, mw_ii, mw_i1, mw_ll, mw_l1, mw_li, mw_i2l, mw_l2i, mw_lcm, mw_if, mw_ic, mw_ifnN, mw_ifnR, mw_go, mw_dupi, mw_dupr, mw_popi, mw_popr, mw_nw, mw_rti, mw_rtl, mw_rtr, mw_rtn, mw_rtv, mw_rt0, mw_rt1, mj_ild, mj_lld, mj_ald, mj_ist, mj_lst, mj_ast, mj_inc, mj_iz, mj_get, mj_put, mj_len, mj_iar, mj_aar, mj_iaw, mj_aaw, mj_ivs, mj_ivv, mj_ivi, mj_ob, mj_tk, mj_cat, mj_st1, mj_st2, mj_clr, mj_nwi, mj_nwq, List.getElem?_cons_zero, List.getElem?_cons_succ, List.length_cons, List.length_nil, List.set_cons_zero, List.set_cons_succ, Value.category, decide_eq_true_eq, List.map_cons, List.map_nil, List.sum_cons, List.sum_nil, Option.toList, List.cons_append, List.nil_append, ite_true, ite_false, if_true, if_false, reduceCtorEq, true_and, and_true, narrow_i, narrow_l, narrow_r, narrow_n, fits_i, fits_l, fits_ro, fits_ra, fits_no, fits_na, Nat.reduceAdd, Nat.reduceLT, Nat.reduceLeDiff, Nat.reduceEqDiff, Nat.reduceSub, zero_add0, true_or, or_true, false_or, or_false, not_true_eq_false, not_false_eq_true, eq_self, i10, i01, im0, im1, z0, z1, z2, p0, h, hM]
  refine st_new hM (by omega) (fun hp1 a1 a2 a3 a4 a5 => ?_)
  have p1 := fun (e : va_E) (n : Nat) => hoff hp1 1 e n a1
  simp only [x_74_13, x_74_14, x_74_17, x_74_19, mw_nx, mw_no, mw_ite, mw_call, mw_ret, mw_cst, mw_ii, mw_i1, mw_ll, mw_l1, mw_li, mw_i2l, mw_l2i, mw_lcm, mw_if, mw_ic, mw_ifnN, mw_ifnR, mw_go, mw_dupi, mw_dupr, mw_popi, mw_popr, mw_nw, mw_rti, mw_rtl, mw_rtr, mw_rtn, mw_rtv, mw_rt0, mw_rt1, mj_ild, mj_lld, mj_ald, mj_ist, mj_lst, mj_ast, mj_inc, mj_iz, mj_get, mj_put, mj_len, mj_iar, mj_aar, mj_iaw, mj_aaw, mj_ivs, mj_ivv, mj_ivi, mj_ob, mj_tk, mj_cat, mj_st1, mj_st2, mj_clr, mj_nwi, mj_nwq, List.getElem?_cons_zero, List.getElem?_cons_succ, List.length_cons, List.length_nil, List.set_cons_zero, List.set_cons_succ, Value.category, decide_eq_true_eq, List.map_cons, List.map_nil, List.sum_cons, List.sum_nil, Option.toList, List.cons_append, List.nil_append, ite_true, ite_false, if_true, if_false, reduceCtorEq, true_and, and_true, narrow_i, narrow_l, narrow_r, narrow_n, fits_i, fits_l, fits_ro, fits_ra, fits_no, fits_na, Nat.reduceAdd, Nat.reduceLT, Nat.reduceLeDiff, Nat.reduceEqDiff, Nat.reduceSub, zero_add0, true_or, or_true, false_or, or_false, not_true_eq_false, not_false_eq_true, eq_self, i10, i01, im0, im1, z0, z1, z2, p1, a3, a1]
  refine st_new a1 (by omega) (fun hp2 b1 b2 b3 b4 b5 => ?_)
  have p2 := fun (e : va_E) (n : Nat) => hoff hp2 2 e n b1
  simp only [x_74_22, x_74_23, x_74_26, x_74_28, mw_nx, mw_no, mw_ite, mw_call, mw_ret, mw_cst, mw_ii, mw_i1, mw_ll, mw_l1, mw_li, mw_i2l, mw_l2i, mw_lcm, mw_if, mw_ic, mw_ifnN, mw_ifnR, mw_go, mw_dupi, mw_dupr, mw_popi, mw_popr, mw_nw, mw_rti, mw_rtl, mw_rtr, mw_rtn, mw_rtv, mw_rt0, mw_rt1, mj_ild, mj_lld, mj_ald, mj_ist, mj_lst, mj_ast, mj_inc, mj_iz, mj_get, mj_put, mj_len, mj_iar, mj_aar, mj_iaw, mj_aaw, mj_ivs, mj_ivv, mj_ivi, mj_ob, mj_tk, mj_cat, mj_st1, mj_st2, mj_clr, mj_nwi, mj_nwq, List.getElem?_cons_zero, List.getElem?_cons_succ, List.length_cons, List.length_nil, List.set_cons_zero, List.set_cons_succ, Value.category, decide_eq_true_eq, List.map_cons, List.map_nil, List.sum_cons, List.sum_nil, Option.toList, List.cons_append, List.nil_append, ite_true, ite_false, if_true, if_false, reduceCtorEq, true_and, and_true, narrow_i, narrow_l, narrow_r, narrow_n, fits_i, fits_l, fits_ro, fits_ra, fits_no, fits_na, Nat.reduceAdd, Nat.reduceLT, Nat.reduceLeDiff, Nat.reduceEqDiff, Nat.reduceSub, zero_add0, true_or, or_true, false_or, or_false, not_true_eq_false, not_false_eq_true, eq_self, i10, i01, im0, im1, y0, y1, y2, p2, b3, b1]
  refine st_new b1 (by omega) (fun hp3 c1 c2 c3 c4 c5 => ?_)
  have p3 := fun (e : va_E) (n : Nat) => hoff hp3 3 e n c1
  simp only [x_74_31, x_74_32, x_74_35, x_74_37, mw_nx, mw_no, mw_ite, mw_call, mw_ret, mw_cst, mw_ii, mw_i1, mw_ll, mw_l1, mw_li, mw_i2l, mw_l2i, mw_lcm, mw_if, mw_ic, mw_ifnN, mw_ifnR, mw_go, mw_dupi, mw_dupr, mw_popi, mw_popr, mw_nw, mw_rti, mw_rtl, mw_rtr, mw_rtn, mw_rtv, mw_rt0, mw_rt1, mj_ild, mj_lld, mj_ald, mj_ist, mj_lst, mj_ast, mj_inc, mj_iz, mj_get, mj_put, mj_len, mj_iar, mj_aar, mj_iaw, mj_aaw, mj_ivs, mj_ivv, mj_ivi, mj_ob, mj_tk, mj_cat, mj_st1, mj_st2, mj_clr, mj_nwi, mj_nwq, List.getElem?_cons_zero, List.getElem?_cons_succ, List.length_cons, List.length_nil, List.set_cons_zero, List.set_cons_succ, Value.category, decide_eq_true_eq, List.map_cons, List.map_nil, List.sum_cons, List.sum_nil, Option.toList, List.cons_append, List.nil_append, ite_true, ite_false, if_true, if_false, reduceCtorEq, true_and, and_true, narrow_i, narrow_l, narrow_r, narrow_n, fits_i, fits_l, fits_ro, fits_ra, fits_no, fits_na, Nat.reduceAdd, Nat.reduceLT, Nat.reduceLeDiff, Nat.reduceEqDiff, Nat.reduceSub, zero_add0, true_or, or_true, false_or, or_false, not_true_eq_false, not_false_eq_true, eq_self, i10, i01, im0, im1, w0, w1, w2, p3, c3, c1]
  refine st_new c1 (by omega) (fun hp4 d1 d2 d3 d4 d5 => ?_)
  have p4 := fun (e : va_E) (n : Nat) => hoff hp4 4 e n d1
  simp only [x_74_40, x_74_41, x_74_44, x_74_46, mw_nx, mw_no, mw_ite, mw_call, mw_ret, mw_cst, mw_ii, mw_i1, mw_ll, mw_l1, mw_li, mw_i2l, mw_l2i, mw_lcm, mw_if, mw_ic, mw_ifnN, mw_ifnR, mw_go, mw_dupi, mw_dupr, mw_popi, mw_popr, mw_nw, mw_rti, mw_rtl, mw_rtr, mw_rtn, mw_rtv, mw_rt0, mw_rt1, mj_ild, mj_lld, mj_ald, mj_ist, mj_lst, mj_ast, mj_inc, mj_iz, mj_get, mj_put, mj_len, mj_iar, mj_aar, mj_iaw, mj_aaw, mj_ivs, mj_ivv, mj_ivi, mj_ob, mj_tk, mj_cat, mj_st1, mj_st2, mj_clr, mj_nwi, mj_nwq, List.getElem?_cons_zero, List.getElem?_cons_succ, List.length_cons, List.length_nil, List.set_cons_zero, List.set_cons_succ, Value.category, decide_eq_true_eq, List.map_cons, List.map_nil, List.sum_cons, List.sum_nil, Option.toList, List.cons_append, List.nil_append, ite_true, ite_false, if_true, if_false, reduceCtorEq, true_and, and_true, narrow_i, narrow_l, narrow_r, narrow_n, fits_i, fits_l, fits_ro, fits_ra, fits_no, fits_na, Nat.reduceAdd, Nat.reduceLT, Nat.reduceLeDiff, Nat.reduceEqDiff, Nat.reduceSub, zero_add0, true_or, or_true, false_or, or_false, not_true_eq_false, not_false_eq_true, eq_self, i10, i01, im0, im1, v0, v1, v2, p4, d3, d1]
  refine st_new d1 (by omega) (fun hp5 e1 e2 e3 e4 e5 => ?_)
  have p5 := fun (e : va_E) (n : Nat) => hoff hp5 5 e n e1
  simp only [x_74_49, x_74_50, x_74_53, x_74_55, mw_nx, mw_no, mw_ite, mw_call, mw_ret, mw_cst, mw_ii, mw_i1, mw_ll, mw_l1, mw_li, mw_i2l, mw_l2i, mw_lcm, mw_if, mw_ic, mw_ifnN, mw_ifnR, mw_go, mw_dupi, mw_dupr, mw_popi, mw_popr, mw_nw, mw_rti, mw_rtl, mw_rtr, mw_rtn, mw_rtv, mw_rt0, mw_rt1, mj_ild, mj_lld, mj_ald, mj_ist, mj_lst, mj_ast, mj_inc, mj_iz, mj_get, mj_put, mj_len, mj_iar, mj_aar, mj_iaw, mj_aaw, mj_ivs, mj_ivv, mj_ivi, mj_ob, mj_tk, mj_cat, mj_st1, mj_st2, mj_clr, mj_nwi, mj_nwq, List.getElem?_cons_zero, List.getElem?_cons_succ, List.length_cons, List.length_nil, List.set_cons_zero, List.set_cons_succ, Value.category, decide_eq_true_eq, List.map_cons, List.map_nil, List.sum_cons, List.sum_nil, Option.toList, List.cons_append, List.nil_append, ite_true, ite_false, if_true, if_false, reduceCtorEq, true_and, and_true, narrow_i, narrow_l, narrow_r, narrow_n, fits_i, fits_l, fits_ro, fits_ra, fits_no, fits_na, Nat.reduceAdd, Nat.reduceLT, Nat.reduceLeDiff, Nat.reduceEqDiff, Nat.reduceSub, zero_add0, true_or, or_true, false_or, or_false, not_true_eq_false, not_false_eq_true, eq_self, i10, i01, im0, im1, w0, w1, w2, p5, e3, e1]
  refine st_new e1 (by omega) (fun hp6 f1 f2 f3 f4 f5 => ?_)
  have p6 := fun (e : va_E) (n : Nat) => hoff hp6 6 e n f1
  simp only [x_74_58, x_74_59, x_74_61, x_74_63, mw_nx, mw_no, mw_ite, mw_call, mw_ret, mw_cst, mw_ii, mw_i1, mw_ll, mw_l1, mw_li, mw_i2l, mw_l2i, mw_lcm, mw_if, mw_ic, mw_ifnN, mw_ifnR, mw_go, mw_dupi, mw_dupr, mw_popi, mw_popr, mw_nw, mw_rti, mw_rtl, mw_rtr, mw_rtn, mw_rtv, mw_rt0, mw_rt1, mj_ild, mj_lld, mj_ald, mj_ist, mj_lst, mj_ast, mj_inc, mj_iz, mj_get, mj_put, mj_len, mj_iar, mj_aar, mj_iaw, mj_aaw, mj_ivs, mj_ivv, mj_ivi, mj_ob, mj_tk, mj_cat, mj_st1, mj_st2, mj_clr, mj_nwi, mj_nwq, List.getElem?_cons_zero, List.getElem?_cons_succ, List.length_cons, List.length_nil, List.set_cons_zero, List.set_cons_succ, Value.category, decide_eq_true_eq, List.map_cons, List.map_nil, List.sum_cons, List.sum_nil, Option.toList, List.cons_append, List.nil_append, ite_true, ite_false, if_true, if_false, reduceCtorEq, true_and, and_true, narrow_i, narrow_l, narrow_r, narrow_n, fits_i, fits_l, fits_ro, fits_ra, fits_no, fits_na, Nat.reduceAdd, Nat.reduceLT, Nat.reduceLeDiff, Nat.reduceEqDiff, Nat.reduceSub, zero_add0, true_or, or_true, false_or, or_false, not_true_eq_false, not_false_eq_true, eq_self, i10, i01, im0, im1, t0, t1, t2, p6, f3, f1]
  refine st_new f1 (by omega) (fun hp7 g1 g2 g3 g4 g5 => ?_)
  have fin : Q none (mj_up hp7 M (mo_o M (so_n x) 0 0 0 0 0 0)) := by
    refine hQ _ ⟨so_n_b x, 0, 0, 0, fun _ => (0, []), mj_up_at, ⟨fun _ => 0, fun _ => 0, fun _ => 0, ?_, ?_, ?_, fun i hi => ⟨rfl, rfl, fun j hj => absurd hj (by simp), ⟨List.nodup_nil, fun c hc => absurd hc List.not_mem_nil⟩, by simp⟩⟩, rfl, by simp, fun l hl => absurd hl List.not_mem_nil, ⟨fun _ => 0, ?_, fun j hj => absurd hj (by simp), List.nodup_nil, fun c hc => absurd hc List.not_mem_nil⟩, fun c hc => absurd hc List.not_mem_nil, ⟨fun _ => 0, ?_, fun j hj => absurd hj (by simp), by simp, fun c hc => absurd hc List.not_mem_nil⟩, ⟨fun _ => 0, ?_⟩, fun _ => 0, ?_⟩ ?_ ?_
    · rw [mj_up_off (by omega), g5 _ (by omega) (by omega), f5 _ (by omega) (by omega), e5 _ (by omega) (by omega), d5 _ (by omega) (by omega), c5 _ (by omega) (by omega), b5 _ (by omega) (by omega)]; exact a4
    · rw [mj_up_off (by omega), g5 _ (by omega) (by omega), f5 _ (by omega) (by omega), e5 _ (by omega) (by omega), d5 _ (by omega) (by omega), c5 _ (by omega) (by omega)]; exact b4
    · rw [mj_up_off (by omega), g5 _ (by omega) (by omega), f5 _ (by omega) (by omega), e5 _ (by omega) (by omega), d5 _ (by omega) (by omega)]; exact c4
    · rw [mj_up_off (by omega), g5 _ (by omega) (by omega), f5 _ (by omega) (by omega), e5 _ (by omega) (by omega)]; exact d4
    · rw [mj_up_off (by omega), g5 _ (by omega) (by omega), f5 _ (by omega) (by omega)]; exact e4
    · rw [mj_up_off (by omega), g5 _ (by omega) (by omega)]; exact f4
    · rw [mj_up_off (by omega)]; exact g4
    · show hp7.2 = _
      refine Prod.ext g1 ?_
      show hp7.2.2 = _
      omega
    · intro q hq
      rw [mj_up_off (by omega), g5 _ (by omega) (by omega), f5 _ (by omega) (by omega), e5 _ (by omega) (by omega), d5 _ (by omega) (by omega), c5 _ (by omega) (by omega), b5 _ (by omega) (by omega), a5 _ (by omega) (by omega)]
  have hso : nI (so_n x) = if x < 1 then 1 else if 64 < x then 64 else x := by
    unfold so_n
    by_cases u1 : x < 1
    · rw [if_pos u1, if_pos u1]; rfl
    · rw [if_neg u1, if_neg u1]
      by_cases u2 : 64 < x
      · rw [if_pos u2, if_pos u2]; rfl
      · rw [if_neg u2, if_neg u2]
        have e0 : ¬ x < 0 := by
          have h1 : (1 : Int32).toInt = 1 := by decide
          have : (0 : Int32).toInt = 0 := by decide
          rw [Int32.lt_iff_toInt_lt] at u1 ⊢; omega
        obtain ⟨j, hj, rfl⟩ := nI_of e0
        rw [nI_clamp hj]
  unfold mo_o at fin
  rw [hso] at fin
  by_cases u1 : x < 1
  · have u2 : ¬ (1 : Int32) ≤ x := by
      rw [Int32.le_iff_toInt_le]; rw [Int32.lt_iff_toInt_lt] at u1; omega
    rw [if_pos u1] at fin
    simp only [x_74_66, x_74_67, x_74_68, x_74_69, x_74_72, x_74_73, x_74_76, x_74_77, x_74_79, x_74_82, x_74_84, x_74_87, x_74_88, x_74_91, mw_nx, mw_no, mw_ite, mw_call, mw_ret, mw_cst, mw_ii, mw_i1, mw_ll, mw_l1, mw_li, mw_i2l, mw_l2i, mw_lcm, mw_if, mw_ic, mw_ifnN, mw_ifnR, mw_go, mw_dupi, mw_dupr, mw_popi, mw_popr, mw_nw, mw_rti, mw_rtl, mw_rtr, mw_rtn, mw_rtv, mw_rt0, mw_rt1, mj_ild, mj_lld, mj_ald, mj_ist, mj_lst, mj_ast, mj_inc, mj_iz, mj_get, mj_put, mj_len, mj_iar, mj_aar, mj_iaw, mj_aaw, mj_ivs, mj_ivv, mj_ivi, mj_ob, mj_tk, mj_cat, mj_st1, mj_st2, mj_clr, mj_nwi, mj_nwq, List.getElem?_cons_zero, List.getElem?_cons_succ, List.length_cons, List.length_nil, List.set_cons_zero, List.set_cons_succ, Value.category, decide_eq_true_eq, List.map_cons, List.map_nil, List.sum_cons, List.sum_nil, Option.toList, List.cons_append, List.nil_append, ite_true, ite_false, if_true, if_false, reduceCtorEq, true_and, and_true, narrow_i, narrow_l, narrow_r, narrow_n, fits_i, fits_l, fits_ro, fits_ra, fits_no, fits_na, Nat.reduceAdd, Nat.reduceLT, Nat.reduceLeDiff, Nat.reduceEqDiff, Nat.reduceSub, zero_add0, true_or, or_true, false_or, or_false, not_true_eq_false, not_false_eq_true, eq_self, i10, i01, im0, im1, g3, u2]
    exact fin
  · have u2 : (1 : Int32) ≤ x := by
      rw [Int32.le_iff_toInt_le]; rw [Int32.lt_iff_toInt_lt] at u1; omega
    rw [if_neg u1] at fin
    by_cases u3 : 64 < x
    · have u4 : ¬ x ≤ 64 := by
        rw [Int32.le_iff_toInt_le]; rw [Int32.lt_iff_toInt_lt] at u3; omega
      rw [if_pos u3] at fin
      simp only [x_74_66, x_74_67, x_74_68, x_74_69, x_74_72, x_74_73, x_74_76, x_74_77, x_74_79, x_74_82, x_74_84, x_74_87, x_74_88, x_74_91, mw_nx, mw_no, mw_ite, mw_call, mw_ret, mw_cst, mw_ii, mw_i1, mw_ll, mw_l1, mw_li, mw_i2l, mw_l2i, mw_lcm, mw_if, mw_ic, mw_ifnN, mw_ifnR, mw_go, mw_dupi, mw_dupr, mw_popi, mw_popr, mw_nw, mw_rti, mw_rtl, mw_rtr, mw_rtn, mw_rtv, mw_rt0, mw_rt1, mj_ild, mj_lld, mj_ald, mj_ist, mj_lst, mj_ast, mj_inc, mj_iz, mj_get, mj_put, mj_len, mj_iar, mj_aar, mj_iaw, mj_aaw, mj_ivs, mj_ivv, mj_ivi, mj_ob, mj_tk, mj_cat, mj_st1, mj_st2, mj_clr, mj_nwi, mj_nwq, List.getElem?_cons_zero, List.getElem?_cons_succ, List.length_cons, List.length_nil, List.set_cons_zero, List.set_cons_succ, Value.category, decide_eq_true_eq, List.map_cons, List.map_nil, List.sum_cons, List.sum_nil, Option.toList, List.cons_append, List.nil_append, ite_true, ite_false, if_true, if_false, reduceCtorEq, true_and, and_true, narrow_i, narrow_l, narrow_r, narrow_n, fits_i, fits_l, fits_ro, fits_ra, fits_no, fits_na, Nat.reduceAdd, Nat.reduceLT, Nat.reduceLeDiff, Nat.reduceEqDiff, Nat.reduceSub, zero_add0, true_or, or_true, false_or, or_false, not_true_eq_false, not_false_eq_true, eq_self, i10, i01, im0, im1, g3, u2, u4]
      exact fin
    · have u4 : x ≤ 64 := by
        rw [Int32.le_iff_toInt_le]; rw [Int32.lt_iff_toInt_lt] at u3; omega
      rw [if_neg u3] at fin
      simp only [x_74_66, x_74_67, x_74_68, x_74_69, x_74_72, x_74_73, x_74_76, x_74_77, x_74_79, x_74_82, x_74_84, x_74_87, x_74_88, x_74_91, mw_nx, mw_no, mw_ite, mw_call, mw_ret, mw_cst, mw_ii, mw_i1, mw_ll, mw_l1, mw_li, mw_i2l, mw_l2i, mw_lcm, mw_if, mw_ic, mw_ifnN, mw_ifnR, mw_go, mw_dupi, mw_dupr, mw_popi, mw_popr, mw_nw, mw_rti, mw_rtl, mw_rtr, mw_rtn, mw_rtv, mw_rt0, mw_rt1, mj_ild, mj_lld, mj_ald, mj_ist, mj_lst, mj_ast, mj_inc, mj_iz, mj_get, mj_put, mj_len, mj_iar, mj_aar, mj_iaw, mj_aaw, mj_ivs, mj_ivv, mj_ivi, mj_ob, mj_tk, mj_cat, mj_st1, mj_st2, mj_clr, mj_nwi, mj_nwq, List.getElem?_cons_zero, List.getElem?_cons_succ, List.length_cons, List.length_nil, List.set_cons_zero, List.set_cons_succ, Value.category, decide_eq_true_eq, List.map_cons, List.map_nil, List.sum_cons, List.sum_nil, Option.toList, List.cons_append, List.nil_append, ite_true, ite_false, if_true, if_false, reduceCtorEq, true_and, and_true, narrow_i, narrow_l, narrow_r, narrow_n, fits_i, fits_l, fits_ro, fits_ra, fits_no, fits_na, Nat.reduceAdd, Nat.reduceLT, Nat.reduceLeDiff, Nat.reduceEqDiff, Nat.reduceSub, zero_add0, true_or, or_true, false_or, or_false, not_true_eq_false, not_false_eq_true, eq_self, i10, i01, im0, im1, g3, u2, u4]
      exact fin
