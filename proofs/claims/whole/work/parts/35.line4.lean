/-! A Line: exchange -/
theorem ln_v_0 : ln_v [] (fun _ => 0) 0 0 := ⟨fun j hj => by simp at hj, fun j => by rw [lb_0]; simp, fun j => by rw [lb_0]; simp⟩
/-- the sets alone -/
def ln_w (cs : List Nat) (t u : Int64) : Prop := (∀ j, lb t j = decide (2 * j + 1 ∈ cs)) ∧ (∀ j, lb u j = decide (2 * j ∈ cs))
theorem ln_w_add {cs : List Nat} {t u : Int64} (hv : ln_w cs t u) {k : Nat} (hk : k < 128) : ln_w (cs ++ [k]) (t ||| tb k) (u ||| fb k) := by
  refine ⟨fun j => ?_, fun j => ?_⟩
  · rw [lb_or, hv.1, lb_tb hk]
    simp [List.mem_append, eq_comm, Bool.decide_or]
  · rw [lb_or, hv.2, lb_fb hk]
    simp [List.mem_append, eq_comm, Bool.decide_or]
theorem ln_ok_map {cs : List Nat} (h : ln_ok cs) {x y : Nat} (hx : x < 64) (hy : y < 64) : ln_ok (cs.map (sp_ex x y)) := by
  refine ⟨?_, fun c hc => ?_⟩
  · exact List.Pairwise.map _ (fun a b hab e => hab (sp_ex_inj e)) h.1
  · obtain ⟨d, hd, rfl⟩ := List.mem_map.mp hc
    exact sp_ex_lt hx hy (h.2 d hd)
theorem c_exchange {hp : mj_H} {Q : mj_Q} {a s x y : Nat} {cs : List Nat} (h : ln_at hp a (s, cs)) (hx : x < 64) (hy : y < 64) (hQ : ∀ hp' : mj_H, ln_at hp' a (s, cs.map (sp_ex x y)) → sm hp hp' a (a + 2) → Q (some (.int (nI (sp_exn x y cs)))) hp') : mj_call 39 [.ref a, .int (nI x), .int (nI y)] hp Q := by
  obtain ⟨f, t, u, h1, h2, hv, hok, hs⟩ := h
  dsimp only at h1 h2 hv hok hs
  have hlen := ln_len hok
  have o1 : ∀ (hp : mj_H) (e : va_E), (mj_up hp (a + 1) e).1 a = hp.1 a := fun _ _ => mj_up_off (by omega)
  have o2 : ∀ (hp : mj_H) (e : va_E), (mj_up hp a e).1 (a + 1) = hp.1 (a + 1) := fun _ _ => mj_up_off (by omega)
  have key : ∀ (rest done : List Nat) (n0 : Nat) (g : Nat → Int32) (t1 u1 : Int64) (hp1 : mj_H) (o5 o6 o7 : Option Value), cs = done ++ rest → n0 + sp_exn x y rest = sp_exn x y cs → (∀ j, j < cs.length → g j = nI ((done.map (sp_ex x y) ++ rest).getD j 0)) → ln_w (done.map (sp_ex x y)) t1 u1 → hp1.1 a = some (ln_o a cs.length s t1 u1) → hp1.1 (a + 1) = some (ln_c g) → sm hp hp1 a (a + 2) → mj_wp 39 15 [some (.ref a), some (.int (nI x)), some (.int (nI y)), some (.int (nI n0)), some (.int (nI done.length)), o5, o6, o7] [] hp1 Q := by
    intro rest
    induction rest with
    | nil =>
      intro done n0 g t1 u1 hp1 o5 o6 o7 hd hn hg hw b1 b2 hsm
      rw [List.append_nil] at hd
      subst hd
      have e1 : nI cs.length ≤ nI cs.length := nI_le (Nat.le_refl _) (by omega)
      rw [x_39_15]
      simp only [x_39_17, x_39_18, x_39_21, x_39_24, x_39_25, x_39_28, x_39_30, x_39_31, x_39_33, x_39_35, x_39_36, x_39_37, x_39_39, x_39_41, x_39_42, x_39_45, x_39_46, x_39_49, x_39_51, x_39_52, x_39_55, x_39_56, x_39_59, x_39_61, x_39_63, x_39_64, x_39_67, x_39_69, x_39_70, x_39_72, x_39_73, x_39_75, x_39_76, x_39_77, x_39_78, x_39_79, x_39_80, x_39_81, x_39_84, x_39_86, x_39_87, x_39_89, x_39_92, x_39_93, x_39_96, x_39_97, x_39_98, x_39_99, x_39_100, x_39_101, x_39_104, x_39_106, x_39_107, x_39_110, x_39_113, x_39_116, x_39_117, mw_nx, mw_no, mw_ite, mw_call, mw_ret, mw_cst, mw_ii, mw_i1, mw_ll, mw_l1, mw_li, mw_i2l, mw_l2i, mw_lcm, mw_if, mw_ic, mw_ifnN, mw_ifnR, mw_go, mw_dupi, mw_dupr, mw_popi, mw_popr, mw_nw, mw_rti, mw_rtl, mw_rtr, mw_rtn, mw_rtv, mw_rt0, mw_rt1, mj_ild, mj_lld, mj_ald, mj_ist, mj_lst, mj_ast, mj_inc, mj_iz, mj_get, mj_put, mj_len, mj_iar, mj_aar, mj_iaw, mj_aaw, mj_ivs, mj_ivv, mj_ivi, mj_ob, mj_tk, mj_cat, mj_st1, mj_st2, mj_clr, mj_nwi, mj_nwq, List.getElem?_cons_zero, List.getElem?_cons_succ, List.length_cons, List.length_nil, List.set_cons_zero, List.set_cons_succ, Value.category, decide_eq_true_eq, List.map_cons, List.map_nil, List.sum_cons, List.sum_nil, Option.toList, List.cons_append, List.nil_append, ite_true, ite_false, if_true, if_false, reduceCtorEq, true_and, and_true, narrow_i, narrow_l, narrow_r, narrow_n, fits_i, fits_l, fits_ro, fits_ra, fits_no, fits_na, Nat.reduceAdd, Nat.reduceLT, Nat.reduceLeDiff, Nat.reduceEqDiff, Nat.reduceSub, zero_add0, true_or, or_true, false_or, or_false, not_true_eq_false, not_false_eq_true, eq_self, i10, i01, im0, im1, b1, e1]
      have e2 : n0 = sp_exn x y cs := by simpa [sp_exn] using hn
      rw [e2]
      refine hQ hp1 ⟨g, t1, u1, ?_, b2, ⟨fun j hj => ?_, hw.1, hw.2⟩, ln_ok_map hok hx hy, hs⟩ hsm
      · rw [List.length_map]; exact b1
      · rw [List.length_map] at hj
        rw [hg j hj, List.append_nil]
    | cons c rest ih =>
      intro done n0 g t1 u1 hp1 o5 o6 o7 hd hn hg hw b1 b2 hsm
      have hlt : done.length < cs.length := by rw [hd]; simp
      have hc : c < 128 := hok.2 c (by rw [hd]; simp)
      have gi : g done.length = nI c := by
        rw [hg _ hlt]
        simp [List.getD_eq_getElem?_getD]
      have e1 : ¬ nI cs.length ≤ nI done.length := nI_ge hlt (by omega)
      have i0 : ¬ nI done.length < 0 := nI_pos (by omega)
      have i1 : (nI done.length).toNatClampNeg = done.length := nI_clamp (by omega)
      have i2 : ¬ 128 ≤ done.length := by omega
      have rem : ∀ v, v < 64 → 2 * v + c % 2 = sp_ex x y c → mj_wp 39 61 [some (.ref a), some (.int (nI x)), some (.int (nI y)), some (.int (nI n0)), some (.int (nI done.length)), some (.int (nI c)), some (.int (nI (c / 2))), o7] [.int (nI v)] hp1 Q := by
        intro v hv1 hv2
        have ev : (2 : Int32) * nI v + nI (c % 2) = nI (sp_ex x y c) := by
          rw [show (2 : Int32) = nI 2 from rfl, pk_mul, nI_add, hv2]
        have hx2 := sp_ex_lt hx hy hc
        have ee : (nI (sp_ex x y c) = nI c) = (sp_ex x y c = c) := propext (nI_eq (by omega) (by omega))
        have us : ∀ z, upd g done.length z done.length = z := fun z => by simp [upd]
        have fin : ∀ n1, n1 + sp_exn x y rest = sp_exn x y cs → mj_call 42 [.ref a, .int (nI (sp_ex x y c))] (mj_up hp1 (a + 1) (ln_c (upd g done.length (nI (sp_ex x y c))))) (fun r hp' => mj_wp 39 110 [some (.ref a), some (.int (nI x)), some (.int (nI y)), some (.int (nI n1)), some (.int (nI done.length)), some (.int (nI c)), some (.int (nI (c / 2))), some (.int (nI v))] (r.toList ++ []) hp' Q) := by
          intro n1 hn1
          rw [c_mark (n := cs.length) (s := s) (t := t1) (u := u1) (by rw [o1]; exact b1) (by omega)]
          simp only [x_39_110, x_39_113, mw_nx, mw_no, mw_ite, mw_call, mw_ret, mw_cst, mw_ii, mw_i1, mw_ll, mw_l1, mw_li, mw_i2l, mw_l2i, mw_lcm, mw_if, mw_ic, mw_ifnN, mw_ifnR, mw_go, mw_dupi, mw_dupr, mw_popi, mw_popr, mw_nw, mw_rti, mw_rtl, mw_rtr, mw_rtn, mw_rtv, mw_rt0, mw_rt1, mj_ild, mj_lld, mj_ald, mj_ist, mj_lst, mj_ast, mj_inc, mj_iz, mj_get, mj_put, mj_len, mj_iar, mj_aar, mj_iaw, mj_aaw, mj_ivs, mj_ivv, mj_ivi, mj_ob, mj_tk, mj_cat, mj_st1, mj_st2, mj_clr, mj_nwi, mj_nwq, List.getElem?_cons_zero, List.getElem?_cons_succ, List.length_cons, List.length_nil, List.set_cons_zero, List.set_cons_succ, Value.category, decide_eq_true_eq, List.map_cons, List.map_nil, List.sum_cons, List.sum_nil, Option.toList, List.cons_append, List.nil_append, ite_true, ite_false, if_true, if_false, reduceCtorEq, true_and, and_true, narrow_i, narrow_l, narrow_r, narrow_n, fits_i, fits_l, fits_ro, fits_ra, fits_no, fits_na, Nat.reduceAdd, Nat.reduceLT, Nat.reduceLeDiff, Nat.reduceEqDiff, Nat.reduceSub, zero_add0, true_or, or_true, false_or, or_false, not_true_eq_false, not_false_eq_true, eq_self, i10, i01, im0, im1, nI_1]
          have hdl : done.length + 1 = (done ++ [c]).length := by simp
          rw [hdl]
          refine ih (done ++ [c]) n1 (upd g done.length (nI (sp_ex x y c))) _ _ _ _ _ _ (by rw [hd]; simp) hn1 (fun j hj => ?_) (by rw [List.map_append]; exact ln_w_add hw hx2) mj_up_at (by rw [o2, mj_up_at]) (hsm.tr ((sm.up (by omega) (by omega)).tr (sm.up (by omega) (by omega))))
          by_cases hjd : j = done.length
          · subst hjd
            rw [us]
            simp [List.getD_eq_getElem?_getD]
          · rw [show upd g done.length (nI (sp_ex x y c)) j = g j by simp [upd, hjd], hg j hj]
            congr 1
            simp only [List.getD_eq_getElem?_getD, List.map_append, List.map_cons, List.map_nil, List.append_assoc]
            by_cases hjl : j < done.length
            · rw [List.getElem?_append_left (by simpa using hjl), List.getElem?_append_left (by simpa using hjl)]
            · rw [List.getElem?_append_right (by simp; omega), List.getElem?_append_right (by simp; omega)]
              simp only [List.length_map]
              rw [show j - done.length = (j - done.length - 1) + 1 by omega]
              simp
        rw [hd] at hn
        by_cases hee : sp_ex x y c = c
        · simp only [x_39_61, x_39_63, x_39_64, x_39_67, x_39_69, x_39_70, x_39_72, x_39_73, x_39_75, x_39_76, x_39_77, x_39_78, x_39_79, x_39_80, x_39_81, x_39_84, x_39_86, x_39_87, x_39_89, x_39_92, x_39_93, x_39_96, x_39_97, x_39_98, x_39_99, x_39_100, x_39_101, x_39_104, x_39_106, x_39_107, mw_nx, mw_no, mw_ite, mw_call, mw_ret, mw_cst, mw_ii, mw_i1, mw_ll, mw_l1, mw_li, mw_i2l, mw_l2i, mw_lcm, mw_if, mw_ic, mw_ifnN, mw_ifnR, mw_go, mw_dupi, mw_dupr, mw_popi, mw_popr, mw_nw, mw_rti, mw_rtl, mw_rtr, mw_rtn, mw_rtv, mw_rt0, mw_rt1, mj_ild, mj_lld, mj_ald, mj_ist, mj_lst, mj_ast, mj_inc, mj_iz, mj_get, mj_put, mj_len, mj_iar, mj_aar, mj_iaw, mj_aaw, mj_ivs, mj_ivv, mj_ivi, mj_ob, mj_tk, mj_cat, mj_st1, mj_st2, mj_clr, mj_nwi, mj_nwq, List.getElem?_cons_zero, List.getElem?_cons_succ, List.length_cons, List.length_nil, List.set_cons_zero, List.set_cons_succ, Value.category, decide_eq_true_eq, List.map_cons, List.map_nil, List.sum_cons, List.sum_nil, Option.toList, List.cons_append, List.nil_append, ite_true, ite_false, if_true, if_false, reduceCtorEq, true_and, and_true, narrow_i, narrow_l, narrow_r, narrow_n, fits_i, fits_l, fits_ro, fits_ra, fits_no, fits_na, Nat.reduceAdd, Nat.reduceLT, Nat.reduceLeDiff, Nat.reduceEqDiff, Nat.reduceSub, zero_add0, true_or, or_true, false_or, or_false, not_true_eq_false, not_false_eq_true, eq_self, i10, i01, im0, im1, b1, b2, o1, o2, mj_up_at, i0, i1, i2, at_0, at_len, us, cd_and1 (show c < 2 ^ 31 by omega), ev, ee, hee, add0]
          rw [hee] at fin
          refine fin n0 ?_
          rw [hd, ← hn]
          simp [sp_exn, List.countP_cons, hee]
        · simp only [x_39_61, x_39_63, x_39_64, x_39_67, x_39_69, x_39_70, x_39_72, x_39_73, x_39_75, x_39_76, x_39_77, x_39_78, x_39_79, x_39_80, x_39_81, x_39_84, x_39_86, x_39_87, x_39_89, x_39_92, x_39_93, x_39_96, x_39_97, x_39_98, x_39_99, x_39_100, x_39_101, x_39_104, x_39_106, x_39_107, mw_nx, mw_no, mw_ite, mw_call, mw_ret, mw_cst, mw_ii, mw_i1, mw_ll, mw_l1, mw_li, mw_i2l, mw_l2i, mw_lcm, mw_if, mw_ic, mw_ifnN, mw_ifnR, mw_go, mw_dupi, mw_dupr, mw_popi, mw_popr, mw_nw, mw_rti, mw_rtl, mw_rtr, mw_rtn, mw_rtv, mw_rt0, mw_rt1, mj_ild, mj_lld, mj_ald, mj_ist, mj_lst, mj_ast, mj_inc, mj_iz, mj_get, mj_put, mj_len, mj_iar, mj_aar, mj_iaw, mj_aaw, mj_ivs, mj_ivv, mj_ivi, mj_ob, mj_tk, mj_cat, mj_st1, mj_st2, mj_clr, mj_nwi, mj_nwq, List.getElem?_cons_zero, List.getElem?_cons_succ, List.length_cons, List.length_nil, List.set_cons_zero, List.set_cons_succ, Value.category, decide_eq_true_eq, List.map_cons, List.map_nil, List.sum_cons, List.sum_nil, Option.toList, List.cons_append, List.nil_append, ite_true, ite_false, if_true, if_false, reduceCtorEq, true_and, and_true, narrow_i, narrow_l, narrow_r, narrow_n, fits_i, fits_l, fits_ro, fits_ra, fits_no, fits_na, Nat.reduceAdd, Nat.reduceLT, Nat.reduceLeDiff, Nat.reduceEqDiff, Nat.reduceSub, zero_add0, true_or, or_true, false_or, or_false, not_true_eq_false, not_false_eq_true, eq_self, i10, i01, im0, im1, b1, b2, o1, o2, mj_up_at, i0, i1, i2, at_0, at_len, us, cd_and1 (show c < 2 ^ 31 by omega), ev, ee, hee, nI_1]
          refine fin (n0 + 1) ?_
          rw [hd, ← hn]
          simp [sp_exn, List.countP_cons, hee]
          omega
      have ex : (nI (c / 2) = nI x) = (c / 2 = x) := propext (nI_eq (by omega) (by omega))
      have ey : (nI (c / 2) = nI y) = (c / 2 = y) := propext (nI_eq (by omega) (by omega))
      rw [x_39_15]
      by_cases c1 : c / 2 = x
      · have q1 := eq_true c1
        simp only [x_39_17, x_39_18, x_39_21, x_39_24, x_39_25, x_39_28, x_39_30, x_39_31, x_39_33, x_39_35, x_39_36, x_39_37, x_39_39, x_39_41, x_39_42, x_39_45, x_39_46, x_39_49, x_39_51, x_39_52, x_39_55, x_39_56, x_39_59, mw_nx, mw_no, mw_ite, mw_call, mw_ret, mw_cst, mw_ii, mw_i1, mw_ll, mw_l1, mw_li, mw_i2l, mw_l2i, mw_lcm, mw_if, mw_ic, mw_ifnN, mw_ifnR, mw_go, mw_dupi, mw_dupr, mw_popi, mw_popr, mw_nw, mw_rti, mw_rtl, mw_rtr, mw_rtn, mw_rtv, mw_rt0, mw_rt1, mj_ild, mj_lld, mj_ald, mj_ist, mj_lst, mj_ast, mj_inc, mj_iz, mj_get, mj_put, mj_len, mj_iar, mj_aar, mj_iaw, mj_aaw, mj_ivs, mj_ivv, mj_ivi, mj_ob, mj_tk, mj_cat, mj_st1, mj_st2, mj_clr, mj_nwi, mj_nwq, List.getElem?_cons_zero, List.getElem?_cons_succ, List.length_cons, List.length_nil, List.set_cons_zero, List.set_cons_succ, Value.category, decide_eq_true_eq, List.map_cons, List.map_nil, List.sum_cons, List.sum_nil, Option.toList, List.cons_append, List.nil_append, ite_true, ite_false, if_true, if_false, reduceCtorEq, true_and, and_true, narrow_i, narrow_l, narrow_r, narrow_n, fits_i, fits_l, fits_ro, fits_ra, fits_no, fits_na, Nat.reduceAdd, Nat.reduceLT, Nat.reduceLeDiff, Nat.reduceEqDiff, Nat.reduceSub, zero_add0, true_or, or_true, false_or, or_false, not_true_eq_false, not_false_eq_true, eq_self, i10, i01, im0, im1, b1, b2, e1, i0, i1, i2, gi, at_0, at_len, cd_shr1 (show c < 2 ^ 31 by omega), ex, ey, q1]
        exact rem y hy (by unfold sp_ex; rw [if_pos c1])
      · have q1 := eq_false c1
        by_cases c2 : c / 2 = y
        · have q2 := eq_true c2
          simp only [x_39_17, x_39_18, x_39_21, x_39_24, x_39_25, x_39_28, x_39_30, x_39_31, x_39_33, x_39_35, x_39_36, x_39_37, x_39_39, x_39_41, x_39_42, x_39_45, x_39_46, x_39_49, x_39_51, x_39_52, x_39_55, x_39_56, x_39_59, mw_nx, mw_no, mw_ite, mw_call, mw_ret, mw_cst, mw_ii, mw_i1, mw_ll, mw_l1, mw_li, mw_i2l, mw_l2i, mw_lcm, mw_if, mw_ic, mw_ifnN, mw_ifnR, mw_go, mw_dupi, mw_dupr, mw_popi, mw_popr, mw_nw, mw_rti, mw_rtl, mw_rtr, mw_rtn, mw_rtv, mw_rt0, mw_rt1, mj_ild, mj_lld, mj_ald, mj_ist, mj_lst, mj_ast, mj_inc, mj_iz, mj_get, mj_put, mj_len, mj_iar, mj_aar, mj_iaw, mj_aaw, mj_ivs, mj_ivv, mj_ivi, mj_ob, mj_tk, mj_cat, mj_st1, mj_st2, mj_clr, mj_nwi, mj_nwq, List.getElem?_cons_zero, List.getElem?_cons_succ, List.length_cons, List.length_nil, List.set_cons_zero, List.set_cons_succ, Value.category, decide_eq_true_eq, List.map_cons, List.map_nil, List.sum_cons, List.sum_nil, Option.toList, List.cons_append, List.nil_append, ite_true, ite_false, if_true, if_false, reduceCtorEq, true_and, and_true, narrow_i, narrow_l, narrow_r, narrow_n, fits_i, fits_l, fits_ro, fits_ra, fits_no, fits_na, Nat.reduceAdd, Nat.reduceLT, Nat.reduceLeDiff, Nat.reduceEqDiff, Nat.reduceSub, zero_add0, true_or, or_true, false_or, or_false, not_true_eq_false, not_false_eq_true, eq_self, i10, i01, im0, im1, b1, b2, e1, i0, i1, i2, gi, at_0, at_len, cd_shr1 (show c < 2 ^ 31 by omega), ex, ey, q1, q2]
          exact rem x hx (by unfold sp_ex; rw [if_neg c1, if_pos c2])
        · have q2 := eq_false c2
          simp only [x_39_17, x_39_18, x_39_21, x_39_24, x_39_25, x_39_28, x_39_30, x_39_31, x_39_33, x_39_35, x_39_36, x_39_37, x_39_39, x_39_41, x_39_42, x_39_45, x_39_46, x_39_49, x_39_51, x_39_52, x_39_55, x_39_56, x_39_59, mw_nx, mw_no, mw_ite, mw_call, mw_ret, mw_cst, mw_ii, mw_i1, mw_ll, mw_l1, mw_li, mw_i2l, mw_l2i, mw_lcm, mw_if, mw_ic, mw_ifnN, mw_ifnR, mw_go, mw_dupi, mw_dupr, mw_popi, mw_popr, mw_nw, mw_rti, mw_rtl, mw_rtr, mw_rtn, mw_rtv, mw_rt0, mw_rt1, mj_ild, mj_lld, mj_ald, mj_ist, mj_lst, mj_ast, mj_inc, mj_iz, mj_get, mj_put, mj_len, mj_iar, mj_aar, mj_iaw, mj_aaw, mj_ivs, mj_ivv, mj_ivi, mj_ob, mj_tk, mj_cat, mj_st1, mj_st2, mj_clr, mj_nwi, mj_nwq, List.getElem?_cons_zero, List.getElem?_cons_succ, List.length_cons, List.length_nil, List.set_cons_zero, List.set_cons_succ, Value.category, decide_eq_true_eq, List.map_cons, List.map_nil, List.sum_cons, List.sum_nil, Option.toList, List.cons_append, List.nil_append, ite_true, ite_false, if_true, if_false, reduceCtorEq, true_and, and_true, narrow_i, narrow_l, narrow_r, narrow_n, fits_i, fits_l, fits_ro, fits_ra, fits_no, fits_na, Nat.reduceAdd, Nat.reduceLT, Nat.reduceLeDiff, Nat.reduceEqDiff, Nat.reduceSub, zero_add0, true_or, or_true, false_or, or_false, not_true_eq_false, not_false_eq_true, eq_self, i10, i01, im0, im1, b1, b2, e1, i0, i1, i2, gi, at_0, at_len, cd_shr1 (show c < 2 ^ 31 by omega), ex, ey, q1, q2]
          exact rem (c / 2) (by omega) (by unfold sp_ex; rw [if_neg c1, if_neg c2])
  rw [en_39]
  simp only [x_39_0, x_39_1, x_39_2, x_39_3, x_39_4, x_39_7, x_39_8, x_39_9, x_39_12, x_39_13, mw_nx, mw_no, mw_ite, mw_call, mw_ret, mw_cst, mw_ii, mw_i1, mw_ll, mw_l1, mw_li, mw_i2l, mw_l2i, mw_lcm, mw_if, mw_ic, mw_ifnN, mw_ifnR, mw_go, mw_dupi, mw_dupr, mw_popi, mw_popr, mw_nw, mw_rti, mw_rtl, mw_rtr, mw_rtn, mw_rtv, mw_rt0, mw_rt1, mj_ild, mj_lld, mj_ald, mj_ist, mj_lst, mj_ast, mj_inc, mj_iz, mj_get, mj_put, mj_len, mj_iar, mj_aar, mj_iaw, mj_aaw, mj_ivs, mj_ivv, mj_ivi, mj_ob, mj_tk, mj_cat, mj_st1, mj_st2, mj_clr, mj_nwi, mj_nwq, List.getElem?_cons_zero, List.getElem?_cons_succ, List.length_cons, List.length_nil, List.set_cons_zero, List.set_cons_succ, Value.category, decide_eq_true_eq, List.map_cons, List.map_nil, List.sum_cons, List.sum_nil, Option.toList, List.cons_append, List.nil_append, ite_true, ite_false, if_true, if_false, reduceCtorEq, true_and, and_true, narrow_i, narrow_l, narrow_r, narrow_n, fits_i, fits_l, fits_ro, fits_ra, fits_no, fits_na, Nat.reduceAdd, Nat.reduceLT, Nat.reduceLeDiff, Nat.reduceEqDiff, Nat.reduceSub, zero_add0, true_or, or_true, false_or, or_false, not_true_eq_false, not_false_eq_true, eq_self, i10, i01, im0, im1, h1, mj_up_at, mj_up_up]
  have := key cs [] 0 f 0 0 (mj_up hp a (ln_o a cs.length s 0 0)) none none none rfl (by simp) (fun j hj => by rw [hv.1 j hj]; simp) ⟨fun j => by rw [lb_0]; simp, fun j => by rw [lb_0]; simp⟩ mj_up_at (by rw [o2]; exact h2) (sm.up (by omega) (by omega))
  exact this
