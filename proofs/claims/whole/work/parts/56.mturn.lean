/-! The reference: turn and text -/
theorem i90 : ((9 : Int32) = 0) = False := by decide
theorem m_turned {hp : mj_H} {Q : mj_Q} {c x y : Nat} (hc : c < 128) (hx : x < 64) (hy : y < 64) : mj_call 101 [.int (nI c), .int (nI x), .int (nI y)] hp Q = Q (some (.int (nI (sp_ex x y c)))) hp := by
  have e5 : nI c / 2 = nI (c / 2) := pk_div (d := 2) (by omega) (by omega) (by omega)
  have e6 : nI c - nI (c / 2) * 2 = nI (c % 2) := by rw [← e5]; exact pk_rem (d := 2) (by omega) (by omega) (by omega)
  have e7 : (nI (c / 2) = nI x) = (c / 2 = x) := propext (nI_eq (by omega) (by omega))
  have e8 : (nI (c / 2) = nI y) = (c / 2 = y) := propext (nI_eq (by omega) (by omega))
  rw [en_101]
  unfold sp_ex
  by_cases w : c / 2 = x
  · have q := eq_true w
    rw [if_pos w]
    simp only [x_101_0, x_101_1, x_101_2, x_101_3, x_101_4, x_101_7, x_101_8, x_101_9, x_101_10, x_101_11, x_101_12, x_101_13, x_101_14, x_101_17, x_101_18, x_101_19, x_101_20, x_101_21, x_101_24, x_101_25, x_101_26, x_101_27, x_101_28, x_101_29, x_101_30, x_101_31, x_101_34, x_101_35, mw_nx, mw_no, mw_ite, mw_call, mw_ret, mw_cst, mw_ii, mw_i1, mw_ll, mw_l1, mw_li, mw_i2l, mw_l2i, mw_lcm, mw_if, mw_ic, mw_ifnN, mw_ifnR, mw_go, mw_dupi, mw_dupr, mw_popi, mw_popr, mw_nw, mw_rti, mw_rtl, mw_rtr, mw_rtn, mw_rtv, mw_rt0, mw_rt1, mj_ild, mj_lld, mj_ald, mj_ist, mj_lst, mj_ast, mj_inc, mj_iz, mj_get, mj_put, mj_len, mj_iar, mj_aar, mj_iaw, mj_aaw, mj_ivs, mj_ivv, mj_ivi, mj_ob, mj_tk, mj_cat, mj_st1, mj_st2, mj_clr, mj_nwi, mj_nwq, List.getElem?_cons_zero, List.getElem?_cons_succ, List.length_cons, List.length_nil, List.set_cons_zero, List.set_cons_succ, Value.category, decide_eq_true_eq, List.map_cons, List.map_nil, List.sum_cons, List.sum_nil, Option.toList, List.cons_append, List.nil_append, ite_true, ite_false, if_true, if_false, reduceCtorEq, true_and, and_true, narrow_i, narrow_l, narrow_r, narrow_n, fits_i, fits_l, fits_ro, fits_ra, fits_no, fits_na, Nat.reduceAdd, Nat.reduceLT, Nat.reduceLeDiff, Nat.reduceEqDiff, Nat.reduceSub, zero_add0, true_or, or_true, false_or, or_false, not_true_eq_false, not_false_eq_true, eq_self, i10, i01, im0, im1, mj_iz, i20, e5, e6, e7, q, dbl, nI_add]
  · have q := eq_false w
    rw [if_neg w]
    by_cases w2 : c / 2 = y
    · have q2 := eq_true w2
      rw [if_pos w2]
      simp only [x_101_0, x_101_1, x_101_2, x_101_3, x_101_4, x_101_7, x_101_8, x_101_9, x_101_10, x_101_11, x_101_12, x_101_13, x_101_14, x_101_17, x_101_18, x_101_19, x_101_20, x_101_21, x_101_24, x_101_25, x_101_26, x_101_27, x_101_28, x_101_29, x_101_30, x_101_31, x_101_34, x_101_35, mw_nx, mw_no, mw_ite, mw_call, mw_ret, mw_cst, mw_ii, mw_i1, mw_ll, mw_l1, mw_li, mw_i2l, mw_l2i, mw_lcm, mw_if, mw_ic, mw_ifnN, mw_ifnR, mw_go, mw_dupi, mw_dupr, mw_popi, mw_popr, mw_nw, mw_rti, mw_rtl, mw_rtr, mw_rtn, mw_rtv, mw_rt0, mw_rt1, mj_ild, mj_lld, mj_ald, mj_ist, mj_lst, mj_ast, mj_inc, mj_iz, mj_get, mj_put, mj_len, mj_iar, mj_aar, mj_iaw, mj_aaw, mj_ivs, mj_ivv, mj_ivi, mj_ob, mj_tk, mj_cat, mj_st1, mj_st2, mj_clr, mj_nwi, mj_nwq, List.getElem?_cons_zero, List.getElem?_cons_succ, List.length_cons, List.length_nil, List.set_cons_zero, List.set_cons_succ, Value.category, decide_eq_true_eq, List.map_cons, List.map_nil, List.sum_cons, List.sum_nil, Option.toList, List.cons_append, List.nil_append, ite_true, ite_false, if_true, if_false, reduceCtorEq, true_and, and_true, narrow_i, narrow_l, narrow_r, narrow_n, fits_i, fits_l, fits_ro, fits_ra, fits_no, fits_na, Nat.reduceAdd, Nat.reduceLT, Nat.reduceLeDiff, Nat.reduceEqDiff, Nat.reduceSub, zero_add0, true_or, or_true, false_or, or_false, not_true_eq_false, not_false_eq_true, eq_self, i10, i01, im0, im1, mj_iz, i20, e5, e6, e7, q, e8, q2, dbl, nI_add]
    · have q2 := eq_false w2
      rw [if_neg w2, show 2 * (c / 2) + c % 2 = c by omega]
      simp only [x_101_0, x_101_1, x_101_2, x_101_3, x_101_4, x_101_7, x_101_8, x_101_9, x_101_10, x_101_11, x_101_12, x_101_13, x_101_14, x_101_17, x_101_18, x_101_19, x_101_20, x_101_21, x_101_24, x_101_25, x_101_26, x_101_27, x_101_28, x_101_29, x_101_30, x_101_31, x_101_34, x_101_35, mw_nx, mw_no, mw_ite, mw_call, mw_ret, mw_cst, mw_ii, mw_i1, mw_ll, mw_l1, mw_li, mw_i2l, mw_l2i, mw_lcm, mw_if, mw_ic, mw_ifnN, mw_ifnR, mw_go, mw_dupi, mw_dupr, mw_popi, mw_popr, mw_nw, mw_rti, mw_rtl, mw_rtr, mw_rtn, mw_rtv, mw_rt0, mw_rt1, mj_ild, mj_lld, mj_ald, mj_ist, mj_lst, mj_ast, mj_inc, mj_iz, mj_get, mj_put, mj_len, mj_iar, mj_aar, mj_iaw, mj_aaw, mj_ivs, mj_ivv, mj_ivi, mj_ob, mj_tk, mj_cat, mj_st1, mj_st2, mj_clr, mj_nwi, mj_nwq, List.getElem?_cons_zero, List.getElem?_cons_succ, List.length_cons, List.length_nil, List.set_cons_zero, List.set_cons_succ, Value.category, decide_eq_true_eq, List.map_cons, List.map_nil, List.sum_cons, List.sum_nil, Option.toList, List.cons_append, List.nil_append, ite_true, ite_false, if_true, if_false, reduceCtorEq, true_and, and_true, narrow_i, narrow_l, narrow_r, narrow_n, fits_i, fits_l, fits_ro, fits_ra, fits_no, fits_na, Nat.reduceAdd, Nat.reduceLT, Nat.reduceLeDiff, Nat.reduceEqDiff, Nat.reduceSub, zero_add0, true_or, or_true, false_or, or_false, not_true_eq_false, not_false_eq_true, eq_self, i10, i01, im0, im1, mj_iz, i20, e5, e6, e7, q, e8, q2]
theorem sp_exn_snoc {x y c : Nat} {cs : List Nat} : sp_exn x y (cs ++ [c]) = sp_exn x y cs + (if sp_ex x y c = c then 0 else 1) := by
  unfold sp_exn
  rw [List.countP_append, List.countP_cons, List.countP_nil]
  by_cases h : sp_ex x y c = c <;> simp [h]
section MV
variable {hp : mj_H} {Q : mj_Q} {M : Nat} {s : sp_S}
theorem e_turn (fx ty : Int32) (h : mo_at hp M s) (hQ : ∀ hp' : mj_H, mo_at hp' M (so_turn fx ty s).1 → sm hp hp' M (M + 8) → Q (some (.int (so_turn fx ty s).2)) hp') : mj_call 102 [.ref M, .int fx, .int ty] hp Q := by
  obtain ⟨a, b, t0, C, hw⟩ := mo_w_of h
  have ho := hw.2.1
  have body : ∀ hp0 : mj_H, mo_w hp0 M a b 0 C s → sm hp hp0 M (M + 8) → mj_wp 102 5 [some (.ref M), some (.int fx), some (.int ty), none, none, none, none] [] hp0 Q := by
    obtain ⟨n, col, ls, xs⟩ := s
    intro hp0 hw0 s0
    have hw1 := hw0
    obtain ⟨hn, ho, hr, hmap, hk, hlv, hc, hcb, hu, hh⟩ := hw0
    dsimp only at *
    unfold so_turn at hQ
    dsimp only at hQ
    by_cases w1 : so_th n fx
    · have w1' : (0 ≤ fx ∧ fx < nI n) = True := eq_true w1
      by_cases w2 : so_th n ty
      · have w2' : (0 ≤ ty ∧ ty < nI n) = True := eq_true w2
        obtain ⟨x, hx, hxe, hxc⟩ := so_th_nat hn.2 w1
        obtain ⟨y, hy, hye, hyc⟩ := so_th_nat hn.2 w2
        rw [sp_if_t ⟨w1, w2⟩, hxc, hyc] at hQ
        simp only [x_102_5, x_102_6, x_102_7, x_102_10, x_102_13, x_102_14, x_102_15, x_102_18, x_102_21, x_102_22, x_102_23, x_102_24, x_102_25, x_102_26, mw_nx, mw_no, mw_ite, mw_call, mw_ret, mw_cst, mw_ii, mw_i1, mw_ll, mw_l1, mw_li, mw_i2l, mw_l2i, mw_lcm, mw_if, mw_ic, mw_ifnN, mw_ifnR, mw_go, mw_dupi, mw_dupr, mw_popi, mw_popr, mw_nw, mw_rti, mw_rtl, mw_rtr, mw_rtn, mw_rtv, mw_rt0, mw_rt1, mj_ild, mj_lld, mj_ald, mj_ist, mj_lst, mj_ast, mj_inc, mj_iz, mj_get, mj_put, mj_len, mj_iar, mj_aar, mj_iaw, mj_aaw, mj_ivs, mj_ivv, mj_ivi, mj_ob, mj_tk, mj_cat, mj_st1, mj_st2, mj_clr, mj_nwi, mj_nwq, List.getElem?_cons_zero, List.getElem?_cons_succ, List.length_cons, List.length_nil, List.set_cons_zero, List.set_cons_succ, Value.category, decide_eq_true_eq, List.map_cons, List.map_nil, List.sum_cons, List.sum_nil, Option.toList, List.cons_append, List.nil_append, ite_true, ite_false, if_true, if_false, reduceCtorEq, true_and, and_true, narrow_i, narrow_l, narrow_r, narrow_n, fits_i, fits_l, fits_ro, fits_ra, fits_no, fits_na, Nat.reduceAdd, Nat.reduceLT, Nat.reduceLeDiff, Nat.reduceEqDiff, Nat.reduceSub, zero_add0, true_or, or_true, false_or, or_false, not_true_eq_false, not_false_eq_true, eq_self, i10, i01, im0, im1, ho, m_isThing fx ho, w1', m_isThing ty ho, w2']
        rw [hxe, hye]
        have hx6 : x < 64 := by omega
        have hy6 : y < 64 := by omega
        have hbig : ∀ i, pf_exn C x y i ≤ 128 * i → True := fun _ _ => trivial
        have third : ∀ (hp1 : mj_H), hp1.1 M = some (mo_o M n ls.length col.length xs.length a b 0) → rows hp1 M (pf_ex C x y ls.length) → sm hp0 hp1 M (M + 4) → ∀ (o5 o6 : Option Value) (rest done : List Nat) (cn : Nat) (g : Nat → Int32) (hp2 : mj_H) (o5 : Option Value), col = done ++ rest → cn = pf_exn C x y ls.length + sp_exn x y done → (∀ j, j < col.length → g j = nI ((done.map (sp_ex x y) ++ rest).getD j 0)) → hp2.1 (M + 4) = some (ma 128 g) → sm hp1 hp2 (M + 4) (M + 5) → mj_wp 102 117 [some (.ref M), some (.int (nI x)), some (.int (nI y)), some (.int (nI cn)), some (.int (nI done.length)), o5, o6] [] hp2 Q := by
          intro hp1 o1 r1 s1 o5' o6 rest
          obtain ⟨fc, c1, c2, c3⟩ := hc
          have hlen := ln_len c3
          induction rest with
          | nil =>
            intro done cn g hp2 o5 hd hcn hg k4 s2
            rw [List.append_nil] at hd
            subst hd
            have o2 := (s2.2 M (by omega)).trans o1
            have e1 : nI col.length ≤ nI col.length := nI_le (Nat.le_refl _) (by omega)
            rw [x_102_117]
            simp only [x_102_119, x_102_120, x_102_123, x_102_170, x_102_171, mw_nx, mw_no, mw_ite, mw_call, mw_ret, mw_cst, mw_ii, mw_i1, mw_ll, mw_l1, mw_li, mw_i2l, mw_l2i, mw_lcm, mw_if, mw_ic, mw_ifnN, mw_ifnR, mw_go, mw_dupi, mw_dupr, mw_popi, mw_popr, mw_nw, mw_rti, mw_rtl, mw_rtr, mw_rtn, mw_rtv, mw_rt0, mw_rt1, mj_ild, mj_lld, mj_ald, mj_ist, mj_lst, mj_ast, mj_inc, mj_iz, mj_get, mj_put, mj_len, mj_iar, mj_aar, mj_iaw, mj_aaw, mj_ivs, mj_ivv, mj_ivi, mj_ob, mj_tk, mj_cat, mj_st1, mj_st2, mj_clr, mj_nwi, mj_nwq, List.getElem?_cons_zero, List.getElem?_cons_succ, List.length_cons, List.length_nil, List.set_cons_zero, List.set_cons_succ, Value.category, decide_eq_true_eq, List.map_cons, List.map_nil, List.sum_cons, List.sum_nil, Option.toList, List.cons_append, List.nil_append, ite_true, ite_false, if_true, if_false, reduceCtorEq, true_and, and_true, narrow_i, narrow_l, narrow_r, narrow_n, fits_i, fits_l, fits_ro, fits_ra, fits_no, fits_na, Nat.reduceAdd, Nat.reduceLT, Nat.reduceLeDiff, Nat.reduceEqDiff, Nat.reduceSub, zero_add0, true_or, or_true, false_or, or_false, not_true_eq_false, not_false_eq_true, eq_self, i10, i01, im0, im1, o2, e1]
            rw [hcn, pf_exn_so, hmap]
            have hm : (List.range ls.length).map (pf_ex C x y ls.length) = ls.map (so_ex x y) := by
              conv => rhs; rw [← hmap]
              rw [List.map_map]
              apply List.map_congr_left
              intro j hj
              unfold pf_ex so_ex
              simp [List.mem_range.mp hj]
            have r2 : rows hp2 M (pf_ex C x y ls.length) := r1.keep (s2.2 _ (by omega)) (s2.2 _ (by omega)) (s2.2 _ (by omega))
            refine hQ hp2 ⟨hn, a, b, 0, _, ?_, r2, ?_, ?_, fun l hl => ?_, ⟨g, k4, fun j hj => ?_, ln_ok_map c3 hx6 hy6⟩, fun c hc2 => ?_, hu.keep ((s2.2 _ (by omega)).trans (s1.2 _ (by omega))), hh.keep ((s2.2 _ (by omega)).trans (s1.2 _ (by omega))) ((s2.2 _ (by omega)).trans (s1.2 _ (by omega)))⟩ ((s0.tr (s1.mono (by omega) (by omega))).tr (s2.mono (by omega) (by omega)))
            · dsimp only; rw [List.length_map, List.length_map]; exact o2
            · dsimp only; rw [List.length_map]; exact hm
            · dsimp only; rw [List.length_map]; exact hk
            · obtain ⟨l', hl', rfl⟩ := List.mem_map.mp hl
              exact lv_ex hx hy (hlv l' hl')
            · dsimp only at hj ⊢
              rw [List.length_map] at hj
              rw [hg j hj, List.append_nil]
            · obtain ⟨d, hd, rfl⟩ := List.mem_map.mp hc2
              exact sp_ex_ltn hx hy (hcb d hd)
          | cons c rest ih =>
            intro done cn g hp2 o5 hd hcn hg k4 s2
            have o2 := (s2.2 M (by omega)).trans o1
            have hlt : done.length < col.length := by rw [hd]; simp
            have hc2 : c < 128 := c3.2 c (by rw [hd]; simp)
            have hcx : sp_ex x y c < 128 := sp_ex_lt hx6 hy6 hc2
            have e1 : ¬ nI col.length ≤ nI done.length := nI_ge hlt (by omega)
            have z0 : ¬ nI done.length < 0 := nI_pos (by omega)
            have z1 : (nI done.length).toNatClampNeg = done.length := nI_clamp (by omega)
            have z2 : ¬ 128 ≤ done.length := by omega
            have e2 : g done.length = nI c := by rw [hg _ hlt, gd_r (by rw [List.length_map]; exact Nat.le_refl _)]; simp
            have e3 : (nI (sp_ex x y c) = nI c) = (sp_ex x y c = c) := propext (nI_eq (by omega) (by omega))
            have hg' : ∀ j, j < col.length → upd g done.length (nI (sp_ex x y c)) j = nI (((done ++ [c]).map (sp_ex x y) ++ rest).getD j 0) := by
              intro j hj
              rw [List.map_append, List.map_singleton, List.append_assoc]
              by_cases hjd : j = done.length
              · subst hjd
                rw [upd_at, gd_r (by rw [List.length_map]; exact Nat.le_refl _)]
                simp
              · rw [upd_off hjd, hg j hj]
                by_cases hjl : j < done.length
                · rw [gd_l (by rw [List.length_map]; exact hjl), gd_l (by rw [List.length_map]; exact hjl)]
                · rw [gd_r (by rw [List.length_map]; omega), gd_r (by rw [List.length_map]; omega), List.length_map, gd_s (by omega)]
                  rw [show [sp_ex x y c] ++ rest = sp_ex x y c :: rest from rfl, gd_s (by omega)]
            rw [x_102_117]
            by_cases w : sp_ex x y c = c
            · have q := eq_true w
              simp only [x_102_119, x_102_120, x_102_123, x_102_126, x_102_127, x_102_130, x_102_132, x_102_133, x_102_134, x_102_135, x_102_138, x_102_140, x_102_142, x_102_143, x_102_146, x_102_148, x_102_149, x_102_152, x_102_155, x_102_156, x_102_159, x_102_161, x_102_163, x_102_164, x_102_167, mw_nx, mw_no, mw_ite, mw_call, mw_ret, mw_cst, mw_ii, mw_i1, mw_ll, mw_l1, mw_li, mw_i2l, mw_l2i, mw_lcm, mw_if, mw_ic, mw_ifnN, mw_ifnR, mw_go, mw_dupi, mw_dupr, mw_popi, mw_popr, mw_nw, mw_rti, mw_rtl, mw_rtr, mw_rtn, mw_rtv, mw_rt0, mw_rt1, mj_ild, mj_lld, mj_ald, mj_ist, mj_lst, mj_ast, mj_inc, mj_iz, mj_get, mj_put, mj_len, mj_iar, mj_aar, mj_iaw, mj_aaw, mj_ivs, mj_ivv, mj_ivi, mj_ob, mj_tk, mj_cat, mj_st1, mj_st2, mj_clr, mj_nwi, mj_nwq, List.getElem?_cons_zero, List.getElem?_cons_succ, List.length_cons, List.length_nil, List.set_cons_zero, List.set_cons_succ, Value.category, decide_eq_true_eq, List.map_cons, List.map_nil, List.sum_cons, List.sum_nil, Option.toList, List.cons_append, List.nil_append, ite_true, ite_false, if_true, if_false, reduceCtorEq, true_and, and_true, narrow_i, narrow_l, narrow_r, narrow_n, fits_i, fits_l, fits_ro, fits_ra, fits_no, fits_na, Nat.reduceAdd, Nat.reduceLT, Nat.reduceLeDiff, Nat.reduceEqDiff, Nat.reduceSub, zero_add0, true_or, or_true, false_or, or_false, not_true_eq_false, not_false_eq_true, eq_self, i10, i01, im0, im1, o2, e1, k4, at_0, z0, z1, z2, e2, m_turned hc2 hx6 hy6, e3, q, nI_1]
              have := ih (done ++ [c]) cn _ _ (some (.int (nI (sp_ex x y c)))) (by rw [hd]; simp) (by rw [sp_exn_snoc, if_pos w, hcn]) hg' (mj_up_at (hp := hp2)) (s2.tr (sm.up (by omega) (by omega)))
              rw [List.length_append] at this
              exact this
            · have q := eq_false w
              simp only [x_102_119, x_102_120, x_102_123, x_102_126, x_102_127, x_102_130, x_102_132, x_102_133, x_102_134, x_102_135, x_102_138, x_102_140, x_102_142, x_102_143, x_102_146, x_102_148, x_102_149, x_102_152, x_102_155, x_102_156, x_102_159, x_102_161, x_102_163, x_102_164, x_102_167, mw_nx, mw_no, mw_ite, mw_call, mw_ret, mw_cst, mw_ii, mw_i1, mw_ll, mw_l1, mw_li, mw_i2l, mw_l2i, mw_lcm, mw_if, mw_ic, mw_ifnN, mw_ifnR, mw_go, mw_dupi, mw_dupr, mw_popi, mw_popr, mw_nw, mw_rti, mw_rtl, mw_rtr, mw_rtn, mw_rtv, mw_rt0, mw_rt1, mj_ild, mj_lld, mj_ald, mj_ist, mj_lst, mj_ast, mj_inc, mj_iz, mj_get, mj_put, mj_len, mj_iar, mj_aar, mj_iaw, mj_aaw, mj_ivs, mj_ivv, mj_ivi, mj_ob, mj_tk, mj_cat, mj_st1, mj_st2, mj_clr, mj_nwi, mj_nwq, List.getElem?_cons_zero, List.getElem?_cons_succ, List.length_cons, List.length_nil, List.set_cons_zero, List.set_cons_succ, Value.category, decide_eq_true_eq, List.map_cons, List.map_nil, List.sum_cons, List.sum_nil, Option.toList, List.cons_append, List.nil_append, ite_true, ite_false, if_true, if_false, reduceCtorEq, true_and, and_true, narrow_i, narrow_l, narrow_r, narrow_n, fits_i, fits_l, fits_ro, fits_ra, fits_no, fits_na, Nat.reduceAdd, Nat.reduceLT, Nat.reduceLeDiff, Nat.reduceEqDiff, Nat.reduceSub, zero_add0, true_or, or_true, false_or, or_false, not_true_eq_false, not_false_eq_true, eq_self, i10, i01, im0, im1, o2, e1, k4, at_0, z0, z1, z2, e2, m_turned hc2 hx6 hy6, e3, q, nI_1]
              have := ih (done ++ [c]) (cn + 1) _ _ (some (.int (nI (sp_ex x y c)))) (by rw [hd]; simp) (by rw [sp_exn_snoc, if_neg w, hcn]; omega) hg' (mj_up_at (hp := hp2)) (s2.tr (sm.up (by omega) (by omega)))
              rw [List.length_append] at this
              exact this
        have outer : ∀ (d i : Nat) (hp1 : mj_H) (o5 o6 : Option Value), i + d = ls.length → hp1.1 M = some (mo_o M n ls.length col.length xs.length a b 0) → rows hp1 M (pf_ex C x y i) → sm hp0 hp1 M (M + 4) → mj_wp 102 28 [some (.ref M), some (.int (nI x)), some (.int (nI y)), some (.int (nI (pf_exn C x y i))), some (.int (nI i)), o5, o6] [] hp1 Q := by
          intro d
          induction d with
          | zero =>
            intro i hp1 o5 o6 hi o1 r1 s1
            obtain rfl : i = ls.length := by omega
            have e1 : nI ls.length ≤ nI ls.length := nI_le (Nat.le_refl _) (by omega)
            rw [x_102_28]
            simp only [x_102_30, x_102_31, x_102_34, x_102_114, x_102_115, mw_nx, mw_no, mw_ite, mw_call, mw_ret, mw_cst, mw_ii, mw_i1, mw_ll, mw_l1, mw_li, mw_i2l, mw_l2i, mw_lcm, mw_if, mw_ic, mw_ifnN, mw_ifnR, mw_go, mw_dupi, mw_dupr, mw_popi, mw_popr, mw_nw, mw_rti, mw_rtl, mw_rtr, mw_rtn, mw_rtv, mw_rt0, mw_rt1, mj_ild, mj_lld, mj_ald, mj_ist, mj_lst, mj_ast, mj_inc, mj_iz, mj_get, mj_put, mj_len, mj_iar, mj_aar, mj_iaw, mj_aaw, mj_ivs, mj_ivv, mj_ivi, mj_ob, mj_tk, mj_cat, mj_st1, mj_st2, mj_clr, mj_nwi, mj_nwq, List.getElem?_cons_zero, List.getElem?_cons_succ, List.length_cons, List.length_nil, List.set_cons_zero, List.set_cons_succ, Value.category, decide_eq_true_eq, List.map_cons, List.map_nil, List.sum_cons, List.sum_nil, Option.toList, List.cons_append, List.nil_append, ite_true, ite_false, if_true, if_false, reduceCtorEq, true_and, and_true, narrow_i, narrow_l, narrow_r, narrow_n, fits_i, fits_l, fits_ro, fits_ra, fits_no, fits_na, Nat.reduceAdd, Nat.reduceLT, Nat.reduceLeDiff, Nat.reduceEqDiff, Nat.reduceSub, zero_add0, true_or, or_true, false_or, or_false, not_true_eq_false, not_false_eq_true, eq_self, i10, i01, im0, im1, o1, e1]
            have hc0 := hc
            obtain ⟨fc, c1, c2, c3⟩ := hc0
            exact third hp1 o1 r1 s1 o5 o6 col [] _ fc hp1 o5 rfl (by unfold sp_exn; simp) (fun j hj => c2 j hj) ((s1.2 _ (by omega)).trans c1) sm.rf
          | succ d ih =>
            intro i hp1 o5 o6 hi o1 r1 s1
            obtain ⟨fk, fm, fl, k1, k2, k3, k4⟩ := r1
            obtain ⟨a1, a2, a3, a4, a5⟩ := k4 i (by omega)
            have hCi : pf_ex C x y i i = C i := by unfold pf_ex; rw [if_neg (by omega)]
            rw [hCi] at a1 a2 a3 a4 a5
            have hlen := ln_len a4
            have e1 : ¬ nI ls.length ≤ nI i := nI_ge (by omega) (by omega)
            have z0 : ¬ nI i < 0 := nI_pos (by omega)
            have z1 : (nI i).toNatClampNeg = i := nI_clamp (by omega)
            have z2 : ¬ 160 ≤ i := by omega
            have m128 : (128 : Int32) * nI i = nI (128 * i) := pk_mul 128 i
            have inner : ∀ (rest done : List Nat) (cn : Nat) (g : Nat → Int32) (hp2 : mj_H) (o6 : Option Value), (C i).2 = done ++ rest → cn = pf_exn C x y i + sp_exn x y done → (∀ j, j < (C i).2.length → g (128 * i + j) = nI ((done.map (sp_ex x y) ++ rest).getD j 0)) → (∀ z, ¬ (128 * i ≤ z ∧ z < 128 * i + 128) → g z = fl z) → hp2.1 (M + 3) = some (ma 20480 g) → sm hp1 hp2 (M + 3) (M + 4) → mj_wp 102 45 [some (.ref M), some (.int (nI x)), some (.int (nI y)), some (.int (nI cn)), some (.int (nI i)), some (.int (nI (128 * i + done.length))), o6] [] hp2 Q := by
              intro rest
              induction rest with
              | nil =>
                intro done cn g hp2 o6 hd hcn hg hg2 q3 s2
                rw [List.append_nil] at hd
                have o2 := (s2.2 M (by omega)).trans o1
                have k2' := (s2.2 (M + 2) (by omega)).trans k2
                have k1' := (s2.2 (M + 1) (by omega)).trans k1
                have e2 : nI (128 * i + (C i).2.length) ≤ nI (128 * i + done.length) := by rw [hd]; exact nI_le (Nat.le_refl _) (by rw [hd] at hlen; omega)
                rw [x_102_45]
                simp only [x_102_47, x_102_50, x_102_52, x_102_53, x_102_54, x_102_57, x_102_59, x_102_60, x_102_61, x_102_108, x_102_111, mw_nx, mw_no, mw_ite, mw_call, mw_ret, mw_cst, mw_ii, mw_i1, mw_ll, mw_l1, mw_li, mw_i2l, mw_l2i, mw_lcm, mw_if, mw_ic, mw_ifnN, mw_ifnR, mw_go, mw_dupi, mw_dupr, mw_popi, mw_popr, mw_nw, mw_rti, mw_rtl, mw_rtr, mw_rtn, mw_rtv, mw_rt0, mw_rt1, mj_ild, mj_lld, mj_ald, mj_ist, mj_lst, mj_ast, mj_inc, mj_iz, mj_get, mj_put, mj_len, mj_iar, mj_aar, mj_iaw, mj_aaw, mj_ivs, mj_ivv, mj_ivi, mj_ob, mj_tk, mj_cat, mj_st1, mj_st2, mj_clr, mj_nwi, mj_nwq, List.getElem?_cons_zero, List.getElem?_cons_succ, List.length_cons, List.length_nil, List.set_cons_zero, List.set_cons_succ, Value.category, decide_eq_true_eq, List.map_cons, List.map_nil, List.sum_cons, List.sum_nil, Option.toList, List.cons_append, List.nil_append, ite_true, ite_false, if_true, if_false, reduceCtorEq, true_and, and_true, narrow_i, narrow_l, narrow_r, narrow_n, fits_i, fits_l, fits_ro, fits_ra, fits_no, fits_na, Nat.reduceAdd, Nat.reduceLT, Nat.reduceLeDiff, Nat.reduceEqDiff, Nat.reduceSub, zero_add0, true_or, or_true, false_or, or_false, not_true_eq_false, not_false_eq_true, eq_self, i10, i01, im0, im1, o2, k2', at_0, z0, z1, z2, a2, m128, nI_add, e2, nI_1]
                have hC2 : va_up (pf_ex C x y i) i ((C i).1, (C i).2.map (sp_ex x y)) = pf_ex C x y (i + 1) := by
                  funext j
                  by_cases hji : j = i
                  · subst hji
                    rw [va_up_self]
                    unfold pf_ex
                    rw [if_pos (by omega)]
                  · rw [va_up_ne _ _ hji]
                    unfold pf_ex
                    by_cases w : j < i
                    · rw [if_pos w, if_pos (by omega)]
                    · rw [if_neg w, if_neg (by omega)]
                have hfin := rw_set (i0 := i) (l := ((C i).1, (C i).2.map (sp_ex x y))) (fk' := fk) (fm' := fm) (fl' := g) k4 ⟨a1, by rw [List.length_map]; exact a2, fun j hj => ?_, ln_ok_map a4 hx6 hy6, a5⟩ (fun i' hne => ⟨rfl, rfl, fun j hj => hg2 _ (by omega)⟩)
                · rw [hC2] at hfin
                  have hcn2 : cn = pf_exn C x y (i + 1) := by rw [pf_exn, hcn, hd]
                  rw [hcn2]
                  exact ih (i + 1) hp2 _ _ (by omega) o2 ⟨fk, fm, g, k1', k2', q3, hfin⟩ (s1.tr (s2.mono (by omega) (by omega)))
                · dsimp only at hj ⊢
                  rw [List.length_map] at hj
                  rw [hg j hj, List.append_nil, hd]
              | cons c rest ih2 =>
                intro done cn g hp2 o6 hd hcn hg hg2 q3 s2
                have o2 := (s2.2 M (by omega)).trans o1
                have k2' := (s2.2 (M + 2) (by omega)).trans k2
                have hlt : done.length < (C i).2.length := by rw [hd]; simp
                have hc2 : c < 128 := a4.2 c (by rw [hd]; simp)
                have hcx : sp_ex x y c < 128 := sp_ex_lt hx6 hy6 hc2
                have e2 : ¬ nI (128 * i + (C i).2.length) ≤ nI (128 * i + done.length) := nI_ge (by omega) (by omega)
                have p0 : ¬ nI (128 * i + done.length) < 0 := nI_pos (by omega)
                have p1 : (nI (128 * i + done.length)).toNatClampNeg = 128 * i + done.length := nI_clamp (by omega)
                have p2 : ¬ 20480 ≤ 128 * i + done.length := by omega
                have e4 : g (128 * i + done.length) = nI c := by rw [hg _ hlt, gd_r (by rw [List.length_map]; exact Nat.le_refl _)]; simp
                have e3 : (nI (sp_ex x y c) = nI c) = (sp_ex x y c = c) := propext (nI_eq (by omega) (by omega))
                have hg' : ∀ j, j < (C i).2.length → upd g (128 * i + done.length) (nI (sp_ex x y c)) (128 * i + j) = nI (((done ++ [c]).map (sp_ex x y) ++ rest).getD j 0) := by
                  intro j hj
                  rw [List.map_append, List.map_singleton, List.append_assoc]
                  by_cases hjd : j = done.length
                  · subst hjd
                    rw [upd_at, gd_r (by rw [List.length_map]; exact Nat.le_refl _)]
                    simp
                  · rw [upd_off (by omega), hg j hj]
                    by_cases hjl : j < done.length
                    · rw [gd_l (by rw [List.length_map]; exact hjl), gd_l (by rw [List.length_map]; exact hjl)]
                    · rw [gd_r (by rw [List.length_map]; omega), gd_r (by rw [List.length_map]; omega), List.length_map, gd_s (by omega)]
                      rw [show [sp_ex x y c] ++ rest = sp_ex x y c :: rest from rfl, gd_s (by omega)]
                rw [x_102_45]
                by_cases w : sp_ex x y c = c
                · have q := eq_true w
                  simp only [x_102_47, x_102_50, x_102_52, x_102_53, x_102_54, x_102_57, x_102_59, x_102_60, x_102_61, x_102_64, x_102_65, x_102_68, x_102_70, x_102_71, x_102_72, x_102_73, x_102_76, x_102_78, x_102_80, x_102_81, x_102_84, x_102_86, x_102_87, x_102_90, x_102_93, x_102_94, x_102_97, x_102_99, x_102_101, x_102_102, x_102_105, mw_nx, mw_no, mw_ite, mw_call, mw_ret, mw_cst, mw_ii, mw_i1, mw_ll, mw_l1, mw_li, mw_i2l, mw_l2i, mw_lcm, mw_if, mw_ic, mw_ifnN, mw_ifnR, mw_go, mw_dupi, mw_dupr, mw_popi, mw_popr, mw_nw, mw_rti, mw_rtl, mw_rtr, mw_rtn, mw_rtv, mw_rt0, mw_rt1, mj_ild, mj_lld, mj_ald, mj_ist, mj_lst, mj_ast, mj_inc, mj_iz, mj_get, mj_put, mj_len, mj_iar, mj_aar, mj_iaw, mj_aaw, mj_ivs, mj_ivv, mj_ivi, mj_ob, mj_tk, mj_cat, mj_st1, mj_st2, mj_clr, mj_nwi, mj_nwq, List.getElem?_cons_zero, List.getElem?_cons_succ, List.length_cons, List.length_nil, List.set_cons_zero, List.set_cons_succ, Value.category, decide_eq_true_eq, List.map_cons, List.map_nil, List.sum_cons, List.sum_nil, Option.toList, List.cons_append, List.nil_append, ite_true, ite_false, if_true, if_false, reduceCtorEq, true_and, and_true, narrow_i, narrow_l, narrow_r, narrow_n, fits_i, fits_l, fits_ro, fits_ra, fits_no, fits_na, Nat.reduceAdd, Nat.reduceLT, Nat.reduceLeDiff, Nat.reduceEqDiff, Nat.reduceSub, zero_add0, true_or, or_true, false_or, or_false, not_true_eq_false, not_false_eq_true, eq_self, i10, i01, im0, im1, o2, k2', q3, at_0, z0, z1, z2, a2, m128, nI_add, e2, p0, p1, p2, e4, m_turned hc2 hx6 hy6, e3, q, nI_1]
                  have := ih2 (done ++ [c]) cn _ _ (some (.int (nI (sp_ex x y c)))) (by rw [hd]; simp) (by rw [sp_exn_snoc, if_pos w, hcn]) hg' (fun z hz => by rw [upd_off (by omega)]; exact hg2 z hz) (mj_up_at (hp := hp2)) (s2.tr (sm.up (by omega) (by omega)))
                  rw [List.length_append] at this
                  exact this
                · have q := eq_false w
                  simp only [x_102_47, x_102_50, x_102_52, x_102_53, x_102_54, x_102_57, x_102_59, x_102_60, x_102_61, x_102_64, x_102_65, x_102_68, x_102_70, x_102_71, x_102_72, x_102_73, x_102_76, x_102_78, x_102_80, x_102_81, x_102_84, x_102_86, x_102_87, x_102_90, x_102_93, x_102_94, x_102_97, x_102_99, x_102_101, x_102_102, x_102_105, mw_nx, mw_no, mw_ite, mw_call, mw_ret, mw_cst, mw_ii, mw_i1, mw_ll, mw_l1, mw_li, mw_i2l, mw_l2i, mw_lcm, mw_if, mw_ic, mw_ifnN, mw_ifnR, mw_go, mw_dupi, mw_dupr, mw_popi, mw_popr, mw_nw, mw_rti, mw_rtl, mw_rtr, mw_rtn, mw_rtv, mw_rt0, mw_rt1, mj_ild, mj_lld, mj_ald, mj_ist, mj_lst, mj_ast, mj_inc, mj_iz, mj_get, mj_put, mj_len, mj_iar, mj_aar, mj_iaw, mj_aaw, mj_ivs, mj_ivv, mj_ivi, mj_ob, mj_tk, mj_cat, mj_st1, mj_st2, mj_clr, mj_nwi, mj_nwq, List.getElem?_cons_zero, List.getElem?_cons_succ, List.length_cons, List.length_nil, List.set_cons_zero, List.set_cons_succ, Value.category, decide_eq_true_eq, List.map_cons, List.map_nil, List.sum_cons, List.sum_nil, Option.toList, List.cons_append, List.nil_append, ite_true, ite_false, if_true, if_false, reduceCtorEq, true_and, and_true, narrow_i, narrow_l, narrow_r, narrow_n, fits_i, fits_l, fits_ro, fits_ra, fits_no, fits_na, Nat.reduceAdd, Nat.reduceLT, Nat.reduceLeDiff, Nat.reduceEqDiff, Nat.reduceSub, zero_add0, true_or, or_true, false_or, or_false, not_true_eq_false, not_false_eq_true, eq_self, i10, i01, im0, im1, o2, k2', q3, at_0, z0, z1, z2, a2, m128, nI_add, e2, p0, p1, p2, e4, m_turned hc2 hx6 hy6, e3, q, nI_1]
                  have := ih2 (done ++ [c]) (cn + 1) _ _ (some (.int (nI (sp_ex x y c)))) (by rw [hd]; simp) (by rw [sp_exn_snoc, if_neg w, hcn]; omega) hg' (fun z hz => by rw [upd_off (by omega)]; exact hg2 z hz) (mj_up_at (hp := hp2)) (s2.tr (sm.up (by omega) (by omega)))
                  rw [List.length_append] at this
                  exact this
            rw [x_102_28]
            simp only [x_102_30, x_102_31, x_102_34, x_102_37, x_102_40, x_102_42, x_102_43, mw_nx, mw_no, mw_ite, mw_call, mw_ret, mw_cst, mw_ii, mw_i1, mw_ll, mw_l1, mw_li, mw_i2l, mw_l2i, mw_lcm, mw_if, mw_ic, mw_ifnN, mw_ifnR, mw_go, mw_dupi, mw_dupr, mw_popi, mw_popr, mw_nw, mw_rti, mw_rtl, mw_rtr, mw_rtn, mw_rtv, mw_rt0, mw_rt1, mj_ild, mj_lld, mj_ald, mj_ist, mj_lst, mj_ast, mj_inc, mj_iz, mj_get, mj_put, mj_len, mj_iar, mj_aar, mj_iaw, mj_aaw, mj_ivs, mj_ivv, mj_ivi, mj_ob, mj_tk, mj_cat, mj_st1, mj_st2, mj_clr, mj_nwi, mj_nwq, List.getElem?_cons_zero, List.getElem?_cons_succ, List.length_cons, List.length_nil, List.set_cons_zero, List.set_cons_succ, Value.category, decide_eq_true_eq, List.map_cons, List.map_nil, List.sum_cons, List.sum_nil, Option.toList, List.cons_append, List.nil_append, ite_true, ite_false, if_true, if_false, reduceCtorEq, true_and, and_true, narrow_i, narrow_l, narrow_r, narrow_n, fits_i, fits_l, fits_ro, fits_ra, fits_no, fits_na, Nat.reduceAdd, Nat.reduceLT, Nat.reduceLeDiff, Nat.reduceEqDiff, Nat.reduceSub, zero_add0, true_or, or_true, false_or, or_false, not_true_eq_false, not_false_eq_true, eq_self, i10, i01, im0, im1, o1, e1, m128]
            exact inner (C i).2 [] _ fl hp1 o6 rfl (by unfold sp_exn; simp) (fun j hj => a3 j hj) (fun z _ => rfl) k3 sm.rf
        have h00 : pf_ex C x y 0 = C := by
          funext j; unfold pf_ex; rw [if_neg (by omega)]
        exact outer ls.length 0 hp0 none none (by omega) ho (by rw [h00]; exact hr) sm.rf
      · have w2' : (0 ≤ ty ∧ ty < nI n) = False := eq_false w2
        rw [sp_if_f (fun q => w2 q.2)] at hQ
        simp only [x_102_5, x_102_6, x_102_7, x_102_10, x_102_13, x_102_14, x_102_15, x_102_18, x_102_21, x_102_22, mw_nx, mw_no, mw_ite, mw_call, mw_ret, mw_cst, mw_ii, mw_i1, mw_ll, mw_l1, mw_li, mw_i2l, mw_l2i, mw_lcm, mw_if, mw_ic, mw_ifnN, mw_ifnR, mw_go, mw_dupi, mw_dupr, mw_popi, mw_popr, mw_nw, mw_rti, mw_rtl, mw_rtr, mw_rtn, mw_rtv, mw_rt0, mw_rt1, mj_ild, mj_lld, mj_ald, mj_ist, mj_lst, mj_ast, mj_inc, mj_iz, mj_get, mj_put, mj_len, mj_iar, mj_aar, mj_iaw, mj_aaw, mj_ivs, mj_ivv, mj_ivi, mj_ob, mj_tk, mj_cat, mj_st1, mj_st2, mj_clr, mj_nwi, mj_nwq, List.getElem?_cons_zero, List.getElem?_cons_succ, List.length_cons, List.length_nil, List.set_cons_zero, List.set_cons_succ, Value.category, decide_eq_true_eq, List.map_cons, List.map_nil, List.sum_cons, List.sum_nil, Option.toList, List.cons_append, List.nil_append, ite_true, ite_false, if_true, if_false, reduceCtorEq, true_and, and_true, narrow_i, narrow_l, narrow_r, narrow_n, fits_i, fits_l, fits_ro, fits_ra, fits_no, fits_na, Nat.reduceAdd, Nat.reduceLT, Nat.reduceLeDiff, Nat.reduceEqDiff, Nat.reduceSub, zero_add0, true_or, or_true, false_or, or_false, not_true_eq_false, not_false_eq_true, eq_self, i10, i01, im0, im1, ho, m_isThing fx ho, w1', m_isThing ty ho, w2']
        exact hQ hp0 hw1.at s0
    · have w1' : (0 ≤ fx ∧ fx < nI n) = False := eq_false w1
      rw [sp_if_f (fun q => w1 q.1)] at hQ
      simp only [x_102_5, x_102_6, x_102_7, x_102_10, x_102_13, x_102_14, x_102_15, x_102_18, x_102_21, x_102_22, mw_nx, mw_no, mw_ite, mw_call, mw_ret, mw_cst, mw_ii, mw_i1, mw_ll, mw_l1, mw_li, mw_i2l, mw_l2i, mw_lcm, mw_if, mw_ic, mw_ifnN, mw_ifnR, mw_go, mw_dupi, mw_dupr, mw_popi, mw_popr, mw_nw, mw_rti, mw_rtl, mw_rtr, mw_rtn, mw_rtv, mw_rt0, mw_rt1, mj_ild, mj_lld, mj_ald, mj_ist, mj_lst, mj_ast, mj_inc, mj_iz, mj_get, mj_put, mj_len, mj_iar, mj_aar, mj_iaw, mj_aaw, mj_ivs, mj_ivv, mj_ivi, mj_ob, mj_tk, mj_cat, mj_st1, mj_st2, mj_clr, mj_nwi, mj_nwq, List.getElem?_cons_zero, List.getElem?_cons_succ, List.length_cons, List.length_nil, List.set_cons_zero, List.set_cons_succ, Value.category, decide_eq_true_eq, List.map_cons, List.map_nil, List.sum_cons, List.sum_nil, Option.toList, List.cons_append, List.nil_append, ite_true, ite_false, if_true, if_false, reduceCtorEq, true_and, and_true, narrow_i, narrow_l, narrow_r, narrow_n, fits_i, fits_l, fits_ro, fits_ra, fits_no, fits_na, Nat.reduceAdd, Nat.reduceLT, Nat.reduceLeDiff, Nat.reduceEqDiff, Nat.reduceSub, zero_add0, true_or, or_true, false_or, or_false, not_true_eq_false, not_false_eq_true, eq_self, i10, i01, im0, im1, ho, m_isThing fx ho, w1']
      exact hQ hp0 hw1.at s0
  rw [en_102]
  simp only [x_102_0, x_102_1, x_102_2, mw_nx, mw_no, mw_ite, mw_call, mw_ret, mw_cst, mw_ii, mw_i1, mw_ll, mw_l1, mw_li, mw_i2l, mw_l2i, mw_lcm, mw_if, mw_ic, mw_ifnN, mw_ifnR, mw_go, mw_dupi, mw_dupr, mw_popi, mw_popr, mw_nw, mw_rti, mw_rtl, mw_rtr, mw_rtn, mw_rtv, mw_rt0, mw_rt1, mj_ild, mj_lld, mj_ald, mj_ist, mj_lst, mj_ast, mj_inc, mj_iz, mj_get, mj_put, mj_len, mj_iar, mj_aar, mj_iaw, mj_aaw, mj_ivs, mj_ivv, mj_ivi, mj_ob, mj_tk, mj_cat, mj_st1, mj_st2, mj_clr, mj_nwi, mj_nwq, List.getElem?_cons_zero, List.getElem?_cons_succ, List.length_cons, List.length_nil, List.set_cons_zero, List.set_cons_succ, Value.category, decide_eq_true_eq, List.map_cons, List.map_nil, List.sum_cons, List.sum_nil, Option.toList, List.cons_append, List.nil_append, ite_true, ite_false, if_true, if_false, reduceCtorEq, true_and, and_true, narrow_i, narrow_l, narrow_r, narrow_n, fits_i, fits_l, fits_ro, fits_ra, fits_no, fits_na, Nat.reduceAdd, Nat.reduceLT, Nat.reduceLeDiff, Nat.reduceEqDiff, Nat.reduceSub, zero_add0, true_or, or_true, false_or, or_false, not_true_eq_false, not_false_eq_true, eq_self, i10, i01, im0, im1, ho]
  exact body _ hw.th (sm.up (by omega) (by omega))
end MV
def bm_w (c : Nat) : Int32 := 2 + (if nI c - nI c / 2 * 2 = 0 then 1 else 0) + (if nI c / 2 + 1 ≤ 9 then 0 else 1)
theorem bm_w_eq : ∀ c, c < 128 → bm_w c = nI (sp_lit c).length := by decide +kernel
theorem m_bytesOf {hp : mj_H} {Q : mj_Q} {c : Nat} (hc : c < 128) : mj_call 106 [.int (nI c)] hp Q = Q (some (.int (nI (sp_lit c).length))) hp := by
  rw [← bm_w_eq c hc, en_106]
  unfold bm_w
  by_cases q1 : nI c - nI c / 2 * 2 = 0 <;> by_cases q2 : nI c / 2 + 1 ≤ 9
  · have p1 := eq_true q1
    have p2 := eq_true q2
    simp only [x_106_0, x_106_1, x_106_2, x_106_3, x_106_4, x_106_7, x_106_8, x_106_11, x_106_12, x_106_13, x_106_14, x_106_15, x_106_16, x_106_17, x_106_18, x_106_20, x_106_23, x_106_24, x_106_27, x_106_28, x_106_29, mw_nx, mw_no, mw_ite, mw_call, mw_ret, mw_cst, mw_ii, mw_i1, mw_ll, mw_l1, mw_li, mw_i2l, mw_l2i, mw_lcm, mw_if, mw_ic, mw_ifnN, mw_ifnR, mw_go, mw_dupi, mw_dupr, mw_popi, mw_popr, mw_nw, mw_rti, mw_rtl, mw_rtr, mw_rtn, mw_rtv, mw_rt0, mw_rt1, mj_ild, mj_lld, mj_ald, mj_ist, mj_lst, mj_ast, mj_inc, mj_iz, mj_get, mj_put, mj_len, mj_iar, mj_aar, mj_iaw, mj_aaw, mj_ivs, mj_ivv, mj_ivi, mj_ob, mj_tk, mj_cat, mj_st1, mj_st2, mj_clr, mj_nwi, mj_nwq, List.getElem?_cons_zero, List.getElem?_cons_succ, List.length_cons, List.length_nil, List.set_cons_zero, List.set_cons_succ, Value.category, decide_eq_true_eq, List.map_cons, List.map_nil, List.sum_cons, List.sum_nil, Option.toList, List.cons_append, List.nil_append, ite_true, ite_false, if_true, if_false, reduceCtorEq, true_and, and_true, narrow_i, narrow_l, narrow_r, narrow_n, fits_i, fits_l, fits_ro, fits_ra, fits_no, fits_na, Nat.reduceAdd, Nat.reduceLT, Nat.reduceLeDiff, Nat.reduceEqDiff, Nat.reduceSub, zero_add0, true_or, or_true, false_or, or_false, not_true_eq_false, not_false_eq_true, eq_self, i10, i01, im0, im1, mj_iz, i20, p1, p2]
  · have p1 := eq_true q1
    have p2 := eq_false q2
    simp only [x_106_0, x_106_1, x_106_2, x_106_3, x_106_4, x_106_7, x_106_8, x_106_11, x_106_12, x_106_13, x_106_14, x_106_15, x_106_16, x_106_17, x_106_18, x_106_20, x_106_23, x_106_24, x_106_27, x_106_28, x_106_29, mw_nx, mw_no, mw_ite, mw_call, mw_ret, mw_cst, mw_ii, mw_i1, mw_ll, mw_l1, mw_li, mw_i2l, mw_l2i, mw_lcm, mw_if, mw_ic, mw_ifnN, mw_ifnR, mw_go, mw_dupi, mw_dupr, mw_popi, mw_popr, mw_nw, mw_rti, mw_rtl, mw_rtr, mw_rtn, mw_rtv, mw_rt0, mw_rt1, mj_ild, mj_lld, mj_ald, mj_ist, mj_lst, mj_ast, mj_inc, mj_iz, mj_get, mj_put, mj_len, mj_iar, mj_aar, mj_iaw, mj_aaw, mj_ivs, mj_ivv, mj_ivi, mj_ob, mj_tk, mj_cat, mj_st1, mj_st2, mj_clr, mj_nwi, mj_nwq, List.getElem?_cons_zero, List.getElem?_cons_succ, List.length_cons, List.length_nil, List.set_cons_zero, List.set_cons_succ, Value.category, decide_eq_true_eq, List.map_cons, List.map_nil, List.sum_cons, List.sum_nil, Option.toList, List.cons_append, List.nil_append, ite_true, ite_false, if_true, if_false, reduceCtorEq, true_and, and_true, narrow_i, narrow_l, narrow_r, narrow_n, fits_i, fits_l, fits_ro, fits_ra, fits_no, fits_na, Nat.reduceAdd, Nat.reduceLT, Nat.reduceLeDiff, Nat.reduceEqDiff, Nat.reduceSub, zero_add0, true_or, or_true, false_or, or_false, not_true_eq_false, not_false_eq_true, eq_self, i10, i01, im0, im1, mj_iz, i20, p1, p2]
  · have p1 := eq_false q1
    have p2 := eq_true q2
    simp only [x_106_0, x_106_1, x_106_2, x_106_3, x_106_4, x_106_7, x_106_8, x_106_11, x_106_12, x_106_13, x_106_14, x_106_15, x_106_16, x_106_17, x_106_18, x_106_20, x_106_23, x_106_24, x_106_27, x_106_28, x_106_29, mw_nx, mw_no, mw_ite, mw_call, mw_ret, mw_cst, mw_ii, mw_i1, mw_ll, mw_l1, mw_li, mw_i2l, mw_l2i, mw_lcm, mw_if, mw_ic, mw_ifnN, mw_ifnR, mw_go, mw_dupi, mw_dupr, mw_popi, mw_popr, mw_nw, mw_rti, mw_rtl, mw_rtr, mw_rtn, mw_rtv, mw_rt0, mw_rt1, mj_ild, mj_lld, mj_ald, mj_ist, mj_lst, mj_ast, mj_inc, mj_iz, mj_get, mj_put, mj_len, mj_iar, mj_aar, mj_iaw, mj_aaw, mj_ivs, mj_ivv, mj_ivi, mj_ob, mj_tk, mj_cat, mj_st1, mj_st2, mj_clr, mj_nwi, mj_nwq, List.getElem?_cons_zero, List.getElem?_cons_succ, List.length_cons, List.length_nil, List.set_cons_zero, List.set_cons_succ, Value.category, decide_eq_true_eq, List.map_cons, List.map_nil, List.sum_cons, List.sum_nil, Option.toList, List.cons_append, List.nil_append, ite_true, ite_false, if_true, if_false, reduceCtorEq, true_and, and_true, narrow_i, narrow_l, narrow_r, narrow_n, fits_i, fits_l, fits_ro, fits_ra, fits_no, fits_na, Nat.reduceAdd, Nat.reduceLT, Nat.reduceLeDiff, Nat.reduceEqDiff, Nat.reduceSub, zero_add0, true_or, or_true, false_or, or_false, not_true_eq_false, not_false_eq_true, eq_self, i10, i01, im0, im1, mj_iz, i20, p1, p2]
  · have p1 := eq_false q1
    have p2 := eq_false q2
    simp only [x_106_0, x_106_1, x_106_2, x_106_3, x_106_4, x_106_7, x_106_8, x_106_11, x_106_12, x_106_13, x_106_14, x_106_15, x_106_16, x_106_17, x_106_18, x_106_20, x_106_23, x_106_24, x_106_27, x_106_28, x_106_29, mw_nx, mw_no, mw_ite, mw_call, mw_ret, mw_cst, mw_ii, mw_i1, mw_ll, mw_l1, mw_li, mw_i2l, mw_l2i, mw_lcm, mw_if, mw_ic, mw_ifnN, mw_ifnR, mw_go, mw_dupi, mw_dupr, mw_popi, mw_popr, mw_nw, mw_rti, mw_rtl, mw_rtr, mw_rtn, mw_rtv, mw_rt0, mw_rt1, mj_ild, mj_lld, mj_ald, mj_ist, mj_lst, mj_ast, mj_inc, mj_iz, mj_get, mj_put, mj_len, mj_iar, mj_aar, mj_iaw, mj_aaw, mj_ivs, mj_ivv, mj_ivi, mj_ob, mj_tk, mj_cat, mj_st1, mj_st2, mj_clr, mj_nwi, mj_nwq, List.getElem?_cons_zero, List.getElem?_cons_succ, List.length_cons, List.length_nil, List.set_cons_zero, List.set_cons_succ, Value.category, decide_eq_true_eq, List.map_cons, List.map_nil, List.sum_cons, List.sum_nil, Option.toList, List.cons_append, List.nil_append, ite_true, ite_false, if_true, if_false, reduceCtorEq, true_and, and_true, narrow_i, narrow_l, narrow_r, narrow_n, fits_i, fits_l, fits_ro, fits_ra, fits_no, fits_na, Nat.reduceAdd, Nat.reduceLT, Nat.reduceLeDiff, Nat.reduceEqDiff, Nat.reduceSub, zero_add0, true_or, or_true, false_or, or_false, not_true_eq_false, not_false_eq_true, eq_self, i10, i01, im0, im1, mj_iz, i20, p1, p2]
def bm_d (c : Nat) (k : Int32) : Int32 := if nI c / 2 + 1 ≤ 9 then 48 + ((nI c / 2 + 1) - (nI c / 2 + 1) / 10 * 10) else if k = 0 then 48 + (nI c / 2 + 1) / 10 else 48 + ((nI c / 2 + 1) - (nI c / 2 + 1) / 10 * 10)
def bm_b (c i : Nat) : Int32 := if nI i = 0 then 32 else if nI c - nI c / 2 * 2 = 0 then (if nI i - 1 = 0 then 45 else bm_d c (nI i - 1 + -1)) else bm_d c (nI i - 1)
theorem bm_b_eq : ∀ c, c < 128 → ∀ i, i < 4 → i < (sp_lit c).length → bm_b c i = nI ((sp_lit c).getD i 0) := by decide +kernel
theorem m_byteOf {hp : mj_H} {Q : mj_Q} {c i : Nat} (hc : c < 128) (hi : i < (sp_lit c).length) : mj_call 107 [.int (nI c), .int (nI i)] hp Q = Q (some (.int (nI ((sp_lit c).getD i 0)))) hp := by
  have hl := sp_lit_len hc
  have hi4 : i < 4 := by rw [hl] at hi; split at hi <;> split at hi <;> omega
  rw [← bm_b_eq c hc i hi4 hi, en_107]
  have tail : ∀ (k : Int32) (o3 : Option Value), mj_wp 107 27 [some (.int (nI c)), some (.int (nI i)), some (.int k), o3] [] hp Q = Q (some (.int (bm_d c k))) hp := by
    intro k o3
    unfold bm_d
    by_cases q1 : nI c / 2 + 1 ≤ 9
    · have p1 := eq_true q1
      simp only [x_107_27, x_107_28, x_107_29, x_107_30, x_107_31, x_107_32, x_107_33, x_107_34, x_107_36, x_107_39, x_107_40, x_107_43, x_107_45, x_107_46, x_107_48, x_107_49, x_107_50, x_107_53, x_107_55, x_107_56, x_107_58, x_107_59, x_107_60, mw_nx, mw_no, mw_ite, mw_call, mw_ret, mw_cst, mw_ii, mw_i1, mw_ll, mw_l1, mw_li, mw_i2l, mw_l2i, mw_lcm, mw_if, mw_ic, mw_ifnN, mw_ifnR, mw_go, mw_dupi, mw_dupr, mw_popi, mw_popr, mw_nw, mw_rti, mw_rtl, mw_rtr, mw_rtn, mw_rtv, mw_rt0, mw_rt1, mj_ild, mj_lld, mj_ald, mj_ist, mj_lst, mj_ast, mj_inc, mj_iz, mj_get, mj_put, mj_len, mj_iar, mj_aar, mj_iaw, mj_aaw, mj_ivs, mj_ivv, mj_ivi, mj_ob, mj_tk, mj_cat, mj_st1, mj_st2, mj_clr, mj_nwi, mj_nwq, List.getElem?_cons_zero, List.getElem?_cons_succ, List.length_cons, List.length_nil, List.set_cons_zero, List.set_cons_succ, Value.category, decide_eq_true_eq, List.map_cons, List.map_nil, List.sum_cons, List.sum_nil, Option.toList, List.cons_append, List.nil_append, ite_true, ite_false, if_true, if_false, reduceCtorEq, true_and, and_true, narrow_i, narrow_l, narrow_r, narrow_n, fits_i, fits_l, fits_ro, fits_ra, fits_no, fits_na, Nat.reduceAdd, Nat.reduceLT, Nat.reduceLeDiff, Nat.reduceEqDiff, Nat.reduceSub, zero_add0, true_or, or_true, false_or, or_false, not_true_eq_false, not_false_eq_true, eq_self, i10, i01, im0, im1, mj_iz, i20, i10z, p1]
    · have p1 := eq_false q1
      by_cases q2 : k = 0
      · have p2 := eq_true q2
        simp only [x_107_27, x_107_28, x_107_29, x_107_30, x_107_31, x_107_32, x_107_33, x_107_34, x_107_36, x_107_39, x_107_40, x_107_43, x_107_45, x_107_46, x_107_48, x_107_49, x_107_50, x_107_53, x_107_55, x_107_56, x_107_58, x_107_59, x_107_60, mw_nx, mw_no, mw_ite, mw_call, mw_ret, mw_cst, mw_ii, mw_i1, mw_ll, mw_l1, mw_li, mw_i2l, mw_l2i, mw_lcm, mw_if, mw_ic, mw_ifnN, mw_ifnR, mw_go, mw_dupi, mw_dupr, mw_popi, mw_popr, mw_nw, mw_rti, mw_rtl, mw_rtr, mw_rtn, mw_rtv, mw_rt0, mw_rt1, mj_ild, mj_lld, mj_ald, mj_ist, mj_lst, mj_ast, mj_inc, mj_iz, mj_get, mj_put, mj_len, mj_iar, mj_aar, mj_iaw, mj_aaw, mj_ivs, mj_ivv, mj_ivi, mj_ob, mj_tk, mj_cat, mj_st1, mj_st2, mj_clr, mj_nwi, mj_nwq, List.getElem?_cons_zero, List.getElem?_cons_succ, List.length_cons, List.length_nil, List.set_cons_zero, List.set_cons_succ, Value.category, decide_eq_true_eq, List.map_cons, List.map_nil, List.sum_cons, List.sum_nil, Option.toList, List.cons_append, List.nil_append, ite_true, ite_false, if_true, if_false, reduceCtorEq, true_and, and_true, narrow_i, narrow_l, narrow_r, narrow_n, fits_i, fits_l, fits_ro, fits_ra, fits_no, fits_na, Nat.reduceAdd, Nat.reduceLT, Nat.reduceLeDiff, Nat.reduceEqDiff, Nat.reduceSub, zero_add0, true_or, or_true, false_or, or_false, not_true_eq_false, not_false_eq_true, eq_self, i10, i01, im0, im1, mj_iz, i20, i10z, p1, p2]
      · have p2 := eq_false q2
        simp only [x_107_27, x_107_28, x_107_29, x_107_30, x_107_31, x_107_32, x_107_33, x_107_34, x_107_36, x_107_39, x_107_40, x_107_43, x_107_45, x_107_46, x_107_48, x_107_49, x_107_50, x_107_53, x_107_55, x_107_56, x_107_58, x_107_59, x_107_60, mw_nx, mw_no, mw_ite, mw_call, mw_ret, mw_cst, mw_ii, mw_i1, mw_ll, mw_l1, mw_li, mw_i2l, mw_l2i, mw_lcm, mw_if, mw_ic, mw_ifnN, mw_ifnR, mw_go, mw_dupi, mw_dupr, mw_popi, mw_popr, mw_nw, mw_rti, mw_rtl, mw_rtr, mw_rtn, mw_rtv, mw_rt0, mw_rt1, mj_ild, mj_lld, mj_ald, mj_ist, mj_lst, mj_ast, mj_inc, mj_iz, mj_get, mj_put, mj_len, mj_iar, mj_aar, mj_iaw, mj_aaw, mj_ivs, mj_ivv, mj_ivi, mj_ob, mj_tk, mj_cat, mj_st1, mj_st2, mj_clr, mj_nwi, mj_nwq, List.getElem?_cons_zero, List.getElem?_cons_succ, List.length_cons, List.length_nil, List.set_cons_zero, List.set_cons_succ, Value.category, decide_eq_true_eq, List.map_cons, List.map_nil, List.sum_cons, List.sum_nil, Option.toList, List.cons_append, List.nil_append, ite_true, ite_false, if_true, if_false, reduceCtorEq, true_and, and_true, narrow_i, narrow_l, narrow_r, narrow_n, fits_i, fits_l, fits_ro, fits_ra, fits_no, fits_na, Nat.reduceAdd, Nat.reduceLT, Nat.reduceLeDiff, Nat.reduceEqDiff, Nat.reduceSub, zero_add0, true_or, or_true, false_or, or_false, not_true_eq_false, not_false_eq_true, eq_self, i10, i01, im0, im1, mj_iz, i20, i10z, p1, p2]
  unfold bm_b
  by_cases q1 : nI i = 0
  · have p1 := eq_true q1
    simp only [x_107_0, x_107_1, x_107_4, x_107_6, mw_nx, mw_no, mw_ite, mw_call, mw_ret, mw_cst, mw_ii, mw_i1, mw_ll, mw_l1, mw_li, mw_i2l, mw_l2i, mw_lcm, mw_if, mw_ic, mw_ifnN, mw_ifnR, mw_go, mw_dupi, mw_dupr, mw_popi, mw_popr, mw_nw, mw_rti, mw_rtl, mw_rtr, mw_rtn, mw_rtv, mw_rt0, mw_rt1, mj_ild, mj_lld, mj_ald, mj_ist, mj_lst, mj_ast, mj_inc, mj_iz, mj_get, mj_put, mj_len, mj_iar, mj_aar, mj_iaw, mj_aaw, mj_ivs, mj_ivv, mj_ivi, mj_ob, mj_tk, mj_cat, mj_st1, mj_st2, mj_clr, mj_nwi, mj_nwq, List.getElem?_cons_zero, List.getElem?_cons_succ, List.length_cons, List.length_nil, List.set_cons_zero, List.set_cons_succ, Value.category, decide_eq_true_eq, List.map_cons, List.map_nil, List.sum_cons, List.sum_nil, Option.toList, List.cons_append, List.nil_append, ite_true, ite_false, if_true, if_false, reduceCtorEq, true_and, and_true, narrow_i, narrow_l, narrow_r, narrow_n, fits_i, fits_l, fits_ro, fits_ra, fits_no, fits_na, Nat.reduceAdd, Nat.reduceLT, Nat.reduceLeDiff, Nat.reduceEqDiff, Nat.reduceSub, zero_add0, true_or, or_true, false_or, or_false, not_true_eq_false, not_false_eq_true, eq_self, i10, i01, im0, im1, p1]
  · have p1 := eq_false q1
    by_cases q2 : nI c - nI c / 2 * 2 = 0
    · have p2 := eq_true q2
      by_cases q3 : nI i - 1 = 0
      · have p3 := eq_true q3
        simp only [x_107_0, x_107_1, x_107_4, x_107_6, x_107_7, x_107_8, x_107_9, x_107_10, x_107_11, x_107_12, x_107_13, x_107_14, x_107_17, x_107_18, x_107_21, x_107_23, mw_nx, mw_no, mw_ite, mw_call, mw_ret, mw_cst, mw_ii, mw_i1, mw_ll, mw_l1, mw_li, mw_i2l, mw_l2i, mw_lcm, mw_if, mw_ic, mw_ifnN, mw_ifnR, mw_go, mw_dupi, mw_dupr, mw_popi, mw_popr, mw_nw, mw_rti, mw_rtl, mw_rtr, mw_rtn, mw_rtv, mw_rt0, mw_rt1, mj_ild, mj_lld, mj_ald, mj_ist, mj_lst, mj_ast, mj_inc, mj_iz, mj_get, mj_put, mj_len, mj_iar, mj_aar, mj_iaw, mj_aaw, mj_ivs, mj_ivv, mj_ivi, mj_ob, mj_tk, mj_cat, mj_st1, mj_st2, mj_clr, mj_nwi, mj_nwq, List.getElem?_cons_zero, List.getElem?_cons_succ, List.length_cons, List.length_nil, List.set_cons_zero, List.set_cons_succ, Value.category, decide_eq_true_eq, List.map_cons, List.map_nil, List.sum_cons, List.sum_nil, Option.toList, List.cons_append, List.nil_append, ite_true, ite_false, if_true, if_false, reduceCtorEq, true_and, and_true, narrow_i, narrow_l, narrow_r, narrow_n, fits_i, fits_l, fits_ro, fits_ra, fits_no, fits_na, Nat.reduceAdd, Nat.reduceLT, Nat.reduceLeDiff, Nat.reduceEqDiff, Nat.reduceSub, zero_add0, true_or, or_true, false_or, or_false, not_true_eq_false, not_false_eq_true, eq_self, i10, i01, im0, im1, mj_iz, i20, p1, p2, p3]
      · have p3 := eq_false q3
        simp only [x_107_0, x_107_1, x_107_4, x_107_6, x_107_7, x_107_8, x_107_9, x_107_10, x_107_11, x_107_12, x_107_13, x_107_14, x_107_17, x_107_18, x_107_21, x_107_23, x_107_24, mw_nx, mw_no, mw_ite, mw_call, mw_ret, mw_cst, mw_ii, mw_i1, mw_ll, mw_l1, mw_li, mw_i2l, mw_l2i, mw_lcm, mw_if, mw_ic, mw_ifnN, mw_ifnR, mw_go, mw_dupi, mw_dupr, mw_popi, mw_popr, mw_nw, mw_rti, mw_rtl, mw_rtr, mw_rtn, mw_rtv, mw_rt0, mw_rt1, mj_ild, mj_lld, mj_ald, mj_ist, mj_lst, mj_ast, mj_inc, mj_iz, mj_get, mj_put, mj_len, mj_iar, mj_aar, mj_iaw, mj_aaw, mj_ivs, mj_ivv, mj_ivi, mj_ob, mj_tk, mj_cat, mj_st1, mj_st2, mj_clr, mj_nwi, mj_nwq, List.getElem?_cons_zero, List.getElem?_cons_succ, List.length_cons, List.length_nil, List.set_cons_zero, List.set_cons_succ, Value.category, decide_eq_true_eq, List.map_cons, List.map_nil, List.sum_cons, List.sum_nil, Option.toList, List.cons_append, List.nil_append, ite_true, ite_false, if_true, if_false, reduceCtorEq, true_and, and_true, narrow_i, narrow_l, narrow_r, narrow_n, fits_i, fits_l, fits_ro, fits_ra, fits_no, fits_na, Nat.reduceAdd, Nat.reduceLT, Nat.reduceLeDiff, Nat.reduceEqDiff, Nat.reduceSub, zero_add0, true_or, or_true, false_or, or_false, not_true_eq_false, not_false_eq_true, eq_self, i10, i01, im0, im1, mj_iz, i20, p1, p2, p3, tail]
    · have p2 := eq_false q2
      simp only [x_107_0, x_107_1, x_107_4, x_107_6, x_107_7, x_107_8, x_107_9, x_107_10, x_107_11, x_107_12, x_107_13, x_107_14, x_107_17, x_107_18, x_107_21, x_107_23, x_107_24, mw_nx, mw_no, mw_ite, mw_call, mw_ret, mw_cst, mw_ii, mw_i1, mw_ll, mw_l1, mw_li, mw_i2l, mw_l2i, mw_lcm, mw_if, mw_ic, mw_ifnN, mw_ifnR, mw_go, mw_dupi, mw_dupr, mw_popi, mw_popr, mw_nw, mw_rti, mw_rtl, mw_rtr, mw_rtn, mw_rtv, mw_rt0, mw_rt1, mj_ild, mj_lld, mj_ald, mj_ist, mj_lst, mj_ast, mj_inc, mj_iz, mj_get, mj_put, mj_len, mj_iar, mj_aar, mj_iaw, mj_aaw, mj_ivs, mj_ivv, mj_ivi, mj_ob, mj_tk, mj_cat, mj_st1, mj_st2, mj_clr, mj_nwi, mj_nwq, List.getElem?_cons_zero, List.getElem?_cons_succ, List.length_cons, List.length_nil, List.set_cons_zero, List.set_cons_succ, Value.category, decide_eq_true_eq, List.map_cons, List.map_nil, List.sum_cons, List.sum_nil, Option.toList, List.cons_append, List.nil_append, ite_true, ite_false, if_true, if_false, reduceCtorEq, true_and, and_true, narrow_i, narrow_l, narrow_r, narrow_n, fits_i, fits_l, fits_ro, fits_ra, fits_no, fits_na, Nat.reduceAdd, Nat.reduceLT, Nat.reduceLeDiff, Nat.reduceEqDiff, Nat.reduceSub, zero_add0, true_or, or_true, false_or, or_false, not_true_eq_false, not_false_eq_true, eq_self, i10, i01, im0, im1, mj_iz, i20, p1, p2, tail]
theorem m_letterOf {hp : mj_H} {Q : mj_Q} {s : Nat} (hs : s ≤ 3) : mj_call 109 [.int (nI s)] hp Q = Q (some (.int (nI (sp_letter s)))) hp := by
  rw [en_109]
  simp only [x_109_0, x_109_1, x_109_4, x_109_6, x_109_9, x_109_10, x_109_11, x_109_14, x_109_16, x_109_19, x_109_20, x_109_21, x_109_24, x_109_26, x_109_29, x_109_31, mw_nx, mw_no, mw_ite, mw_call, mw_ret, mw_cst, mw_ii, mw_i1, mw_ll, mw_l1, mw_li, mw_i2l, mw_l2i, mw_lcm, mw_if, mw_ic, mw_ifnN, mw_ifnR, mw_go, mw_dupi, mw_dupr, mw_popi, mw_popr, mw_nw, mw_rti, mw_rtl, mw_rtr, mw_rtn, mw_rtv, mw_rt0, mw_rt1, mj_ild, mj_lld, mj_ald, mj_ist, mj_lst, mj_ast, mj_inc, mj_iz, mj_get, mj_put, mj_len, mj_iar, mj_aar, mj_iaw, mj_aaw, mj_ivs, mj_ivv, mj_ivi, mj_ob, mj_tk, mj_cat, mj_st1, mj_st2, mj_clr, mj_nwi, mj_nwq, List.getElem?_cons_zero, List.getElem?_cons_succ, List.length_cons, List.length_nil, List.set_cons_zero, List.set_cons_succ, Value.category, decide_eq_true_eq, List.map_cons, List.map_nil, List.sum_cons, List.sum_nil, Option.toList, List.cons_append, List.nil_append, ite_true, ite_false, if_true, if_false, reduceCtorEq, true_and, and_true, narrow_i, narrow_l, narrow_r, narrow_n, fits_i, fits_l, fits_ro, fits_ra, fits_no, fits_na, Nat.reduceAdd, Nat.reduceLT, Nat.reduceLeDiff, Nat.reduceEqDiff, Nat.reduceSub, zero_add0, true_or, or_true, false_or, or_false, not_true_eq_false, not_false_eq_true, eq_self, i10, i01, im0, im1]
  obtain rfl | rfl | rfl | rfl : s = 0 ∨ s = 1 ∨ s = 2 ∨ s = 3 := by omega
  all_goals rfl
theorem sp_lit_pos (c : Nat) : 0 < (sp_lit c).length := by unfold sp_lit; simp
section MX
variable {hp : mj_H} {Q : mj_Q} {M : Nat} {s : sp_S}
theorem e_text (i : Int32) (h : mo_at hp M s) (hQ : ∀ hp' : mj_H, mo_at hp' M (so_text i s).1 → sm hp hp' M (M + 8) → Q (some (.int (so_text i s).2)) hp') : mj_call 108 [.ref M, .int i] hp Q := by
  obtain ⟨a, b, t0, C, hw⟩ := mo_w_of h
  have ho := hw.2.1
  have body : ∀ hp0 : mj_H, mo_w hp0 M a b 0 C s → sm hp hp0 M (M + 8) → mj_wp 108 5 [some (.ref M), some (.int i), none, none, none, none] [] hp0 Q := by
    obtain ⟨n, col, ls, xs⟩ := s
    intro hp0 hw0 s0
    have hw1 := hw0
    obtain ⟨hn, ho, hr, hmap, hk, hlv, hc, hcb, hu, hh⟩ := hw0
    dsimp only at *
    have hfin := hQ hp0 hw1.at s0
    unfold so_text at hfin
    dsimp only at hfin
    by_cases i0 : i < 0
    · have i1 : ¬ 0 ≤ i := by rw [Int32.le_iff_toInt_le]; rw [Int32.lt_iff_toInt_lt] at i0; omega
      rw [sp_if_f (fun q => i1 q.1)] at hfin
      by_cases w : nI ls.length ≤ 0
      · simp only [x_108_5, x_108_6, x_108_7, x_108_8, x_108_9, x_108_10, x_108_11, x_108_14, x_108_17, x_108_18, x_108_113, x_108_114, mw_nx, mw_no, mw_ite, mw_call, mw_ret, mw_cst, mw_ii, mw_i1, mw_ll, mw_l1, mw_li, mw_i2l, mw_l2i, mw_lcm, mw_if, mw_ic, mw_ifnN, mw_ifnR, mw_go, mw_dupi, mw_dupr, mw_popi, mw_popr, mw_nw, mw_rti, mw_rtl, mw_rtr, mw_rtn, mw_rtv, mw_rt0, mw_rt1, mj_ild, mj_lld, mj_ald, mj_ist, mj_lst, mj_ast, mj_inc, mj_iz, mj_get, mj_put, mj_len, mj_iar, mj_aar, mj_iaw, mj_aaw, mj_ivs, mj_ivv, mj_ivi, mj_ob, mj_tk, mj_cat, mj_st1, mj_st2, mj_clr, mj_nwi, mj_nwq, List.getElem?_cons_zero, List.getElem?_cons_succ, List.length_cons, List.length_nil, List.set_cons_zero, List.set_cons_succ, Value.category, decide_eq_true_eq, List.map_cons, List.map_nil, List.sum_cons, List.sum_nil, Option.toList, List.cons_append, List.nil_append, ite_true, ite_false, if_true, if_false, reduceCtorEq, true_and, and_true, narrow_i, narrow_l, narrow_r, narrow_n, fits_i, fits_l, fits_ro, fits_ra, fits_no, fits_na, Nat.reduceAdd, Nat.reduceLT, Nat.reduceLeDiff, Nat.reduceEqDiff, Nat.reduceSub, zero_add0, true_or, or_true, false_or, or_false, not_true_eq_false, not_false_eq_true, eq_self, i10, i01, im0, im1, ho, w]
        exact hfin
      · simp only [x_108_5, x_108_6, x_108_7, x_108_8, x_108_9, x_108_10, x_108_11, x_108_14, x_108_17, x_108_18, x_108_113, x_108_114, mw_nx, mw_no, mw_ite, mw_call, mw_ret, mw_cst, mw_ii, mw_i1, mw_ll, mw_l1, mw_li, mw_i2l, mw_l2i, mw_lcm, mw_if, mw_ic, mw_ifnN, mw_ifnR, mw_go, mw_dupi, mw_dupr, mw_popi, mw_popr, mw_nw, mw_rti, mw_rtl, mw_rtr, mw_rtn, mw_rtv, mw_rt0, mw_rt1, mj_ild, mj_lld, mj_ald, mj_ist, mj_lst, mj_ast, mj_inc, mj_iz, mj_get, mj_put, mj_len, mj_iar, mj_aar, mj_iaw, mj_aaw, mj_ivs, mj_ivv, mj_ivi, mj_ob, mj_tk, mj_cat, mj_st1, mj_st2, mj_clr, mj_nwi, mj_nwq, List.getElem?_cons_zero, List.getElem?_cons_succ, List.length_cons, List.length_nil, List.set_cons_zero, List.set_cons_succ, Value.category, decide_eq_true_eq, List.map_cons, List.map_nil, List.sum_cons, List.sum_nil, Option.toList, List.cons_append, List.nil_append, ite_true, ite_false, if_true, if_false, reduceCtorEq, true_and, and_true, narrow_i, narrow_l, narrow_r, narrow_n, fits_i, fits_l, fits_ro, fits_ra, fits_no, fits_na, Nat.reduceAdd, Nat.reduceLT, Nat.reduceLeDiff, Nat.reduceEqDiff, Nat.reduceSub, zero_add0, true_or, or_true, false_or, or_false, not_true_eq_false, not_false_eq_true, eq_self, i10, i01, im0, im1, ho, w, i0]
        exact hfin
    · have i1 : 0 ≤ i := by rw [Int32.le_iff_toInt_le]; rw [Int32.lt_iff_toInt_lt] at i0; omega
      obtain ⟨q, hq, rfl⟩ := nI_of i0
      rw [nI_clamp hq] at hfin
      have hfin2 : Q (some (.int (if q < (sp_text ls).length then nI ((sp_text ls).getD q 0) else -1))) hp0 := by
        by_cases w : q < (sp_text ls).length
        · rw [sp_if_t ⟨i1, w⟩] at hfin; rw [if_pos w]; exact hfin
        · rw [sp_if_f (fun z => w z.2)] at hfin; rw [if_neg w]; exact hfin
      have hr0 := hr
      obtain ⟨fk, fm, fl, k1, k2, k3, k4⟩ := hr0
      have outer : ∀ (d j left : Nat) (o4 o5 : Option Value), j + d = ls.length → left < 2 ^ 31 → (if left < (sp_text ((List.range' j d).map C)).length then nI ((sp_text ((List.range' j d).map C)).getD left 0) else -1) = (if q < (sp_text ls).length then nI ((sp_text ls).getD q 0) else -1) → mj_wp 108 9 [some (.ref M), some (.int (nI q)), some (.int (nI left)), some (.int (nI j)), o4, o5] [] hp0 Q := by
        intro d
        induction d with
        | zero =>
          intro j left o4 o5 hj hl he
          obtain rfl : j = ls.length := by omega
          have e1 : nI ls.length ≤ nI ls.length := nI_le (Nat.le_refl _) (by omega)
          rw [x_108_9]
          simp only [x_108_10, x_108_11, x_108_14, x_108_113, x_108_114, mw_nx, mw_no, mw_ite, mw_call, mw_ret, mw_cst, mw_ii, mw_i1, mw_ll, mw_l1, mw_li, mw_i2l, mw_l2i, mw_lcm, mw_if, mw_ic, mw_ifnN, mw_ifnR, mw_go, mw_dupi, mw_dupr, mw_popi, mw_popr, mw_nw, mw_rti, mw_rtl, mw_rtr, mw_rtn, mw_rtv, mw_rt0, mw_rt1, mj_ild, mj_lld, mj_ald, mj_ist, mj_lst, mj_ast, mj_inc, mj_iz, mj_get, mj_put, mj_len, mj_iar, mj_aar, mj_iaw, mj_aaw, mj_ivs, mj_ivv, mj_ivi, mj_ob, mj_tk, mj_cat, mj_st1, mj_st2, mj_clr, mj_nwi, mj_nwq, List.getElem?_cons_zero, List.getElem?_cons_succ, List.length_cons, List.length_nil, List.set_cons_zero, List.set_cons_succ, Value.category, decide_eq_true_eq, List.map_cons, List.map_nil, List.sum_cons, List.sum_nil, Option.toList, List.cons_append, List.nil_append, ite_true, ite_false, if_true, if_false, reduceCtorEq, true_and, and_true, narrow_i, narrow_l, narrow_r, narrow_n, fits_i, fits_l, fits_ro, fits_ra, fits_no, fits_na, Nat.reduceAdd, Nat.reduceLT, Nat.reduceLeDiff, Nat.reduceEqDiff, Nat.reduceSub, zero_add0, true_or, or_true, false_or, or_false, not_true_eq_false, not_false_eq_true, eq_self, i10, i01, im0, im1, ho, e1]
          rw [← he] at hfin2
          simp [sp_text, List.range'] at hfin2
          exact hfin2
        | succ d ih =>
          intro j left o4 o5 hj hl he
          obtain ⟨a1, a2, a3, a4, a5⟩ := k4 j (by omega)
          have hlen := ln_len a4
          have e1 : ¬ nI ls.length ≤ nI j := nI_ge (by omega) (by omega)
          have e2 : ¬ nI left < 0 := nI_pos hl
          have z0 : ¬ nI j < 0 := nI_pos (by omega)
          have z1 : (nI j).toNatClampNeg = j := nI_clamp (by omega)
          have z2 : ¬ 160 ≤ j := by omega
          have e3 : (nI left = 0) = (left = 0) := propext (nI_eq (b := 0) hl (by omega))
          have htx : sp_text ((List.range' j (d + 1)).map C) = sp_letter (C j).1 :: ((C j).2.flatMap sp_lit ++ (10 :: sp_text ((List.range' (j + 1) d).map C))) := by
            rw [List.range'_succ, List.map_cons]
            unfold sp_text
            rw [List.flatMap_cons]
            unfold sp_line
            simp
          rw [htx] at he
          generalize sp_text ((List.range' (j + 1) d).map C) = T at he ih
          have ih' := fun (lf : Nat) (o4 o5 : Option Value) (h1 : lf < 2 ^ 31) => ih (j + 1) lf o4 o5 (by omega) h1
          rw [x_108_9]
          cases left with
          | zero =>
            simp only [x_108_10, x_108_11, x_108_14, x_108_17, x_108_18, x_108_21, x_108_22, x_108_25, x_108_26, x_108_29, x_108_30, x_108_31, x_108_34, mw_nx, mw_no, mw_ite, mw_call, mw_ret, mw_cst, mw_ii, mw_i1, mw_ll, mw_l1, mw_li, mw_i2l, mw_l2i, mw_lcm, mw_if, mw_ic, mw_ifnN, mw_ifnR, mw_go, mw_dupi, mw_dupr, mw_popi, mw_popr, mw_nw, mw_rti, mw_rtl, mw_rtr, mw_rtn, mw_rtv, mw_rt0, mw_rt1, mj_ild, mj_lld, mj_ald, mj_ist, mj_lst, mj_ast, mj_inc, mj_iz, mj_get, mj_put, mj_len, mj_iar, mj_aar, mj_iaw, mj_aaw, mj_ivs, mj_ivv, mj_ivi, mj_ob, mj_tk, mj_cat, mj_st1, mj_st2, mj_clr, mj_nwi, mj_nwq, List.getElem?_cons_zero, List.getElem?_cons_succ, List.length_cons, List.length_nil, List.set_cons_zero, List.set_cons_succ, Value.category, decide_eq_true_eq, List.map_cons, List.map_nil, List.sum_cons, List.sum_nil, Option.toList, List.cons_append, List.nil_append, ite_true, ite_false, if_true, if_false, reduceCtorEq, true_and, and_true, narrow_i, narrow_l, narrow_r, narrow_n, fits_i, fits_l, fits_ro, fits_ra, fits_no, fits_na, Nat.reduceAdd, Nat.reduceLT, Nat.reduceLeDiff, Nat.reduceEqDiff, Nat.reduceSub, zero_add0, true_or, or_true, false_or, or_false, not_true_eq_false, not_false_eq_true, eq_self, i10, i01, im0, im1, ho, e1, e2, e3, k1, at_0, z0, z1, z2, a1, m_letterOf a5]
            rw [← he] at hfin2
            simpa using hfin2
          | succ left =>
            have e4 : (left + 1 = 0) = False := eq_false (by omega)
            simp only [x_108_10, x_108_11, x_108_14, x_108_17, x_108_18, x_108_21, x_108_22, x_108_25, x_108_26, x_108_29, x_108_30, x_108_31, x_108_34, x_108_35, x_108_38, x_108_39, mw_nx, mw_no, mw_ite, mw_call, mw_ret, mw_cst, mw_ii, mw_i1, mw_ll, mw_l1, mw_li, mw_i2l, mw_l2i, mw_lcm, mw_if, mw_ic, mw_ifnN, mw_ifnR, mw_go, mw_dupi, mw_dupr, mw_popi, mw_popr, mw_nw, mw_rti, mw_rtl, mw_rtr, mw_rtn, mw_rtv, mw_rt0, mw_rt1, mj_ild, mj_lld, mj_ald, mj_ist, mj_lst, mj_ast, mj_inc, mj_iz, mj_get, mj_put, mj_len, mj_iar, mj_aar, mj_iaw, mj_aaw, mj_ivs, mj_ivv, mj_ivi, mj_ob, mj_tk, mj_cat, mj_st1, mj_st2, mj_clr, mj_nwi, mj_nwq, List.getElem?_cons_zero, List.getElem?_cons_succ, List.length_cons, List.length_nil, List.set_cons_zero, List.set_cons_succ, Value.category, decide_eq_true_eq, List.map_cons, List.map_nil, List.sum_cons, List.sum_nil, Option.toList, List.cons_append, List.nil_append, ite_true, ite_false, if_true, if_false, reduceCtorEq, true_and, and_true, narrow_i, narrow_l, narrow_r, narrow_n, fits_i, fits_l, fits_ro, fits_ra, fits_no, fits_na, Nat.reduceAdd, Nat.reduceLT, Nat.reduceLeDiff, Nat.reduceEqDiff, Nat.reduceSub, zero_add0, true_or, or_true, false_or, or_false, not_true_eq_false, not_false_eq_true, eq_self, i10, i01, im0, im1, ho, e1, e2, e3, e4, pk_m1]
            have he2 : (if left < ((C j).2.flatMap sp_lit ++ (10 :: T)).length then nI (((C j).2.flatMap sp_lit ++ (10 :: T)).getD left 0) else -1) = (if q < (sp_text ls).length then nI ((sp_text ls).getD q 0) else -1) := by
              rw [← he]
              simp
            have inner : ∀ (rest done : List Nat) (lf : Nat) (o5 : Option Value), (C j).2 = done ++ rest → lf < 2 ^ 31 → (if lf < (rest.flatMap sp_lit ++ (10 :: T)).length then nI ((rest.flatMap sp_lit ++ (10 :: T)).getD lf 0) else -1) = (if q < (sp_text ls).length then nI ((sp_text ls).getD q 0) else -1) → mj_wp 108 41 [some (.ref M), some (.int (nI q)), some (.int (nI lf)), some (.int (nI j)), some (.int (nI done.length)), o5] [] hp0 Q := by
              intro rest
              induction rest with
              | nil =>
                intro done lf o5 hd hlf hee
                rw [List.append_nil] at hd
                have e5 : nI (C j).2.length ≤ nI done.length := by rw [hd]; exact nI_le (Nat.le_refl _) (by rw [hd] at hlen; omega)
                have e6 : (nI lf = 0) = (lf = 0) := propext (nI_eq (b := 0) hlf (by omega))
                rw [x_108_41]
                cases lf with
                | zero =>
                  simp only [x_108_43, x_108_44, x_108_47, x_108_48, x_108_49, x_108_97, x_108_98, x_108_101, x_108_103, mw_nx, mw_no, mw_ite, mw_call, mw_ret, mw_cst, mw_ii, mw_i1, mw_ll, mw_l1, mw_li, mw_i2l, mw_l2i, mw_lcm, mw_if, mw_ic, mw_ifnN, mw_ifnR, mw_go, mw_dupi, mw_dupr, mw_popi, mw_popr, mw_nw, mw_rti, mw_rtl, mw_rtr, mw_rtn, mw_rtv, mw_rt0, mw_rt1, mj_ild, mj_lld, mj_ald, mj_ist, mj_lst, mj_ast, mj_inc, mj_iz, mj_get, mj_put, mj_len, mj_iar, mj_aar, mj_iaw, mj_aaw, mj_ivs, mj_ivv, mj_ivi, mj_ob, mj_tk, mj_cat, mj_st1, mj_st2, mj_clr, mj_nwi, mj_nwq, List.getElem?_cons_zero, List.getElem?_cons_succ, List.length_cons, List.length_nil, List.set_cons_zero, List.set_cons_succ, Value.category, decide_eq_true_eq, List.map_cons, List.map_nil, List.sum_cons, List.sum_nil, Option.toList, List.cons_append, List.nil_append, ite_true, ite_false, if_true, if_false, reduceCtorEq, true_and, and_true, narrow_i, narrow_l, narrow_r, narrow_n, fits_i, fits_l, fits_ro, fits_ra, fits_no, fits_na, Nat.reduceAdd, Nat.reduceLT, Nat.reduceLeDiff, Nat.reduceEqDiff, Nat.reduceSub, zero_add0, true_or, or_true, false_or, or_false, not_true_eq_false, not_false_eq_true, eq_self, i10, i01, im0, im1, ho, k2, at_0, z0, z1, z2, a2, e5, e6]
                  rw [← hee] at hfin2
                  simpa using hfin2
                | succ lf =>
                  have e7 : (lf + 1 = 0) = False := eq_false (by omega)
                  simp only [x_108_43, x_108_44, x_108_47, x_108_48, x_108_49, x_108_97, x_108_98, x_108_101, x_108_103, x_108_104, x_108_107, x_108_110, mw_nx, mw_no, mw_ite, mw_call, mw_ret, mw_cst, mw_ii, mw_i1, mw_ll, mw_l1, mw_li, mw_i2l, mw_l2i, mw_lcm, mw_if, mw_ic, mw_ifnN, mw_ifnR, mw_go, mw_dupi, mw_dupr, mw_popi, mw_popr, mw_nw, mw_rti, mw_rtl, mw_rtr, mw_rtn, mw_rtv, mw_rt0, mw_rt1, mj_ild, mj_lld, mj_ald, mj_ist, mj_lst, mj_ast, mj_inc, mj_iz, mj_get, mj_put, mj_len, mj_iar, mj_aar, mj_iaw, mj_aaw, mj_ivs, mj_ivv, mj_ivi, mj_ob, mj_tk, mj_cat, mj_st1, mj_st2, mj_clr, mj_nwi, mj_nwq, List.getElem?_cons_zero, List.getElem?_cons_succ, List.length_cons, List.length_nil, List.set_cons_zero, List.set_cons_succ, Value.category, decide_eq_true_eq, List.map_cons, List.map_nil, List.sum_cons, List.sum_nil, Option.toList, List.cons_append, List.nil_append, ite_true, ite_false, if_true, if_false, reduceCtorEq, true_and, and_true, narrow_i, narrow_l, narrow_r, narrow_n, fits_i, fits_l, fits_ro, fits_ra, fits_no, fits_na, Nat.reduceAdd, Nat.reduceLT, Nat.reduceLeDiff, Nat.reduceEqDiff, Nat.reduceSub, zero_add0, true_or, or_true, false_or, or_false, not_true_eq_false, not_false_eq_true, eq_self, i10, i01, im0, im1, ho, k2, at_0, z0, z1, z2, a2, e5, e6, e7, pk_m1, nI_1]
                  refine ih' lf _ _ (by omega) ?_
                  rw [← hee]
                  simp
              | cons c rest ih2 =>
                intro done lf o5 hd hlf hee
                have hlt : done.length < (C j).2.length := by rw [hd]; simp
                have hcg : (C j).2.getD done.length 0 = c := by rw [hd]; simp [List.getD_eq_getElem?_getD]
                have hc2 : c < 128 := a4.2 c (by rw [hd]; simp)
                have hl4 : (sp_lit c).length ≤ 4 := by rw [sp_lit_len hc2]; split <;> split <;> omega
                have e5 : ¬ nI (C j).2.length ≤ nI done.length := nI_ge hlt (by omega)
                have p0 : ¬ nI (128 * j + done.length) < 0 := nI_pos (by omega)
                have p1 : (nI (128 * j + done.length)).toNatClampNeg = 128 * j + done.length := nI_clamp (by omega)
                have p2 : ¬ 20480 ≤ 128 * j + done.length := by omega
                have e6 : fl (128 * j + done.length) = nI c := by rw [a3 _ hlt, hcg]
                have e7 : (nI (sp_lit c).length ≤ nI lf) = ((sp_lit c).length ≤ lf) := propext (nI_leI (by omega) hlf)
                rw [List.flatMap_cons, List.append_assoc] at hee
                rw [x_108_41]
                by_cases w : (sp_lit c).length ≤ lf
                · have q1 := eq_true w
                  have e8 : nI lf - nI (sp_lit c).length = nI (lf - (sp_lit c).length) := pk_sub w
                  simp only [x_108_43, x_108_44, x_108_47, x_108_48, x_108_49, x_108_52, x_108_53, x_108_56, x_108_59, x_108_60, x_108_61, x_108_63, x_108_64, x_108_65, x_108_67, x_108_68, x_108_70, x_108_73, x_108_76, x_108_78, x_108_79, x_108_82, x_108_83, x_108_84, x_108_86, x_108_89, x_108_90, x_108_91, x_108_94, mw_nx, mw_no, mw_ite, mw_call, mw_ret, mw_cst, mw_ii, mw_i1, mw_ll, mw_l1, mw_li, mw_i2l, mw_l2i, mw_lcm, mw_if, mw_ic, mw_ifnN, mw_ifnR, mw_go, mw_dupi, mw_dupr, mw_popi, mw_popr, mw_nw, mw_rti, mw_rtl, mw_rtr, mw_rtn, mw_rtv, mw_rt0, mw_rt1, mj_ild, mj_lld, mj_ald, mj_ist, mj_lst, mj_ast, mj_inc, mj_iz, mj_get, mj_put, mj_len, mj_iar, mj_aar, mj_iaw, mj_aaw, mj_ivs, mj_ivv, mj_ivi, mj_ob, mj_tk, mj_cat, mj_st1, mj_st2, mj_clr, mj_nwi, mj_nwq, List.getElem?_cons_zero, List.getElem?_cons_succ, List.length_cons, List.length_nil, List.set_cons_zero, List.set_cons_succ, Value.category, decide_eq_true_eq, List.map_cons, List.map_nil, List.sum_cons, List.sum_nil, Option.toList, List.cons_append, List.nil_append, ite_true, ite_false, if_true, if_false, reduceCtorEq, true_and, and_true, narrow_i, narrow_l, narrow_r, narrow_n, fits_i, fits_l, fits_ro, fits_ra, fits_no, fits_na, Nat.reduceAdd, Nat.reduceLT, Nat.reduceLeDiff, Nat.reduceEqDiff, Nat.reduceSub, zero_add0, true_or, or_true, false_or, or_false, not_true_eq_false, not_false_eq_true, eq_self, i10, i01, im0, im1, ho, k2, k3, at_0, z0, z1, z2, a2, e5, ix128, p0, p1, p2, e6, m_bytesOf hc2, e7, q1, e8, nI_1]
                  have := ih2 (done ++ [c]) (lf - (sp_lit c).length) (some (.int (nI c))) (by rw [hd]; simp) (by omega) (by
                    rw [← hee, getD_app_r w, List.length_append (as := sp_lit c)]
                    have hiff : (lf - (sp_lit c).length < (rest.flatMap sp_lit ++ 10 :: T).length) ↔ (lf < (sp_lit c).length + (rest.flatMap sp_lit ++ 10 :: T).length) := by omega
                    by_cases v : lf - (sp_lit c).length < (rest.flatMap sp_lit ++ 10 :: T).length
                    · rw [if_pos v, if_pos (hiff.mp v)]
                    · rw [if_neg v, if_neg (fun z => v (hiff.mpr z))])
                  rw [List.length_append] at this
                  exact this
                · have q1 := eq_false w
                  simp only [x_108_43, x_108_44, x_108_47, x_108_48, x_108_49, x_108_52, x_108_53, x_108_56, x_108_59, x_108_60, x_108_61, x_108_63, x_108_64, x_108_65, x_108_67, x_108_68, x_108_70, x_108_73, x_108_76, x_108_78, x_108_79, x_108_82, mw_nx, mw_no, mw_ite, mw_call, mw_ret, mw_cst, mw_ii, mw_i1, mw_ll, mw_l1, mw_li, mw_i2l, mw_l2i, mw_lcm, mw_if, mw_ic, mw_ifnN, mw_ifnR, mw_go, mw_dupi, mw_dupr, mw_popi, mw_popr, mw_nw, mw_rti, mw_rtl, mw_rtr, mw_rtn, mw_rtv, mw_rt0, mw_rt1, mj_ild, mj_lld, mj_ald, mj_ist, mj_lst, mj_ast, mj_inc, mj_iz, mj_get, mj_put, mj_len, mj_iar, mj_aar, mj_iaw, mj_aaw, mj_ivs, mj_ivv, mj_ivi, mj_ob, mj_tk, mj_cat, mj_st1, mj_st2, mj_clr, mj_nwi, mj_nwq, List.getElem?_cons_zero, List.getElem?_cons_succ, List.length_cons, List.length_nil, List.set_cons_zero, List.set_cons_succ, Value.category, decide_eq_true_eq, List.map_cons, List.map_nil, List.sum_cons, List.sum_nil, Option.toList, List.cons_append, List.nil_append, ite_true, ite_false, if_true, if_false, reduceCtorEq, true_and, and_true, narrow_i, narrow_l, narrow_r, narrow_n, fits_i, fits_l, fits_ro, fits_ra, fits_no, fits_na, Nat.reduceAdd, Nat.reduceLT, Nat.reduceLeDiff, Nat.reduceEqDiff, Nat.reduceSub, zero_add0, true_or, or_true, false_or, or_false, not_true_eq_false, not_false_eq_true, eq_self, i10, i01, im0, im1, ho, k2, k3, at_0, z0, z1, z2, a2, e5, ix128, p0, p1, p2, e6, m_bytesOf hc2, e7, q1, m_byteOf hc2 (show lf < (sp_lit c).length by omega)]
                  rw [← hee, getD_app_l (by omega), List.length_append (as := sp_lit c), if_pos (by omega)] at hfin2
                  exact hfin2
            exact inner (C j).2 [] left _ rfl (by omega) he2
      simp only [x_108_5, x_108_6, x_108_7, x_108_8, mw_nx, mw_no, mw_ite, mw_call, mw_ret, mw_cst, mw_ii, mw_i1, mw_ll, mw_l1, mw_li, mw_i2l, mw_l2i, mw_lcm, mw_if, mw_ic, mw_ifnN, mw_ifnR, mw_go, mw_dupi, mw_dupr, mw_popi, mw_popr, mw_nw, mw_rti, mw_rtl, mw_rtr, mw_rtn, mw_rtv, mw_rt0, mw_rt1, mj_ild, mj_lld, mj_ald, mj_ist, mj_lst, mj_ast, mj_inc, mj_iz, mj_get, mj_put, mj_len, mj_iar, mj_aar, mj_iaw, mj_aaw, mj_ivs, mj_ivv, mj_ivi, mj_ob, mj_tk, mj_cat, mj_st1, mj_st2, mj_clr, mj_nwi, mj_nwq, List.getElem?_cons_zero, List.getElem?_cons_succ, List.length_cons, List.length_nil, List.set_cons_zero, List.set_cons_succ, Value.category, decide_eq_true_eq, List.map_cons, List.map_nil, List.sum_cons, List.sum_nil, Option.toList, List.cons_append, List.nil_append, ite_true, ite_false, if_true, if_false, reduceCtorEq, true_and, and_true, narrow_i, narrow_l, narrow_r, narrow_n, fits_i, fits_l, fits_ro, fits_ra, fits_no, fits_na, Nat.reduceAdd, Nat.reduceLT, Nat.reduceLeDiff, Nat.reduceEqDiff, Nat.reduceSub, zero_add0, true_or, or_true, false_or, or_false, not_true_eq_false, not_false_eq_true, eq_self, i10, i01, im0, im1]
      exact outer ls.length 0 q none none (by omega) hq (by rw [← List.range_eq_range', hmap])
  rw [en_108]
  simp only [x_108_0, x_108_1, x_108_2, mw_nx, mw_no, mw_ite, mw_call, mw_ret, mw_cst, mw_ii, mw_i1, mw_ll, mw_l1, mw_li, mw_i2l, mw_l2i, mw_lcm, mw_if, mw_ic, mw_ifnN, mw_ifnR, mw_go, mw_dupi, mw_dupr, mw_popi, mw_popr, mw_nw, mw_rti, mw_rtl, mw_rtr, mw_rtn, mw_rtv, mw_rt0, mw_rt1, mj_ild, mj_lld, mj_ald, mj_ist, mj_lst, mj_ast, mj_inc, mj_iz, mj_get, mj_put, mj_len, mj_iar, mj_aar, mj_iaw, mj_aaw, mj_ivs, mj_ivv, mj_ivi, mj_ob, mj_tk, mj_cat, mj_st1, mj_st2, mj_clr, mj_nwi, mj_nwq, List.getElem?_cons_zero, List.getElem?_cons_succ, List.length_cons, List.length_nil, List.set_cons_zero, List.set_cons_succ, Value.category, decide_eq_true_eq, List.map_cons, List.map_nil, List.sum_cons, List.sum_nil, Option.toList, List.cons_append, List.nil_append, ite_true, ite_false, if_true, if_false, reduceCtorEq, true_and, and_true, narrow_i, narrow_l, narrow_r, narrow_n, fits_i, fits_l, fits_ro, fits_ra, fits_no, fits_na, Nat.reduceAdd, Nat.reduceLT, Nat.reduceLeDiff, Nat.reduceEqDiff, Nat.reduceSub, zero_add0, true_or, or_true, false_or, or_false, not_true_eq_false, not_false_eq_true, eq_self, i10, i01, im0, im1, ho]
  exact body _ hw.th (sm.up (by omega) (by omega))
end MX
