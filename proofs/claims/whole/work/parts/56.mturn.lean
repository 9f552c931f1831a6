/-! The reference: turn and text -/
theorem i90 : ((9 : Int32) = 0) = False := by decide
theorem m_turned {hp : mj_H} {Q : mj_Q} {c x y : Nat} (hc : c < 128) (hx : x < 64) (hy : y < 64) : mj_call 101 [.int (nI c), .int (nI x), .int (nI y)] hp Q = Q (some (.int (nI (sp_ex x y c)))) hp := by
  have e5 : nI c / 2 = nI (c / 2) := pk_div (d := 2) (by omega) (by omega) (by omega)
  have e6 : nI c - nI (c / 2) * 2 = nI (c % 2) := by rw [← e5]; exact pk_rem (d := 2) (by omega) (by omega) (by omega)
  have e7 : (nI (c / 2) = nI x) = (c / 2 = x) := propext (nI_eq (by omega) (by omega))
  have e8 : (nI (c / 2) = nI y) = (c / 2 = y) := propext (nI_eq (by omega) (by omega))
  rw [en_101]
  unfold sp_ex
  by_cases w : c / 2 = x
  · have q := eq_true w
    rw [if_pos w]
    simp only [x_101_0, x_101_1, x_101_2, x_101_3, x_101_4, x_101_7, x_101_8, x_101_9, x_101_10, x_101_11, x_101_12, x_101_13, x_101_14, x_101_17, x_101_18, x_101_19, x_101_20, x_101_21, x_101_24, x_101_25, x_101_26, x_101_27, x_101_28, x_101_29, x_101_30, x_101_31, x_101_34, x_101_35, mw_nx, mw_no, mw_ite, mw_call, mw_ret, mw_cst, mw_ii, mw_i1, mw_ll, mw_l1, mw_li, mw_i2l, mw_l2i, mw_lcm, mw_if, mw_ic, mw_ifnN, mw_ifnR, mw_go, mw_dupi, mw_dupr, mw_popi, mw_popr, mw_nw, mw_rti, mw_rtl, mw_rtr, mw_rtn, mw_rtv, mw_rt0, mw_rt1, mj_ild, mj_lld, mj_ald, mj_ist, mj_lst, mj_ast, mj_inc, mj_iz, mj_get, mj_put, mj_len, mj_iar, mj_aar, mj_iaw, mj_aaw, mj_ivs, mj_ivv, mj_ivi, mj_ob, mj_tk, mj_cat, mj_st1, mj_st2, mj_clr, mj_nwi, mj_nwq, List.getElem?_cons_zero, List.getElem?_cons_succ, List.length_cons, List.length_nil, List.set_cons_zero, List.set_cons_succ, Value.category, decide_eq_true_eq, List.map_cons, List.map_nil, List.sum_cons, List.sum_nil, Option.toList, List.cons_append, List.nil_append, ite_true, ite_false, if_true, if_false, reduceCtorEq, true_and, and_true, narrow_i, narrow_l, narrow_r, narrow_n, fits_i, fits_l, fits_ro, fits_ra, fits_no, fits_na, Nat.reduceAdd, Nat.reduceLT, Nat.reduceLeDiff, Nat.reduceEqDiff, Nat.reduceSub, zero_add0, true_or, or_true, false_or, or_false, not_true_eq_false, not_false_eq_true, eq_self, i10, i01, im0, im1, mj_iz, i20, e5, e6, e7, q, dbl, nI_add]
  · have q := eq_false w
    rw [if_neg w]
    by_cases w2 : c / 2 = y
    · have q2 := eq_true w2
      rw [if_pos w2]
      simp only [x_101_0, x_101_1, x_101_2, x_101_3, x_101_4, x_101_7, x_101_8, x_101_9, x_101_10, x_101_11, x_101_12, x_101_13, x_101_14, x_101_17, x_101_18, x_101_19, x_101_20, x_101_21, x_101_24, x_101_25, x_101_26, x_101_27, x_101_28, x_101_29, x_101_30, x_101_31, x_101_34, x_101_35, mw_nx, mw_no, mw_ite, mw_call, mw_ret, mw_cst, mw_ii, mw_i1, mw_ll, mw_l1, mw_li, mw_i2l, mw_l2i, mw_lcm, mw_if, mw_ic, mw_ifnN, mw_ifnR, mw_go, mw_dupi, mw_dupr, mw_popi, mw_popr, mw_nw, mw_rti, mw_rtl, mw_rtr, mw_rtn, mw_rtv, mw_rt0, mw_rt1, mj_ild, mj_lld, mj_ald, mj_ist, mj_lst, mj_ast, mj_inc, mj_iz, mj_get, mj_put, mj_len, mj_iar, mj_aar, mj_iaw, mj_aaw, mj_ivs, mj_ivv, mj_ivi, mj_ob, mj_tk, mj_cat, mj_st1, mj_st2, mj_clr, mj_nwi, mj_nwq, List.getElem?_cons_zero, List.getElem?_cons_succ, List.length_cons, List.length_nil, List.set_cons_zero, List.set_cons_succ, Value.category, decide_eq_true_eq, List.map_cons, List.map_nil, List.sum_cons, List.sum_nil, Option.toList, List.cons_append, List.nil_append, ite_true, ite_false, if_true, if_false, reduceCtorEq, true_and, and_true, narrow_i, narrow_l, narrow_r, narrow_n, fits_i, fits_l, fits_ro, fits_ra, fits_no, fits_na, Nat.reduceAdd, Nat.reduceLT, Nat.reduceLeDiff, Nat.reduceEqDiff, Nat.reduceSub, zero_add0, true_or, or_true, false_or, or_false, not_true_eq_false, not_false_eq_true, eq_self, i10, i01, im0, im1, mj_iz, i20, e5, e6, e7, q, e8, q2, dbl, nI_add]
    · have q2 := eq_false w2
      rw [if_neg w2, show 2 * (c / 2) + c % 2 = c by omega]
      simp only [x_101_0, x_101_1, x_101_2, x_101_3, x_101_4, x_101_7, x_101_8, x_101_9, x_101_10, x_101_11, x_101_12, x_101_13, x_101_14, x_101_17, x_101_18, x_101_19, x_101_20, x_101_21, x_101_24, x_101_25, x_101_26, x_101_27, x_101_28, x_101_29, x_101_30, x_101_31, x_101_34, x_101_35, mw_nx, mw_no, mw_ite, mw_call, mw_ret, mw_cst, mw_ii, mw_i1, mw_ll, mw_l1, mw_li, mw_i2l, mw_l2i, mw_lcm, mw_if, mw_ic, mw_ifnN, mw_ifnR, mw_go, mw_dupi, mw_dupr, mw_popi, mw_popr, mw_nw, mw_rti, mw_rtl, mw_rtr, mw_rtn, mw_rtv, mw_rt0, mw_rt1, mj_ild, mj_lld, mj_ald, mj_ist, mj_lst, mj_ast, mj_inc, mj_iz, mj_get, mj_put, mj_len, mj_iar, mj_aar, mj_iaw, mj_aaw, mj_ivs, mj_ivv, mj_ivi, mj_ob, mj_tk, mj_cat, mj_st1, mj_st2, mj_clr, mj_nwi, mj_nwq, List.getElem?_cons_zero, List.getElem?_cons_succ, List.length_cons, List.length_nil, List.set_cons_zero, List.set_cons_succ, Value.category, decide_eq_true_eq, List.map_cons, List.map_nil, List.sum_cons, List.sum_nil, Option.toList, List.cons_append, List.nil_append, ite_true, ite_false, if_true, if_false, reduceCtorEq, true_and, and_true, narrow_i, narrow_l, narrow_r, narrow_n, fits_i, fits_l, fits_ro, fits_ra, fits_no, fits_na, Nat.reduceAdd, Nat.reduceLT, Nat.reduceLeDiff, Nat.reduceEqDiff, Nat.reduceSub, zero_add0, true_or, or_true, false_or, or_false, not_true_eq_false, not_false_eq_true, eq_self, i10, i01, im0, im1, mj_iz, i20, e5, e6, e7, q, e8, q2]
theorem sp_exn_snoc {x y c : Nat} {cs : List Nat} : sp_exn x y (cs ++ [c]) = sp_exn x y cs + (if sp_ex x y c = c then 0 else 1) := by
  unfold sp_exn
  rw [List.countP_append, List.countP_cons, List.countP_nil]
  by_cases h : sp_ex x y c = c <;> simp [h]
section MV
variable {hp : mj_H} {Q : mj_Q} {M : Nat} {s : sp_S}
theorem e_turn (fx ty : Int32) (h : mo_at hp M s) (hQ : ∀ hp' : mj_H, mo_at hp' M (so_turn fx ty s).1 → sm hp hp' M (M + 8) → Q (some (.int (so_turn fx ty s).2)) hp') : mj_call 102 [.ref M, .int fx, .int ty] hp Q := by
  obtain ⟨a, b, t0, C, hw⟩ := mo_w_of h
  have ho := hw.2.1
  have body : ∀ hp0 : mj_H, mo_w hp0 M a b 0 C s → sm hp hp0 M (M + 8) → mj_wp 102 5 [some (.ref M), some (.int fx), some (.int ty), none, none, none, none] [] hp0 Q := by
    obtain ⟨n, col, ls, xs⟩ := s
    intro hp0 hw0 s0
    have hw1 := hw0
    obtain ⟨hn, ho, hr, hmap, hk, hlv, hc, hcb, hu, hh⟩ := hw0
    dsimp only at *
    unfold so_turn at hQ
    dsimp only at hQ
    by_cases w1 : so_th n fx
    · have w1' : (0 ≤ fx ∧ fx < nI n) = True := eq_true w1
      by_cases w2 : so_th n ty
      · have w2' : (0 ≤ ty ∧ ty < nI n) = True := eq_true w2
        obtain ⟨x, hx, hxe, hxc⟩ := so_th_nat hn.2 w1
        obtain ⟨y, hy, hye, hyc⟩ := so_th_nat hn.2 w2
        rw [sp_if_t ⟨w1, w2⟩, hxc, hyc] at hQ
        simp only [x_102_5, x_102_6, x_102_7, x_102_10, x_102_13, x_102_14, x_102_15, x_102_18, x_102_21, x_102_22, x_102_23, x_102_24, x_102_25, x_102_26, mw_nx, mw_no, mw_ite, mw_call, mw_ret, mw_cst, mw_ii, mw_i1, mw_ll, mw_l1, mw_li, mw_i2l, mw_l2i, mw_lcm, mw_if, mw_ic, mw_ifnN, mw_ifnR, mw_go, mw_dupi, mw_dupr, mw_popi, mw_popr, mw_nw, mw_rti, mw_rtl, mw_rtr, mw_rtn, mw_rtv, mw_rt0, mw_rt1, mj_ild, mj_lld, mj_ald, mj_ist, mj_lst, mj_ast, mj_inc, mj_iz, mj_get, mj_put, mj_len, mj_iar, mj_aar, mj_iaw, mj_aaw, mj_ivs, mj_ivv, mj_ivi, mj_ob, mj_tk, mj_cat, mj_st1, mj_st2, mj_clr, mj_nwi, mj_nwq, List.getElem?_cons_zero, List.getElem?_cons_succ, List.length_cons, List.length_nil, List.set_cons_zero, List.set_cons_succ, Value.category, decide_eq_true_eq, List.map_cons, List.map_nil, List.sum_cons, List.sum_nil, Option.toList, List.cons_append, List.nil_append, ite_true, ite_false, if_true, if_false, reduceCtorEq, true_and, and_true, narrow_i, narrow_l, narrow_r, narrow_n, fits_i, fits_l, fits_ro, fits_ra, fits_no, fits_na, Nat.reduceAdd, Nat.reduceLT, Nat.reduceLeDiff, Nat.reduceEqDiff, Nat.reduceSub, zero_add0, true_or, or_true, false_or, or_false, not_true_eq_false, not_false_eq_true, eq_self, i10, i01, im0, im1, ho, m_isThing fx ho, w1', m_isThing ty ho, w2']
        rw [hxe, hye]
        have hx6 : x < 64 := by omega
        have hy6 : y < 64 := by omega
        have hbig : ∀ i, pf_exn C x y i ≤ 128 * i → True := fun _ _ => trivial
        have third : ∀ (hp1 : mj_H), hp1.1 M = some (mo_o M n ls.length col.length xs.length a b 0) → rows hp1 M (pf_ex C x y ls.length) → sm hp0 hp1 M (M + 4) → ∀ (o5 o6 : Option Value) (rest done : List Nat) (cn : Nat) (g : Nat → Int32) (hp2 : mj_H) (o5 : Option Value), col = done ++ rest → cn = pf_exn C x y ls.length + sp_exn x y done → (∀ j, j < col.length → g j = nI ((done.map (sp_ex x y) ++ rest).getD j 0)) → hp2.1 (M + 4) = some (ma 128 g) → sm hp1 hp2 (M + 4) (M + 5) → mj_wp 102 117 [some (.ref M), some (.int (nI x)), some (.int (nI y)), some (.int (nI cn)), some (.int (nI done.length)), o5, o6] [] hp2 Q := by
          intro hp1 o1 r1 s1 o5' o6 rest
          obtain ⟨fc, c1, c2, c3⟩ := hc
          have hlen := ln_len c3
          induction rest with
          | nil =>
            intro done cn g hp2 o5 hd hcn hg k4 s2
            rw [List.append_nil] at hd
            subst hd
            have o2 := (s2.2 M (by omega)).trans o1
            have e1 : nI col.length ≤ nI col.length := nI_le (Nat.le_refl _) (by omega)
            rw [x_102_117]
            simp only [x_102_119, x_102_120, x_102_123, x_102_170, x_102_171, mw_nx, mw_no, mw_ite, mw_call, mw_ret, mw_cst, mw_ii, mw_i1, mw_ll, mw_l1, mw_li, mw_i2l, mw_l2i, mw_lcm, mw_if, mw_ic, mw_ifnN, mw_ifnR, mw_go, mw_dupi, mw_dupr, mw_popi, mw_popr, mw_nw, mw_rti, mw_rtl, mw_rtr, mw_rtn, mw_rtv, mw_rt0, mw_rt1, mj_ild, mj_lld, mj_ald, mj_ist, mj_lst, mj_ast, mj_inc, mj_iz, mj_get, mj_put, mj_len, mj_iar, mj_aar, mj_iaw, mj_aaw, mj_ivs, mj_ivv, mj_ivi, mj_ob, mj_tk, mj_cat, mj_st1, mj_st2, mj_clr, mj_nwi, mj_nwq, List.getElem?_cons_zero, List.getElem?_cons_succ, List.length_cons, List.length_nil, List.set_cons_zero, List.set_cons_succ, Value.category, decide_eq_true_eq, List.map_cons, List.map_nil, List.sum_cons, List.sum_nil, Option.toList, List.cons_append, List.nil_append, ite_true, ite_false, if_true, if_false, reduceCtorEq, true_and, and_true, narrow_i, narrow_l, narrow_r, narrow_n, fits_i, fits_l, fits_ro, fits_ra, fits_no, fits_na, Nat.reduceAdd, Nat.reduceLT, Nat.reduceLeDiff, Nat.reduceEqDiff, Nat.reduceSub, zero_add0, true_or, or_true, false_or, or_false, not_true_eq_false, not_false_eq_true, eq_self, i10, i01, im0, im1, o2, e1]
            rw [hcn, pf_exn_so, hmap]
            have hm : (List.range ls.length).map (pf_ex C x y ls.length) = ls.map (so_ex x y) := by
              conv => rhs; rw [← hmap]
              rw [List.map_map]
              apply List.map_congr_left
              intro j hj
              unfold pf_ex so_ex
              simp [List.mem_range.mp hj]
            have r2 : rows hp2 M (pf_ex C x y ls.length) := r1.keep (s2.2 _ (by omega)) (s2.2 _ (by omega)) (s2.2 _ (by omega))
            refine hQ hp2 ⟨hn, a, b, 0, _, ?_, r2, ?_, ?_, fun l hl => ?_, ⟨g, k4, fun j hj => ?_, ln_ok_map c3 hx6 hy6⟩, fun c hc2 => ?_, hu.keep ((s2.2 _ (by omega)).trans (s1.2 _ (by omega))), hh.keep ((s2.2 _ (by omega)).trans (s1.2 _ (by omega))) ((s2.2 _ (by omega)).trans (s1.2 _ (by omega)))⟩ ((s0.tr (s1.mono (by omega) (by omega))).tr (s2.mono (by omega) (by omega)))
            · dsimp only; rw [List.length_map, List.length_map]; exact o2
            · dsimp only; rw [List.length_map]; exact hm
            · dsimp only; rw [List.length_map]; exact hk
            · obtain ⟨l', hl', rfl⟩ := List.mem_map.mp hl
              exact lv_ex hx hy (hlv l' hl')
            · dsimp only at hj ⊢
              rw [List.length_map] at hj
              rw [hg j hj, List.append_nil]
            · obtain ⟨d, hd, rfl⟩ := List.mem_map.mp hc2
              exact sp_ex_ltn hx hy (hcb d hd)
          | cons c rest ih =>
            intro done cn g hp2 o5 hd hcn hg k4 s2
            have o2 := (s2.2 M (by omega)).trans o1
            have hlt : done.length < col.length := by rw [hd]; simp
            have hc2 : c < 128 := c3.2 c (by rw [hd]; simp)
            have hcx : sp_ex x y c < 128 := sp_ex_lt hx6 hy6 hc2
            have e1 : ¬ nI col.length ≤ nI done.length := nI_ge hlt (by omega)
            have z0 : ¬ nI done.length < 0 := nI_pos (by omega)
            have z1 : (nI done.length).toNatClampNeg = done.length := nI_clamp (by omega)
            have z2 : ¬ 128 ≤ done.length := by omega
            have e2 : g done.length = nI c := by rw [hg _ hlt, gd_r (by rw [List.length_map]; exact Nat.le_refl _)]; simp
            have e3 : (nI (sp_ex x y c) = nI c) = (sp_ex x y c = c) := propext (nI_eq (by omega) (by omega))
            have hg' : ∀ j, j < col.length → upd g done.length (nI (sp_ex x y c)) j = nI (((done ++ [c]).map (sp_ex x y) ++ rest).getD j 0) := by
              intro j hj
              rw [List.map_append, List.map_singleton, List.append_assoc]
              by_cases hjd : j = done.length
              · subst hjd
                rw [upd_at, gd_r (by rw [List.length_map]; exact Nat.le_refl _)]
                simp
              · rw [upd_off hjd, hg j hj]
                by_cases hjl : j < done.length
                · rw [gd_l (by rw [List.length_map]; exact hjl), gd_l (by rw [List.length_map]; exact hjl)]
                · rw [gd_r (by rw [List.length_map]; omega), gd_r (by rw [List.length_map]; omega), List.length_map, gd_s (by omega)]
                  rw [show [sp_ex x y c] ++ rest = sp_ex x y c :: rest from rfl, gd_s (by omega)]
            rw [x_102_117]
            by_cases w : sp_ex x y c = c
            · have q := eq_true w
              simp only [x_102_119, x_102_120, x_102_123, x_102_126, x_102_127, x_102_130, x_102_132, x_102_133, x_102_134, x_102_135, x_102_138, x_102_140, x_102_142, x_102_143, x_102_146, x_102_148, x_102_149, x_102_152, x_102_155, x_102_156, x_102_159, x_102_161, x_102_163, x_102_164, x_102_167, mw_nx, mw_no, mw_ite, mw_call, mw_ret, mw_cst, mw_ii, mw_i1, mw_ll, mw_l1, mw_li, mw_i2l, mw_l2i, mw_lcm, mw_if, mw_ic, mw_ifnN, mw_ifnR, mw_go, mw_dupi, mw_dupr, mw_popi, mw_popr, mw_nw, mw_rti, mw_rtl, mw_rtr, mw_rtn, mw_rtv, mw_rt0, mw_rt1, mj_ild, mj_lld, mj_ald, mj_ist, mj_lst, mj_ast, mj_inc, mj_iz, mj_get, mj_put, mj_len, mj_iar, mj_aar, mj_iaw, mj_aaw, mj_ivs, mj_ivv, mj_ivi, mj_ob, mj_tk, mj_cat, mj_st1, mj_st2, mj_clr, mj_nwi, mj_nwq, List.getElem?_cons_zero, List.getElem?_cons_succ, List.length_cons, List.length_nil, List.set_cons_zero, List.set_cons_succ, Value.category, decide_eq_true_eq, List.map_cons, List.map_nil, List.sum_cons, List.sum_nil, Option.toList, List.cons_append, List.nil_append, ite_true, ite_false, if_true, if_false, reduceCtorEq, true_and, and_true, narrow_i, narrow_l, narrow_r, narrow_n, fits_i, fits_l, fits_ro, fits_ra, fits_no, fits_na, Nat.reduceAdd, Nat.reduceLT, Nat.reduceLeDiff, Nat.reduceEqDiff, Nat.reduceSub, zero_add0, true_or, or_true, false_or, or_false, not_true_eq_false, not_false_eq_true, eq_self, i10, i01, im0, im1, o2, e1, k4, at_0, z0, z1, z2, e2, m_turned hc2 hx6 hy6, e3, q, nI_1]
              have := ih (done ++ [c]) cn _ _ (some (.int (nI (sp_ex x y c)))) (by rw [hd]; simp) (by rw [sp_exn_snoc, if_pos w, hcn]; rfl) hg' (mj_up_at (hp := hp2)) (s2.tr (sm.up (by omega) (by omega)))
              rw [List.length_append] at this
              exact this
            · have q := eq_false w
              simp only [x_102_119, x_102_120, x_102_123, x_102_126, x_102_127, x_102_130, x_102_132, x_102_133, x_102_134, x_102_135, x_102_138, x_102_140, x_102_142, x_102_143, x_102_146, x_102_148, x_102_149, x_102_152, x_102_155, x_102_156, x_102_159, x_102_161, x_102_163, x_102_164, x_102_167, mw_nx, mw_no, mw_ite, mw_call, mw_ret, mw_cst, mw_ii, mw_i1, mw_ll, mw_l1, mw_li, mw_i2l, mw_l2i, mw_lcm, mw_if, mw_ic, mw_ifnN, mw_ifnR, mw_go, mw_dupi, mw_dupr, mw_popi, mw_popr, mw_nw, mw_rti, mw_rtl, mw_rtr, mw_rtn, mw_rtv, mw_rt0, mw_rt1, mj_ild, mj_lld, mj_ald, mj_ist, mj_lst, mj_ast, mj_inc, mj_iz, mj_get, mj_put, mj_len, mj_iar, mj_aar, mj_iaw, mj_aaw, mj_ivs, mj_ivv, mj_ivi, mj_ob, mj_tk, mj_cat, mj_st1, mj_st2, mj_clr, mj_nwi, mj_nwq, List.getElem?_cons_zero, List.getElem?_cons_succ, List.length_cons, List.length_nil, List.set_cons_zero, List.set_cons_succ, Value.category, decide_eq_true_eq, List.map_cons, List.map_nil, List.sum_cons, List.sum_nil, Option.toList, List.cons_append, List.nil_append, ite_true, ite_false, if_true, if_false, reduceCtorEq, true_and, and_true, narrow_i, narrow_l, narrow_r, narrow_n, fits_i, fits_l, fits_ro, fits_ra, fits_no, fits_na, Nat.reduceAdd, Nat.reduceLT, Nat.reduceLeDiff, Nat.reduceEqDiff, Nat.reduceSub, zero_add0, true_or, or_true, false_or, or_false, not_true_eq_false, not_false_eq_true, eq_self, i10, i01, im0, im1, o2, e1, k4, at_0, z0, z1, z2, e2, m_turned hc2 hx6 hy6, e3, q, nI_1]
              have := ih (done ++ [c]) (cn + 1) _ _ (some (.int (nI (sp_ex x y c)))) (by rw [hd]; simp) (by rw [sp_exn_snoc, if_neg w, hcn]; omega) hg' (mj_up_at (hp := hp2)) (s2.tr (sm.up (by omega) (by omega)))
              rw [List.length_append] at this
              exact this
        have outer : ∀ (d i : Nat) (hp1 : mj_H) (o5 o6 : Option Value), i + d = ls.length → hp1.1 M = some (mo_o M n ls.length col.length xs.length a b 0) → rows hp1 M (pf_ex C x y i) → sm hp0 hp1 M (M + 4) → mj_wp 102 28 [some (.ref M), some (.int (nI x)), some (.int (nI y)), some (.int (nI (pf_exn C x y i))), some (.int (nI i)), o5, o6] [] hp1 Q := by
          intro d
          induction d with
          | zero =>
            intro i hp1 o5 o6 hi o1 r1 s1
            obtain rfl : i = ls.length := by omega
            have e1 : nI ls.length ≤ nI ls.length := nI_le (Nat.le_refl _) (by omega)
            rw [x_102_28]
            simp only [x_102_30, x_102_31, x_102_34, x_102_114, x_102_115, mw_nx, mw_no, mw_ite, mw_call, mw_ret, mw_cst, mw_ii, mw_i1, mw_ll, mw_l1, mw_li, mw_i2l, mw_l2i, mw_lcm, mw_if, mw_ic, mw_ifnN, mw_ifnR, mw_go, mw_dupi, mw_dupr, mw_popi, mw_popr, mw_nw, mw_rti, mw_rtl, mw_rtr, mw_rtn, mw_rtv, mw_rt0, mw_rt1, mj_ild, mj_lld, mj_ald, mj_ist, mj_lst, mj_ast, mj_inc, mj_iz, mj_get, mj_put, mj_len, mj_iar, mj_aar, mj_iaw, mj_aaw, mj_ivs, mj_ivv, mj_ivi, mj_ob, mj_tk, mj_cat, mj_st1, mj_st2, mj_clr, mj_nwi, mj_nwq, List.getElem?_cons_zero, List.getElem?_cons_succ, List.length_cons, List.length_nil, List.set_cons_zero, List.set_cons_succ, Value.category, decide_eq_true_eq, List.map_cons, List.map_nil, List.sum_cons, List.sum_nil, Option.toList, List.cons_append, List.nil_append, ite_true, ite_false, if_true, if_false, reduceCtorEq, true_and, and_true, narrow_i, narrow_l, narrow_r, narrow_n, fits_i, fits_l, fits_ro, fits_ra, fits_no, fits_na, Nat.reduceAdd, Nat.reduceLT, Nat.reduceLeDiff, Nat.reduceEqDiff, Nat.reduceSub, zero_add0, true_or, or_true, false_or, or_false, not_true_eq_false, not_false_eq_true, eq_self, i10, i01, im0, im1, o1, e1]
            have hc0 := hc
            obtain ⟨fc, c1, c2, c3⟩ := hc0
            exact third hp1 o1 r1 s1 o5 o6 col [] _ fc hp1 o5 rfl (by unfold sp_exn; simp) (fun j hj => c2 j hj) ((s1.2 _ (by omega)).trans c1) sm.rf
          | succ d ih =>
            intro i hp1 o5 o6 hi o1 r1 s1
            obtain ⟨fk, fm, fl, k1, k2, k3, k4⟩ := r1
            obtain ⟨a1, a2, a3, a4, a5⟩ := k4 i (by omega)
            have hCi : pf_ex C x y i i = C i := by unfold pf_ex; rw [if_neg (by omega)]
            rw [hCi] at a1 a2 a3 a4 a5
            have hlen := ln_len a4
            have e1 : ¬ nI ls.length ≤ nI i := nI_ge (by omega) (by omega)
            have z0 : ¬ nI i < 0 := nI_pos (by omega)
            have z1 : (nI i).toNatClampNeg = i := nI_clamp (by omega)
            have z2 : ¬ 160 ≤ i := by omega
            have m128 : (128 : Int32) * nI i = nI (128 * i) := pk_mul 128 i
            have inner : ∀ (rest done : List Nat) (cn : Nat) (g : Nat → Int32) (hp2 : mj_H) (o6 : Option Value), (C i).2 = done ++ rest → cn = pf_exn C x y i + sp_exn x y done → (∀ j, j < (C i).2.length → g (128 * i + j) = nI ((done.map (sp_ex x y) ++ rest).getD j 0)) → (∀ z, ¬ (128 * i ≤ z ∧ z < 128 * i + 128) → g z = fl z) → hp2.1 (M + 3) = some (ma 20480 g) → sm hp1 hp2 (M + 3) (M + 4) → mj_wp 102 45 [some (.ref M), some (.int (nI x)), some (.int (nI y)), some (.int (nI cn)), some (.int (nI i)), some (.int (nI (128 * i + done.length))), o6] [] hp2 Q := by
              intro rest
              induction rest with
              | nil =>
                intro done cn g hp2 o6 hd hcn hg hg2 q3 s2
                rw [List.append_nil] at hd
                have o2 := (s2.2 M (by omega)).trans o1
                have k2' := (s2.2 (M + 2) (by omega)).trans k2
                have k1' := (s2.2 (M + 1) (by omega)).trans k1
                have e2 : nI (128 * i + (C i).2.length) ≤ nI (128 * i + done.length) := by rw [hd]; exact nI_le (Nat.le_refl _) (by rw [hd] at hlen; omega)
                rw [x_102_45]
                simp only [x_102_47, x_102_50, x_102_52, x_102_53, x_102_54, x_102_57, x_102_59, x_102_60, x_102_61, x_102_108, x_102_111, mw_nx, mw_no, mw_ite, mw_call, mw_ret, mw_cst, mw_ii, mw_i1, mw_ll, mw_l1, mw_li, mw_i2l, mw_l2i, mw_lcm, mw_if, mw_ic, mw_ifnN, mw_ifnR, mw_go, mw_dupi, mw_dupr, mw_popi, mw_popr, mw_nw, mw_rti, mw_rtl, mw_rtr, mw_rtn, mw_rtv, mw_rt0, mw_rt1, mj_ild, mj_lld, mj_ald, mj_ist, mj_lst, mj_ast, mj_inc, mj_iz, mj_get, mj_put, mj_len, mj_iar, mj_aar, mj_iaw, mj_aaw, mj_ivs, mj_ivv, mj_ivi, mj_ob, mj_tk, mj_cat, mj_st1, mj_st2, mj_clr, mj_nwi, mj_nwq, List.getElem?_cons_zero, List.getElem?_cons_succ, List.length_cons, List.length_nil, List.set_cons_zero, List.set_cons_succ, Value.category, decide_eq_true_eq, List.map_cons, List.map_nil, List.sum_cons, List.sum_nil, Option.toList, List.cons_append, List.nil_append, ite_true, ite_false, if_true, if_false, reduceCtorEq, true_and, and_true, narrow_i, narrow_l, narrow_r, narrow_n, fits_i, fits_l, fits_ro, fits_ra, fits_no, fits_na, Nat.reduceAdd, Nat.reduceLT, Nat.reduceLeDiff, Nat.reduceEqDiff, Nat.reduceSub, zero_add0, true_or, or_true, false_or, or_false, not_true_eq_false, not_false_eq_true, eq_self, i10, i01, im0, im1, o2, k2', at_0, z0, z1, z2, a2, m128, nI_add, e2, nI_1]
                have hC2 : va_up (pf_ex C x y i) i ((C i).1, (C i).2.map (sp_ex x y)) = pf_ex C x y (i + 1) := by
                  funext j
                  by_cases hji : j = i
                  · subst hji
                    rw [va_up_self]
                    unfold pf_ex
                    rw [if_pos (by omega)]
                  · rw [va_up_ne _ _ hji]
                    unfold pf_ex
                    by_cases w : j < i
                    · rw [if_pos w, if_pos (by omega)]
                    · rw [if_neg w, if_neg (by omega)]
                have hfin := rw_set (i0 := i) (l := ((C i).1, (C i).2.map (sp_ex x y))) (fk' := fk) (fm' := fm) (fl' := g) k4 ⟨a1, by rw [List.length_map]; exact a2, fun j hj => ?_, ln_ok_map a4 hx6 hy6, a5⟩ (fun i' hne => ⟨rfl, rfl, fun j hj => hg2 _ (by omega)⟩)
                · rw [hC2] at hfin
                  have hcn2 : cn = pf_exn C x y (i + 1) := by rw [pf_exn, hcn, hd]
                  rw [hcn2]
                  exact ih (i + 1) hp2 _ _ (by omega) o2 ⟨fk, fm, g, k1', k2', q3, hfin⟩ (s1.tr (s2.mono (by omega) (by omega)))
                · dsimp only at hj ⊢
                  rw [List.length_map] at hj
                  rw [hg j hj, List.append_nil, hd]
              | cons c rest ih2 =>
                intro done cn g hp2 o6 hd hcn hg hg2 q3 s2
                have o2 := (s2.2 M (by omega)).trans o1
                have k2' := (s2.2 (M + 2) (by omega)).trans k2
                have hlt : done.length < (C i).2.length := by rw [hd]; simp
                have hc2 : c < 128 := a4.2 c (by rw [hd]; simp)
                have hcx : sp_ex x y c < 128 := sp_ex_lt hx6 hy6 hc2
                have e2 : ¬ nI (128 * i + (C i).2.length) ≤ nI (128 * i + done.length) := nI_ge (by omega) (by omega)
                have p0 : ¬ nI (128 * i + done.length) < 0 := nI_pos (by omega)
                have p1 : (nI (128 * i + done.length)).toNatClampNeg = 128 * i + done.length := nI_clamp (by omega)
                have p2 : ¬ 20480 ≤ 128 * i + done.length := by omega
                have e4 : g (128 * i + done.length) = nI c := by rw [hg _ hlt, gd_r (by rw [List.length_map]; exact Nat.le_refl _)]; simp
                have e3 : (nI (sp_ex x y c) = nI c) = (sp_ex x y c = c) := propext (nI_eq (by omega) (by omega))
                have hg' : ∀ j, j < (C i).2.length → upd g (128 * i + done.length) (nI (sp_ex x y c)) (128 * i + j) = nI (((done ++ [c]).map (sp_ex x y) ++ rest).getD j 0) := by
                  intro j hj
                  rw [List.map_append, List.map_singleton, List.append_assoc]
                  by_cases hjd : j = done.length
                  · subst hjd
                    rw [upd_at, gd_r (by rw [List.length_map]; exact Nat.le_refl _)]
                    simp
                  · rw [upd_off (by omega), hg j hj]
                    by_cases hjl : j < done.length
                    · rw [gd_l (by rw [List.length_map]; exact hjl), gd_l (by rw [List.length_map]; exact hjl)]
                    · rw [gd_r (by rw [List.length_map]; omega), gd_r (by rw [List.length_map]; omega), List.length_map, gd_s (by omega)]
                      rw [show [sp_ex x y c] ++ rest = sp_ex x y c :: rest from rfl, gd_s (by omega)]
                rw [x_102_45]
                by_cases w : sp_ex x y c = c
                · have q := eq_true w
                  simp only [x_102_47, x_102_50, x_102_52, x_102_53, x_102_54, x_102_57, x_102_59, x_102_60, x_102_61, x_102_64, x_102_65, x_102_68, x_102_70, x_102_71, x_102_72, x_102_73, x_102_76, x_102_78, x_102_80, x_102_81, x_102_84, x_102_86, x_102_87, x_102_90, x_102_93, x_102_94, x_102_97, x_102_99, x_102_101, x_102_102, x_102_105, mw_nx, mw_no, mw_ite, mw_call, mw_ret, mw_cst, mw_ii, mw_i1, mw_ll, mw_l1, mw_li, mw_i2l, mw_l2i, mw_lcm, mw_if, mw_ic, mw_ifnN, mw_ifnR, mw_go, mw_dupi, mw_dupr, mw_popi, mw_popr, mw_nw, mw_rti, mw_rtl, mw_rtr, mw_rtn, mw_rtv, mw_rt0, mw_rt1, mj_ild, mj_lld, mj_ald, mj_ist, mj_lst, mj_ast, mj_inc, mj_iz, mj_get, mj_put, mj_len, mj_iar, mj_aar, mj_iaw, mj_aaw, mj_ivs, mj_ivv, mj_ivi, mj_ob, mj_tk, mj_cat, mj_st1, mj_st2, mj_clr, mj_nwi, mj_nwq, List.getElem?_cons_zero, List.getElem?_cons_succ, List.length_cons, List.length_nil, List.set_cons_zero, List.set_cons_succ, Value.category, decide_eq_true_eq, List.map_cons, List.map_nil, List.sum_cons, List.sum_nil, Option.toList, List.cons_append, List.nil_append, ite_true, ite_false, if_true, if_false, reduceCtorEq, true_and, and_true, narrow_i, narrow_l, narrow_r, narrow_n, fits_i, fits_l, fits_ro, fits_ra, fits_no, fits_na, Nat.reduceAdd, Nat.reduceLT, Nat.reduceLeDiff, Nat.reduceEqDiff, Nat.reduceSub, zero_add0, true_or, or_true, false_or, or_false, not_true_eq_false, not_false_eq_true, eq_self, i10, i01, im0, im1, o2, k2', q3, at_0, z0, z1, z2, a2, m128, nI_add, e2, p0, p1, p2, e4, m_turned hc2 hx6 hy6, e3, q, nI_1]
                  have := ih2 (done ++ [c]) cn _ _ (some (.int (nI (sp_ex x y c)))) (by rw [hd]; simp) (by rw [sp_exn_snoc, if_pos w, hcn]; rfl) hg' (fun z hz => by rw [upd_off (by omega)]; exact hg2 z hz) (mj_up_at (hp := hp2)) (s2.tr (sm.up (by omega) (by omega)))
                  rw [List.length_append] at this
                  exact this
                · have q := eq_false w
                  simp only [x_102_47, x_102_50, x_102_52, x_102_53, x_102_54, x_102_57, x_102_59, x_102_60, x_102_61, x_102_64, x_102_65, x_102_68, x_102_70, x_102_71, x_102_72, x_102_73, x_102_76, x_102_78, x_102_80, x_102_81, x_102_84, x_102_86, x_102_87, x_102_90, x_102_93, x_102_94, x_102_97, x_102_99, x_102_101, x_102_102, x_102_105, mw_nx, mw_no, mw_ite, mw_call, mw_ret, mw_cst, mw_ii, mw_i1, mw_ll, mw_l1, mw_li, mw_i2l, mw_l2i, mw_lcm, mw_if, mw_ic, mw_ifnN, mw_ifnR, mw_go, mw_dupi, mw_dupr, mw_popi, mw_popr, mw_nw, mw_rti, mw_rtl, mw_rtr, mw_rtn, mw_rtv, mw_rt0, mw_rt1, mj_ild, mj_lld, mj_ald, mj_ist, mj_lst, mj_ast, mj_inc, mj_iz, mj_get, mj_put, mj_len, mj_iar, mj_aar, mj_iaw, mj_aaw, mj_ivs, mj_ivv, mj_ivi, mj_ob, mj_tk, mj_cat, mj_st1, mj_st2, mj_clr, mj_nwi, mj_nwq, List.getElem?_cons_zero, List.getElem?_cons_succ, List.length_cons, List.length_nil, List.set_cons_zero, List.set_cons_succ, Value.category, decide_eq_true_eq, List.map_cons, List.map_nil, List.sum_cons, List.sum_nil, Option.toList, List.cons_append, List.nil_append, ite_true, ite_false, if_true, if_false, reduceCtorEq, true_and, and_true, narrow_i, narrow_l, narrow_r, narrow_n, fits_i, fits_l, fits_ro, fits_ra, fits_no, fits_na, Nat.reduceAdd, Nat.reduceLT, Nat.reduceLeDiff, Nat.reduceEqDiff, Nat.reduceSub, zero_add0, true_or, or_true, false_or, or_false, not_true_eq_false, not_false_eq_true, eq_self, i10, i01, im0, im1, o2, k2', q3, at_0, z0, z1, z2, a2, m128, nI_add, e2, p0, p1, p2, e4, m_turned hc2 hx6 hy6, e3, q, nI_1]
                  have := ih2 (done ++ [c]) (cn + 1) _ _ (some (.int (nI (sp_ex x y c)))) (by rw [hd]; simp) (by rw [sp_exn_snoc, if_neg w, hcn]; omega) hg' (fun z hz => by rw [upd_off (by omega)]; exact hg2 z hz) (mj_up_at (hp := hp2)) (s2.tr (sm.up (by omega) (by omega)))
                  rw [List.length_append] at this
                  exact this
            rw [x_102_28]
            simp only [x_102_30, x_102_31, x_102_34, x_102_37, x_102_40, x_102_42, x_102_43, mw_nx, mw_no, mw_ite, mw_call, mw_ret, mw_cst, mw_ii, mw_i1, mw_ll, mw_l1, mw_li, mw_i2l, mw_l2i, mw_lcm, mw_if, mw_ic, mw_ifnN, mw_ifnR, mw_go, mw_dupi, mw_dupr, mw_popi, mw_popr, mw_nw, mw_rti, mw_rtl, mw_rtr, mw_rtn, mw_rtv, mw_rt0, mw_rt1, mj_ild, mj_lld, mj_ald, mj_ist, mj_lst, mj_ast, mj_inc, mj_iz, mj_get, mj_put, mj_len, mj_iar, mj_aar, mj_iaw, mj_aaw, mj_ivs, mj_ivv, mj_ivi, mj_ob, mj_tk, mj_cat, mj_st1, mj_st2, mj_clr, mj_nwi, mj_nwq, List.getElem?_cons_zero, List.getElem?_cons_succ, List.length_cons, List.length_nil, List.set_cons_zero, List.set_cons_succ, Value.category, decide_eq_true_eq, List.map_cons, List.map_nil, List.sum_cons, List.sum_nil, Option.toList, List.cons_append, List.nil_append, ite_true, ite_false, if_true, if_false, reduceCtorEq, true_and, and_true, narrow_i, narrow_l, narrow_r, narrow_n, fits_i, fits_l, fits_ro, fits_ra, fits_no, fits_na, Nat.reduceAdd, Nat.reduceLT, Nat.reduceLeDiff, Nat.reduceEqDiff, Nat.reduceSub, zero_add0, true_or, or_true, false_or, or_false, not_true_eq_false, not_false_eq_true, eq_self, i10, i01, im0, im1, o1, e1, m128]
            exact inner (C i).2 [] _ fl hp1 o6 rfl (by unfold sp_exn; simp) (fun j hj => a3 j hj) (fun z _ => rfl) k3 sm.rf
        have h00 : pf_ex C x y 0 = C := by
          funext j; unfold pf_ex; rw [if_neg (by omega)]
        exact outer ls.length 0 hp0 none none (by omega) ho (by rw [h00]; exact hr) sm.rf
      · have w2' : (0 ≤ ty ∧ ty < nI n) = False := eq_false w2
        rw [sp_if_f (fun q => w2 q.2)] at hQ
        simp only [x_102_5, x_102_6, x_102_7, x_102_10, x_102_13, x_102_14, x_102_15, x_102_18, x_102_21, x_102_22, mw_nx, mw_no, mw_ite, mw_call, mw_ret, mw_cst, mw_ii, mw_i1, mw_ll, mw_l1, mw_li, mw_i2l, mw_l2i, mw_lcm, mw_if, mw_ic, mw_ifnN, mw_ifnR, mw_go, mw_dupi, mw_dupr, mw_popi, mw_popr, mw_nw, mw_rti, mw_rtl, mw_rtr, mw_rtn, mw_rtv, mw_rt0, mw_rt1, mj_ild, mj_lld, mj_ald, mj_ist, mj_lst, mj_ast, mj_inc, mj_iz, mj_get, mj_put, mj_len, mj_iar, mj_aar, mj_iaw, mj_aaw, mj_ivs, mj_ivv, mj_ivi, mj_ob, mj_tk, mj_cat, mj_st1, mj_st2, mj_clr, mj_nwi, mj_nwq, List.getElem?_cons_zero, List.getElem?_cons_succ, List.length_cons, List.length_nil, List.set_cons_zero, List.set_cons_succ, Value.category, decide_eq_true_eq, List.map_cons, List.map_nil, List.sum_cons, List.sum_nil, Option.toList, List.cons_append, List.nil_append, ite_true, ite_false, if_true, if_false, reduceCtorEq, true_and, and_true, narrow_i, narrow_l, narrow_r, narrow_n, fits_i, fits_l, fits_ro, fits_ra, fits_no, fits_na, Nat.reduceAdd, Nat.reduceLT, Nat.reduceLeDiff, Nat.reduceEqDiff, Nat.reduceSub, zero_add0, true_or, or_true, false_or, or_false, not_true_eq_false, not_false_eq_true, eq_self, i10, i01, im0, im1, ho, m_isThing fx ho, w1', m_isThing ty ho, w2']
        exact hQ hp0 hw1.at s0
    · have w1' : (0 ≤ fx ∧ fx < nI n) = False := eq_false w1
      rw [sp_if_f (fun q => w1 q.1)] at hQ
      simp only [x_102_5, x_102_6, x_102_7, x_102_10, x_102_13, x_102_14, x_102_15, x_102_18, x_102_21, x_102_22, mw_nx, mw_no, mw_ite, mw_call, mw_ret, mw_cst, mw_ii, mw_i1, mw_ll, mw_l1, mw_li, mw_i2l, mw_l2i, mw_lcm, mw_if, mw_ic, mw_ifnN, mw_ifnR, mw_go, mw_dupi, mw_dupr, mw_popi, mw_popr, mw_nw, mw_rti, mw_rtl, mw_rtr, mw_rtn, mw_rtv, mw_rt0, mw_rt1, mj_ild, mj_lld, mj_ald, mj_ist, mj_lst, mj_ast, mj_inc, mj_iz, mj_get, mj_put, mj_len, mj_iar, mj_aar, mj_iaw, mj_aaw, mj_ivs, mj_ivv, mj_ivi, mj_ob, mj_tk, mj_cat, mj_st1, mj_st2, mj_clr, mj_nwi, mj_nwq, List.getElem?_cons_zero, List.getElem?_cons_succ, List.length_cons, List.length_nil, List.set_cons_zero, List.set_cons_succ, Value.category, decide_eq_true_eq, List.map_cons, List.map_nil, List.sum_cons, List.sum_nil, Option.toList, List.cons_append, List.nil_append, ite_true, ite_false, if_true, if_false, reduceCtorEq, true_and, and_true, narrow_i, narrow_l, narrow_r, narrow_n, fits_i, fits_l, fits_ro, fits_ra, fits_no, fits_na, Nat.reduceAdd, Nat.reduceLT, Nat.reduceLeDiff, Nat.reduceEqDiff, Nat.reduceSub, zero_add0, true_or, or_true, false_or, or_false, not_true_eq_false, not_false_eq_true, eq_self, i10, i01, im0, im1, ho, m_isThing fx ho, w1']
      exact hQ hp0 hw1.at s0
  rw [en_102]
  simp only [x_102_0, x_102_1, x_102_2, mw_nx, mw_no, mw_ite, mw_call, mw_ret, mw_cst, mw_ii, mw_i1, mw_ll, mw_l1, mw_li, mw_i2l, mw_l2i, mw_lcm, mw_if, mw_ic, mw_ifnN, mw_ifnR, mw_go, mw_dupi, mw_dupr, mw_popi, mw_popr, mw_nw, mw_rti, mw_rtl, mw_rtr, mw_rtn, mw_rtv, mw_rt0, mw_rt1, mj_ild, mj_lld, mj_ald, mj_ist, mj_lst, mj_ast, mj_inc, mj_iz, mj_get, mj_put, mj_len, mj_iar, mj_aar, mj_iaw, mj_aaw, mj_ivs, mj_ivv, mj_ivi, mj_ob, mj_tk, mj_cat, mj_st1, mj_st2, mj_clr, mj_nwi, mj_nwq, List.getElem?_cons_zero, List.getElem?_cons_succ, List.length_cons, List.length_nil, List.set_cons_zero, List.set_cons_succ, Value.category, decide_eq_true_eq, List.map_cons, List.map_nil, List.sum_cons, List.sum_nil, Option.toList, List.cons_append, List.nil_append, ite_true, ite_false, if_true, if_false, reduceCtorEq, true_and, and_true, narrow_i, narrow_l, narrow_r, narrow_n, fits_i, fits_l, fits_ro, fits_ra, fits_no, fits_na, Nat.reduceAdd, Nat.reduceLT, Nat.reduceLeDiff, Nat.reduceEqDiff, Nat.reduceSub, zero_add0, true_or, or_true, false_or, or_false, not_true_eq_false, not_false_eq_true, eq_self, i10, i01, im0, im1, ho]
  exact body _ hw.th (sm.up (by omega) (by omega))
end MV
