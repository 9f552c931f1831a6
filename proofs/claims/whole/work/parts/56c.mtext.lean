/-! The reference: text -/
theorem sp_lit_pos (c : Nat) : 0 < (sp_lit c).length := by unfold sp_lit; simp
section MX
variable {hp : mj_H} {Q : mj_Q} {M : Nat} {s : sp_S}
theorem e_text (i : Int32) (h : mo_at hp M s) (hQ : ∀ hp' : mj_H, mo_at hp' M (so_text i s).1 → sm hp hp' M (M + 8) → Q (some (.int (so_text i s).2)) hp') : mj_call 108 [.ref M, .int i] hp Q := by
  obtain ⟨a, b, t0, C, hw⟩ := mo_w_of h
  have ho := hw.2.1
  have body : ∀ hp0 : mj_H, mo_w hp0 M a b 0 C s → sm hp hp0 M (M + 8) → mj_wp 108 5 [some (.ref M), some (.int i), none, none, none, none] [] hp0 Q := by
    obtain ⟨n, col, ls, xs⟩ := s
    intro hp0 hw0 s0
    have hw1 := hw0
    obtain ⟨hn, ho, hr, hmap, hk, hlv, hc, hcb, hu, hh⟩ := hw0
    dsimp only at *
    have hfin := hQ hp0 hw1.at s0
    unfold so_text at hfin
    dsimp only at hfin
    by_cases i0 : i < 0
    · have i1 : ¬ 0 ≤ i := by rw [Int32.le_iff_toInt_le]; rw [Int32.lt_iff_toInt_lt] at i0; omega
      rw [sp_if_f (fun q => i1 q.1)] at hfin
      by_cases w : nI ls.length ≤ 0
      · simp only [x_108_5, x_108_6, x_108_7, x_108_8, x_108_9, x_108_10, x_108_11, x_108_14, x_108_17, x_108_18, x_108_113, x_108_114, mw_nx, mw_no, mw_ite, mw_call, mw_ret, mw_cst, mw_ii, mw_i1, mw_ll, mw_l1, mw_li, mw_i2l, mw_l2i, mw_lcm, mw_if, mw_ic, mw_ifnN, mw_ifnR, mw_go, mw_dupi, mw_dupr, mw_popi, mw_popr, mw_nw, mw_rti, mw_rtl, mw_rtr, mw_rtn, mw_rtv, mw_rt0, mw_rt1, mj_ild, mj_lld, mj_ald, mj_ist, mj_lst, mj_ast, mj_inc, mj_iz, mj_get, mj_put, mj_len, mj_iar, mj_aar, mj_iaw, mj_aaw, mj_ivs, mj_ivv, mj_ivi, mj_ob, mj_tk, mj_cat, mj_st1, mj_st2, mj_clr, mj_nwi, mj_nwq, List.getElem?_cons_zero, List.getElem?_cons_succ, List.length_cons, List.length_nil, List.set_cons_zero, List.set_cons_succ, Value.category, decide_eq_true_eq, List.map_cons, List.map_nil, List.sum_cons, List.sum_nil, Option.toList, List.cons_append, List.nil_append, ite_true, ite_false, if_true, if_false, reduceCtorEq, true_and, and_true, narrow_i, narrow_l, narrow_r, narrow_n, fits_i, fits_l, fits_ro, fits_ra, fits_no, fits_na, Nat.reduceAdd, Nat.reduceLT, Nat.reduceLeDiff, Nat.reduceEqDiff, Nat.reduceSub, zero_add0, true_or, or_true, false_or, or_false, not_true_eq_false, not_false_eq_true, eq_self, i10, i01, im0, im1, ho, w]
        exact hfin
      · simp only [x_108_5, x_108_6, x_108_7, x_108_8, x_108_9, x_108_10, x_108_11, x_108_14, x_108_17, x_108_18, x_108_113, x_108_114, mw_nx, mw_no, mw_ite, mw_call, mw_ret, mw_cst, mw_ii, mw_i1, mw_ll, mw_l1, mw_li, mw_i2l, mw_l2i, mw_lcm, mw_if, mw_ic, mw_ifnN, mw_ifnR, mw_go, mw_dupi, mw_dupr, mw_popi, mw_popr, mw_nw, mw_rti, mw_rtl, mw_rtr, mw_rtn, mw_rtv, mw_rt0, mw_rt1, mj_ild, mj_lld, mj_ald, mj_ist, mj_lst, mj_ast, mj_inc, mj_iz, mj_get, mj_put, mj_len, mj_iar, mj_aar, mj_iaw, mj_aaw, mj_ivs, mj_ivv, mj_ivi, mj_ob, mj_tk, mj_cat, mj_st1, mj_st2, mj_clr, mj_nwi, mj_nwq, List.getElem?_cons_zero, List.getElem?_cons_succ, List.length_cons, List.length_nil, List.set_cons_zero, List.set_cons_succ, Value.category, decide_eq_true_eq, List.map_cons, List.map_nil, List.sum_cons, List.sum_nil, Option.toList, List.cons_append, List.nil_append, ite_true, ite_false, if_true, if_false, reduceCtorEq, true_and, and_true, narrow_i, narrow_l, narrow_r, narrow_n, fits_i, fits_l, fits_ro, fits_ra, fits_no, fits_na, Nat.reduceAdd, Nat.reduceLT, Nat.reduceLeDiff, Nat.reduceEqDiff, Nat.reduceSub, zero_add0, true_or, or_true, false_or, or_false, not_true_eq_false, not_false_eq_true, eq_self, i10, i01, im0, im1, ho, w, i0]
        exact hfin
    · have i1 : 0 ≤ i := by rw [Int32.le_iff_toInt_le]; rw [Int32.lt_iff_toInt_lt] at i0; omega
      obtain ⟨q, hq, rfl⟩ := nI_of i0
      rw [nI_clamp hq] at hfin
      have hfin2 : Q (some (.int (if q < (sp_text ls).length then nI ((sp_text ls).getD q 0) else -1))) hp0 := by
        by_cases w : q < (sp_text ls).length
        · rw [sp_if_t ⟨i1, w⟩] at hfin; rw [if_pos w]; exact hfin
        · rw [sp_if_f (fun z => w z.2)] at hfin; rw [if_neg w]; exact hfin
      have hr0 := hr
      obtain ⟨fk, fm, fl, k1, k2, k3, k4⟩ := hr0
      have outer : ∀ (d j left : Nat) (o4 o5 : Option Value), j + d = ls.length → left < 2 ^ 31 → (if left < (sp_text ((List.range' j d).map C)).length then nI ((sp_text ((List.range' j d).map C)).getD left 0) else -1) = (if q < (sp_text ls).length then nI ((sp_text ls).getD q 0) else -1) → mj_wp 108 9 [some (.ref M), some (.int (nI q)), some (.int (nI left)), some (.int (nI j)), o4, o5] [] hp0 Q := by
        intro d
        induction d with
        | zero =>
          intro j left o4 o5 hj hl he
          obtain rfl : j = ls.length := by omega
          have e1 : nI ls.length ≤ nI ls.length := nI_le (Nat.le_refl _) (by omega)
          rw [x_108_9]
          simp only [x_108_10, x_108_11, x_108_14, x_108_113, x_108_114, mw_nx, mw_no, mw_ite, mw_call, mw_ret, mw_cst, mw_ii, mw_i1, mw_ll, mw_l1, mw_li, mw_i2l, mw_l2i, mw_lcm, mw_if, mw_ic, mw_ifnN, mw_ifnR, mw_go, mw_dupi, mw_dupr, mw_popi, mw_popr, mw_nw, mw_rti, mw_rtl, mw_rtr, mw_rtn, mw_rtv, mw_rt0, mw_rt1, mj_ild, mj_lld, mj_ald, mj_ist, mj_lst, mj_ast, mj_inc, mj_iz, mj_get, mj_put, mj_len, mj_iar, mj_aar, mj_iaw, mj_aaw, mj_ivs, mj_ivv, mj_ivi, mj_ob, mj_tk, mj_cat, mj_st1, mj_st2, mj_clr, mj_nwi, mj_nwq, List.getElem?_cons_zero, List.getElem?_cons_succ, List.length_cons, List.length_nil, List.set_cons_zero, List.set_cons_succ, Value.category, decide_eq_true_eq, List.map_cons, List.map_nil, List.sum_cons, List.sum_nil, Option.toList, List.cons_append, List.nil_append, ite_true, ite_false, if_true, if_false, reduceCtorEq, true_and, and_true, narrow_i, narrow_l, narrow_r, narrow_n, fits_i, fits_l, fits_ro, fits_ra, fits_no, fits_na, Nat.reduceAdd, Nat.reduceLT, Nat.reduceLeDiff, Nat.reduceEqDiff, Nat.reduceSub, zero_add0, true_or, or_true, false_or, or_false, not_true_eq_false, not_false_eq_true, eq_self, i10, i01, im0, im1, ho, e1]
          rw [← he] at hfin2
          simp [sp_text, List.range'] at hfin2
          exact hfin2
        | succ d ih =>
          intro j left o4 o5 hj hl he
          obtain ⟨a1, a2, a3, a4, a5⟩ := k4 j (by omega)
          have hlen := ln_len a4
          have e1 : ¬ nI ls.length ≤ nI j := nI_ge (by omega) (by omega)
          have e2 : ¬ nI left < 0 := nI_pos hl
          have z0 : ¬ nI j < 0 := nI_pos (by omega)
          have z1 : (nI j).toNatClampNeg = j := nI_clamp (by omega)
          have z2 : ¬ 160 ≤ j := by omega
          have e3 : (nI left = 0) = (left = 0) := propext (nI_eq (b := 0) hl (by omega))
          have htx : sp_text ((List.range' j (d + 1)).map C) = sp_letter (C j).1 :: ((C j).2.flatMap sp_lit ++ (10 :: sp_text ((List.range' (j + 1) d).map C))) := by
            rw [List.range'_succ, List.map_cons]
            unfold sp_text
            rw [List.flatMap_cons]
            unfold sp_line
            simp
          rw [htx] at he
          generalize hT : sp_text ((List.range' (j + 1) d).map C) = T at he
          have ih' := fun (lf : Nat) (o4 o5 : Option Value) (h1 : lf < 2 ^ 31) => ih (j + 1) lf o4 o5 (by omega) h1
          rw [x_108_9]
          cases left with
          | zero =>
            simp only [x_108_10, x_108_11, x_108_14, x_108_17, x_108_18, x_108_21, x_108_22, x_108_25, x_108_26, x_108_29, x_108_30, x_108_31, x_108_34, mw_nx, mw_no, mw_ite, mw_call, mw_ret, mw_cst, mw_ii, mw_i1, mw_ll, mw_l1, mw_li, mw_i2l, mw_l2i, mw_lcm, mw_if, mw_ic, mw_ifnN, mw_ifnR, mw_go, mw_dupi, mw_dupr, mw_popi, mw_popr, mw_nw, mw_rti, mw_rtl, mw_rtr, mw_rtn, mw_rtv, mw_rt0, mw_rt1, mj_ild, mj_lld, mj_ald, mj_ist, mj_lst, mj_ast, mj_inc, mj_iz, mj_get, mj_put, mj_len, mj_iar, mj_aar, mj_iaw, mj_aaw, mj_ivs, mj_ivv, mj_ivi, mj_ob, mj_tk, mj_cat, mj_st1, mj_st2, mj_clr, mj_nwi, mj_nwq, List.getElem?_cons_zero, List.getElem?_cons_succ, List.length_cons, List.length_nil, List.set_cons_zero, List.set_cons_succ, Value.category, decide_eq_true_eq, List.map_cons, List.map_nil, List.sum_cons, List.sum_nil, Option.toList, List.cons_append, List.nil_append, ite_true, ite_false, if_true, if_false, reduceCtorEq, true_and, and_true, narrow_i, narrow_l, narrow_r, narrow_n, fits_i, fits_l, fits_ro, fits_ra, fits_no, fits_na, Nat.reduceAdd, Nat.reduceLT, Nat.reduceLeDiff, Nat.reduceEqDiff, Nat.reduceSub, zero_add0, true_or, or_true, false_or, or_false, not_true_eq_false, not_false_eq_true, eq_self, i10, i01, im0, im1, ho, e1, e2, e3, k1, at_0, z0, z1, z2, a1, m_letterOf a5]
            rw [← he] at hfin2
            simpa using hfin2
          | succ left =>
            have e4 : (left + 1 = 0) = False := eq_false (by omega)
            simp only [x_108_10, x_108_11, x_108_14, x_108_17, x_108_18, x_108_21, x_108_22, x_108_25, x_108_26, x_108_29, x_108_30, x_108_31, x_108_34, x_108_35, x_108_38, x_108_39, mw_nx, mw_no, mw_ite, mw_call, mw_ret, mw_cst, mw_ii, mw_i1, mw_ll, mw_l1, mw_li, mw_i2l, mw_l2i, mw_lcm, mw_if, mw_ic, mw_ifnN, mw_ifnR, mw_go, mw_dupi, mw_dupr, mw_popi, mw_popr, mw_nw, mw_rti, mw_rtl, mw_rtr, mw_rtn, mw_rtv, mw_rt0, mw_rt1, mj_ild, mj_lld, mj_ald, mj_ist, mj_lst, mj_ast, mj_inc, mj_iz, mj_get, mj_put, mj_len, mj_iar, mj_aar, mj_iaw, mj_aaw, mj_ivs, mj_ivv, mj_ivi, mj_ob, mj_tk, mj_cat, mj_st1, mj_st2, mj_clr, mj_nwi, mj_nwq, List.getElem?_cons_zero, List.getElem?_cons_succ, List.length_cons, List.length_nil, List.set_cons_zero, List.set_cons_succ, Value.category, decide_eq_true_eq, List.map_cons, List.map_nil, List.sum_cons, List.sum_nil, Option.toList, List.cons_append, List.nil_append, ite_true, ite_false, if_true, if_false, reduceCtorEq, true_and, and_true, narrow_i, narrow_l, narrow_r, narrow_n, fits_i, fits_l, fits_ro, fits_ra, fits_no, fits_na, Nat.reduceAdd, Nat.reduceLT, Nat.reduceLeDiff, Nat.reduceEqDiff, Nat.reduceSub, zero_add0, true_or, or_true, false_or, or_false, not_true_eq_false, not_false_eq_true, eq_self, i10, i01, im0, im1, ho, e1, e2, e3, e4, pk_m1]
            have he2 : (if left < ((C j).2.flatMap sp_lit ++ (10 :: T)).length then nI (((C j).2.flatMap sp_lit ++ (10 :: T)).getD left 0) else -1) = (if q < (sp_text ls).length then nI ((sp_text ls).getD q 0) else -1) := by
              rw [← he]
              simp
            have inner : ∀ (rest done : List Nat) (lf : Nat) (o5 : Option Value), (C j).2 = done ++ rest → lf < 2 ^ 31 → (if lf < (rest.flatMap sp_lit ++ (10 :: T)).length then nI ((rest.flatMap sp_lit ++ (10 :: T)).getD lf 0) else -1) = (if q < (sp_text ls).length then nI ((sp_text ls).getD q 0) else -1) → mj_wp 108 41 [some (.ref M), some (.int (nI q)), some (.int (nI lf)), some (.int (nI j)), some (.int (nI done.length)), o5] [] hp0 Q := by
              intro rest
              induction rest with
              | nil =>
                intro done lf o5 hd hlf hee
                rw [List.append_nil] at hd
                have e5 : nI (C j).2.length ≤ nI done.length := by rw [hd]; exact nI_le (Nat.le_refl _) (by rw [hd] at hlen; omega)
                have e6 : (nI lf = 0) = (lf = 0) := propext (nI_eq (b := 0) hlf (by omega))
                rw [x_108_41]
                cases lf with
                | zero =>
                  simp only [x_108_43, x_108_44, x_108_47, x_108_48, x_108_49, x_108_97, x_108_98, x_108_101, x_108_103, mw_nx, mw_no, mw_ite, mw_call, mw_ret, mw_cst, mw_ii, mw_i1, mw_ll, mw_l1, mw_li, mw_i2l, mw_l2i, mw_lcm, mw_if, mw_ic, mw_ifnN, mw_ifnR, mw_go, mw_dupi, mw_dupr, mw_popi, mw_popr, mw_nw, mw_rti, mw_rtl, mw_rtr, mw_rtn, mw_rtv, mw_rt0, mw_rt1, mj_ild, mj_lld, mj_ald, mj_ist, mj_lst, mj_ast, mj_inc, mj_iz, mj_get, mj_put, mj_len, mj_iar, mj_aar, mj_iaw, mj_aaw, mj_ivs, mj_ivv, mj_ivi, mj_ob, mj_tk, mj_cat, mj_st1, mj_st2, mj_clr, mj_nwi, mj_nwq, List.getElem?_cons_zero, List.getElem?_cons_succ, List.length_cons, List.length_nil, List.set_cons_zero, List.set_cons_succ, Value.category, decide_eq_true_eq, List.map_cons, List.map_nil, List.sum_cons, List.sum_nil, Option.toList, List.cons_append, List.nil_append, ite_true, ite_false, if_true, if_false, reduceCtorEq, true_and, and_true, narrow_i, narrow_l, narrow_r, narrow_n, fits_i, fits_l, fits_ro, fits_ra, fits_no, fits_na, Nat.reduceAdd, Nat.reduceLT, Nat.reduceLeDiff, Nat.reduceEqDiff, Nat.reduceSub, zero_add0, true_or, or_true, false_or, or_false, not_true_eq_false, not_false_eq_true, eq_self, i10, i01, im0, im1, ho, k2, at_0, z0, z1, z2, a2, e5, e6]
                  rw [← hee] at hfin2
                  simp at hfin2
                  exact hfin2
                | succ lf =>
                  have e7 : (lf + 1 = 0) = False := eq_false (by omega)
                  simp only [x_108_43, x_108_44, x_108_47, x_108_48, x_108_49, x_108_97, x_108_98, x_108_101, x_108_103, x_108_104, x_108_107, x_108_110, mw_nx, mw_no, mw_ite, mw_call, mw_ret, mw_cst, mw_ii, mw_i1, mw_ll, mw_l1, mw_li, mw_i2l, mw_l2i, mw_lcm, mw_if, mw_ic, mw_ifnN, mw_ifnR, mw_go, mw_dupi, mw_dupr, mw_popi, mw_popr, mw_nw, mw_rti, mw_rtl, mw_rtr, mw_rtn, mw_rtv, mw_rt0, mw_rt1, mj_ild, mj_lld, mj_ald, mj_ist, mj_lst, mj_ast, mj_inc, mj_iz, mj_get, mj_put, mj_len, mj_iar, mj_aar, mj_iaw, mj_aaw, mj_ivs, mj_ivv, mj_ivi, mj_ob, mj_tk, mj_cat, mj_st1, mj_st2, mj_clr, mj_nwi, mj_nwq, List.getElem?_cons_zero, List.getElem?_cons_succ, List.length_cons, List.length_nil, List.set_cons_zero, List.set_cons_succ, Value.category, decide_eq_true_eq, List.map_cons, List.map_nil, List.sum_cons, List.sum_nil, Option.toList, List.cons_append, List.nil_append, ite_true, ite_false, if_true, if_false, reduceCtorEq, true_and, and_true, narrow_i, narrow_l, narrow_r, narrow_n, fits_i, fits_l, fits_ro, fits_ra, fits_no, fits_na, Nat.reduceAdd, Nat.reduceLT, Nat.reduceLeDiff, Nat.reduceEqDiff, Nat.reduceSub, zero_add0, true_or, or_true, false_or, or_false, not_true_eq_false, not_false_eq_true, eq_self, i10, i01, im0, im1, ho, k2, at_0, z0, z1, z2, a2, e5, e6, e7, pk_m1, nI_1]
                  refine ih' lf _ _ (by omega) ?_
                  rw [hT, ← hee]
                  simp
              | cons c rest ih2 =>
                intro done lf o5 hd hlf hee
                have hlt : done.length < (C j).2.length := by rw [hd]; simp
                have hcg : (C j).2.getD done.length 0 = c := by rw [hd]; simp [List.getD_eq_getElem?_getD]
                have hc2 : c < 128 := a4.2 c (by rw [hd]; simp)
                have hl4 : (sp_lit c).length ≤ 4 := by rw [sp_lit_len hc2]; split <;> split <;> omega
                have e5 : ¬ nI (C j).2.length ≤ nI done.length := nI_ge hlt (by omega)
                have p0 : ¬ nI (128 * j + done.length) < 0 := nI_pos (by omega)
                have p1 : (nI (128 * j + done.length)).toNatClampNeg = 128 * j + done.length := nI_clamp (by omega)
                have p2 : ¬ 20480 ≤ 128 * j + done.length := by omega
                have e6 : fl (128 * j + done.length) = nI c := by rw [a3 _ hlt, hcg]
                have e7 : (nI (sp_lit c).length ≤ nI lf) = ((sp_lit c).length ≤ lf) := propext (nI_leI (by omega) hlf)
                rw [List.flatMap_cons, List.append_assoc] at hee
                rw [x_108_41]
                by_cases w : (sp_lit c).length ≤ lf
                · have q1 := eq_true w
                  have e8 : nI lf - nI (sp_lit c).length = nI (lf - (sp_lit c).length) := pk_sub w
                  simp only [x_108_43, x_108_44, x_108_47, x_108_48, x_108_49, x_108_52, x_108_53, x_108_56, x_108_59, x_108_60, x_108_61, x_108_63, x_108_64, x_108_65, x_108_67, x_108_68, x_108_70, x_108_73, x_108_76, x_108_78, x_108_79, x_108_82, x_108_83, x_108_84, x_108_86, x_108_89, x_108_90, x_108_91, x_108_94, mw_nx, mw_no, mw_ite, mw_call, mw_ret, mw_cst, mw_ii, mw_i1, mw_ll, mw_l1, mw_li, mw_i2l, mw_l2i, mw_lcm, mw_if, mw_ic, mw_ifnN, mw_ifnR, mw_go, mw_dupi, mw_dupr, mw_popi, mw_popr, mw_nw, mw_rti, mw_rtl, mw_rtr, mw_rtn, mw_rtv, mw_rt0, mw_rt1, mj_ild, mj_lld, mj_ald, mj_ist, mj_lst, mj_ast, mj_inc, mj_iz, mj_get, mj_put, mj_len, mj_iar, mj_aar, mj_iaw, mj_aaw, mj_ivs, mj_ivv, mj_ivi, mj_ob, mj_tk, mj_cat, mj_st1, mj_st2, mj_clr, mj_nwi, mj_nwq, List.getElem?_cons_zero, List.getElem?_cons_succ, List.length_cons, List.length_nil, List.set_cons_zero, List.set_cons_succ, Value.category, decide_eq_true_eq, List.map_cons, List.map_nil, List.sum_cons, List.sum_nil, Option.toList, List.cons_append, List.nil_append, ite_true, ite_false, if_true, if_false, reduceCtorEq, true_and, and_true, narrow_i, narrow_l, narrow_r, narrow_n, fits_i, fits_l, fits_ro, fits_ra, fits_no, fits_na, Nat.reduceAdd, Nat.reduceLT, Nat.reduceLeDiff, Nat.reduceEqDiff, Nat.reduceSub, zero_add0, true_or, or_true, false_or, or_false, not_true_eq_false, not_false_eq_true, eq_self, i10, i01, im0, im1, ho, k2, k3, at_0, z0, z1, z2, a2, e5, ix128, p0, p1, p2, e6, m_bytesOf hc2, e7, q1, e8, nI_1]
                  have := ih2 (done ++ [c]) (lf - (sp_lit c).length) (some (.int (nI c))) (by rw [hd]; simp) (by omega) (by
                    rw [← hee, getD_app_r w, List.length_append (as := sp_lit c)]
                    have hiff : (lf - (sp_lit c).length < (rest.flatMap sp_lit ++ 10 :: T).length) ↔ (lf < (sp_lit c).length + (rest.flatMap sp_lit ++ 10 :: T).length) := by omega
                    by_cases v : lf - (sp_lit c).length < (rest.flatMap sp_lit ++ 10 :: T).length
                    · rw [if_pos v, if_pos (hiff.mp v)]
                    · rw [if_neg v, if_neg (fun z => v (hiff.mpr z))])
                  rw [List.length_append] at this
                  exact this
                · have q1 := eq_false w
                  simp only [x_108_43, x_108_44, x_108_47, x_108_48, x_108_49, x_108_52, x_108_53, x_108_56, x_108_59, x_108_60, x_108_61, x_108_63, x_108_64, x_108_65, x_108_67, x_108_68, x_108_70, x_108_73, x_108_76, x_108_78, x_108_79, x_108_82, mw_nx, mw_no, mw_ite, mw_call, mw_ret, mw_cst, mw_ii, mw_i1, mw_ll, mw_l1, mw_li, mw_i2l, mw_l2i, mw_lcm, mw_if, mw_ic, mw_ifnN, mw_ifnR, mw_go, mw_dupi, mw_dupr, mw_popi, mw_popr, mw_nw, mw_rti, mw_rtl, mw_rtr, mw_rtn, mw_rtv, mw_rt0, mw_rt1, mj_ild, mj_lld, mj_ald, mj_ist, mj_lst, mj_ast, mj_inc, mj_iz, mj_get, mj_put, mj_len, mj_iar, mj_aar, mj_iaw, mj_aaw, mj_ivs, mj_ivv, mj_ivi, mj_ob, mj_tk, mj_cat, mj_st1, mj_st2, mj_clr, mj_nwi, mj_nwq, List.getElem?_cons_zero, List.getElem?_cons_succ, List.length_cons, List.length_nil, List.set_cons_zero, List.set_cons_succ, Value.category, decide_eq_true_eq, List.map_cons, List.map_nil, List.sum_cons, List.sum_nil, Option.toList, List.cons_append, List.nil_append, ite_true, ite_false, if_true, if_false, reduceCtorEq, true_and, and_true, narrow_i, narrow_l, narrow_r, narrow_n, fits_i, fits_l, fits_ro, fits_ra, fits_no, fits_na, Nat.reduceAdd, Nat.reduceLT, Nat.reduceLeDiff, Nat.reduceEqDiff, Nat.reduceSub, zero_add0, true_or, or_true, false_or, or_false, not_true_eq_false, not_false_eq_true, eq_self, i10, i01, im0, im1, ho, k2, k3, at_0, z0, z1, z2, a2, e5, ix128, p0, p1, p2, e6, m_bytesOf hc2, e7, q1, m_byteOf hc2 (show lf < (sp_lit c).length by omega)]
                  rw [← hee, getD_app_l (by omega), List.length_append (as := sp_lit c), if_pos (by omega)] at hfin2
                  exact hfin2
            exact inner (C j).2 [] left _ rfl (by omega) he2
      simp only [x_108_5, x_108_6, x_108_7, x_108_8, mw_nx, mw_no, mw_ite, mw_call, mw_ret, mw_cst, mw_ii, mw_i1, mw_ll, mw_l1, mw_li, mw_i2l, mw_l2i, mw_lcm, mw_if, mw_ic, mw_ifnN, mw_ifnR, mw_go, mw_dupi, mw_dupr, mw_popi, mw_popr, mw_nw, mw_rti, mw_rtl, mw_rtr, mw_rtn, mw_rtv, mw_rt0, mw_rt1, mj_ild, mj_lld, mj_ald, mj_ist, mj_lst, mj_ast, mj_inc, mj_iz, mj_get, mj_put, mj_len, mj_iar, mj_aar, mj_iaw, mj_aaw, mj_ivs, mj_ivv, mj_ivi, mj_ob, mj_tk, mj_cat, mj_st1, mj_st2, mj_clr, mj_nwi, mj_nwq, List.getElem?_cons_zero, List.getElem?_cons_succ, List.length_cons, List.length_nil, List.set_cons_zero, List.set_cons_succ, Value.category, decide_eq_true_eq, List.map_cons, List.map_nil, List.sum_cons, List.sum_nil, Option.toList, List.cons_append, List.nil_append, ite_true, ite_false, if_true, if_false, reduceCtorEq, true_and, and_true, narrow_i, narrow_l, narrow_r, narrow_n, fits_i, fits_l, fits_ro, fits_ra, fits_no, fits_na, Nat.reduceAdd, Nat.reduceLT, Nat.reduceLeDiff, Nat.reduceEqDiff, Nat.reduceSub, zero_add0, true_or, or_true, false_or, or_false, not_true_eq_false, not_false_eq_true, eq_self, i10, i01, im0, im1]
      exact outer ls.length 0 q none none (by omega) hq (by rw [← List.range_eq_range', hmap])
  rw [en_108]
  simp only [x_108_0, x_108_1, x_108_2, mw_nx, mw_no, mw_ite, mw_call, mw_ret, mw_cst, mw_ii, mw_i1, mw_ll, mw_l1, mw_li, mw_i2l, mw_l2i, mw_lcm, mw_if, mw_ic, mw_ifnN, mw_ifnR, mw_go, mw_dupi, mw_dupr, mw_popi, mw_popr, mw_nw, mw_rti, mw_rtl, mw_rtr, mw_rtn, mw_rtv, mw_rt0, mw_rt1, mj_ild, mj_lld, mj_ald, mj_ist, mj_lst, mj_ast, mj_inc, mj_iz, mj_get, mj_put, mj_len, mj_iar, mj_aar, mj_iaw, mj_aaw, mj_ivs, mj_ivv, mj_ivi, mj_ob, mj_tk, mj_cat, mj_st1, mj_st2, mj_clr, mj_nwi, mj_nwq, List.getElem?_cons_zero, List.getElem?_cons_succ, List.length_cons, List.length_nil, List.set_cons_zero, List.set_cons_succ, Value.category, decide_eq_true_eq, List.map_cons, List.map_nil, List.sum_cons, List.sum_nil, Option.toList, List.cons_append, List.nil_append, ite_true, ite_false, if_true, if_false, reduceCtorEq, true_and, and_true, narrow_i, narrow_l, narrow_r, narrow_n, fits_i, fits_l, fits_ro, fits_ra, fits_no, fits_na, Nat.reduceAdd, Nat.reduceLT, Nat.reduceLeDiff, Nat.reduceEqDiff, Nat.reduceSub, zero_add0, true_or, or_true, false_or, or_false, not_true_eq_false, not_false_eq_true, eq_self, i10, i01, im0, im1, ho]
  exact body _ hw.th (sm.up (by omega) (by omega))
end MX
