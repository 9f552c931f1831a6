/-! The reference: its calls that read, and that add lines and literals -/
def mo_w (hp : mj_H) (M : Nat) (a b t : Int32) (C : Nat → sp_Ln) (s : sp_S) : Prop := (1 ≤ s.1 ∧ s.1 ≤ 64) ∧ hp.1 M = some (mo_o M s.1 s.2.2.1.length s.2.1.length s.2.2.2.length a b t) ∧ rows hp M C ∧ (List.range s.2.2.1.length).map C = s.2.2.1 ∧ s.2.2.1.length ≤ 80 ∧ (∀ l ∈ s.2.2.1, lv s.1 l) ∧ mo_c hp M s.2.1 ∧ (∀ c ∈ s.2.1, c < 2 * s.1) ∧ mo_u hp M s.2.2.2 ∧ mo_h hp M
theorem mo_w_of {hp : mj_H} {M : Nat} {s : sp_S} (h : mo_at hp M s) : ∃ a b t C, mo_w hp M a b t C s := by
  obtain ⟨hn, a, b, t, C, h⟩ := h
  exact ⟨a, b, t, C, hn, h⟩
theorem mo_w.at {hp : mj_H} {M : Nat} {a b t : Int32} {C : Nat → sp_Ln} {s : sp_S} (h : mo_w hp M a b t C s) : mo_at hp M s := ⟨h.1, a, b, t, C, h.2⟩
theorem mo_w.th {hp : mj_H} {M : Nat} {a b t : Int32} {C : Nat → sp_Ln} {s : sp_S} (h : mo_w hp M a b t C s) {a' b' t' : Int32} : mo_w (mj_up hp M (mo_o M s.1 s.2.2.1.length s.2.1.length s.2.2.2.length a' b' t')) M a' b' t' C s := by
  obtain ⟨hn, ho, hr, hmap, hk, hlv, hc, hcb, hu, hh⟩ := h
  exact ⟨hn, mj_up_at, hr.keep u_0_1 u_0_2 u_0_3, hmap, hk, hlv, hc.keep u_0_4, hcb, hu.keep u_0_5, hh.keep u_0_6 u_0_7⟩
/-- the rows changed -/
theorem mo_w.ro {hp hp' : mj_H} {M n : Nat} {a b t : Int32} {C C' : Nat → sp_Ln} {col xs : List Nat} {ls ls' : List sp_Ln} (h : mo_w hp M a b t C (n, col, ls, xs)) (hs : sm hp hp' M (M + 4)) {a' b' t' : Int32} (ho : hp'.1 M = some (mo_o M n ls'.length col.length xs.length a' b' t')) (hr : rows hp' M C') (hm : (List.range ls'.length).map C' = ls') (hk : ls'.length ≤ 80) (hl : ∀ l ∈ ls', lv n l) : mo_w hp' M a' b' t' C' (n, col, ls', xs) := by
  obtain ⟨hn, -, -, -, -, -, hc, hcb, hu, hh⟩ := h
  exact ⟨hn, ho, hr, hm, hk, hl, hc.keep (hs.2 _ (by omega)), hcb, hu.keep (hs.2 _ (by omega)), hh.keep (hs.2 _ (by omega)) (hs.2 _ (by omega))⟩
section M2
variable {hp : mj_H} {Q : mj_Q} {M : Nat} {s : sp_S}
theorem e_given (h : mo_at hp M s) (hQ : ∀ hp' : mj_H, mo_at hp' M (so_open 0 s).1 → sm hp hp' M (M + 8) → Q (some (.int (so_open 0 s).2)) hp') : mj_call 80 [.ref M] hp Q := by
  obtain ⟨a, b, t, C, hw⟩ := mo_w_of h
  have ho := hw.2.1
  have body : ∀ hp0 : mj_H, mo_w hp0 M a b 0 C s → sm hp hp0 M (M + 8) → mj_wp 80 5 [some (.ref M)] [] hp0 Q := by
    obtain ⟨n, col, ls, xs⟩ := s
    intro hp0 hw0 s0
    have hw1 := hw0
    obtain ⟨hn, ho, hr, hmap, hk, hlv, hc, hcb, hu, hh⟩ := hw0
    dsimp only at *
    unfold so_open at hQ
    dsimp only at hQ
    simp only [x_80_5, x_80_6, x_80_7, mw_nx, mw_no, mw_ite, mw_call, mw_ret, mw_cst, mw_ii, mw_i1, mw_ll, mw_l1, mw_li, mw_i2l, mw_l2i, mw_lcm, mw_if, mw_ic, mw_ifnN, mw_ifnR, mw_go, mw_dupi, mw_dupr, mw_popi, mw_popr, mw_nw, mw_rti, mw_rtl, mw_rtr, mw_rtn, mw_rtv, mw_rt0, mw_rt1, mj_ild, mj_lld, mj_ald, mj_ist, mj_lst, mj_ast, mj_inc, mj_iz, mj_get, mj_put, mj_len, mj_iar, mj_aar, mj_iaw, mj_aaw, mj_ivs, mj_ivv, mj_ivi, mj_ob, mj_tk, mj_cat, mj_st1, mj_st2, mj_clr, mj_nwi, mj_nwq, List.getElem?_cons_zero, List.getElem?_cons_succ, List.length_cons, List.length_nil, List.set_cons_zero, List.set_cons_succ, Value.category, decide_eq_true_eq, List.map_cons, List.map_nil, List.sum_cons, List.sum_nil, Option.toList, List.cons_append, List.nil_append, ite_true, ite_false, if_true, if_false, reduceCtorEq, true_and, and_true, narrow_i, narrow_l, narrow_r, narrow_n, fits_i, fits_l, fits_ro, fits_ra, fits_no, fits_na, Nat.reduceAdd, Nat.reduceLT, Nat.reduceLeDiff, Nat.reduceEqDiff, Nat.reduceSub, zero_add0, true_or, or_true, false_or, or_false, not_true_eq_false, not_false_eq_true, eq_self, i10, i01, im0, im1, ho]
    refine m_newLine (s := 0) ho hr hk (by omega) (fun h8 => ?_) (fun h8 hp1 o1 r1 s1 => ?_)
    · rw [sp_if_f (by omega)] at hQ
      simp only [x_80_10, mw_nx, mw_no, mw_ite, mw_call, mw_ret, mw_cst, mw_ii, mw_i1, mw_ll, mw_l1, mw_li, mw_i2l, mw_l2i, mw_lcm, mw_if, mw_ic, mw_ifnN, mw_ifnR, mw_go, mw_dupi, mw_dupr, mw_popi, mw_popr, mw_nw, mw_rti, mw_rtl, mw_rtr, mw_rtn, mw_rtv, mw_rt0, mw_rt1, mj_ild, mj_lld, mj_ald, mj_ist, mj_lst, mj_ast, mj_inc, mj_iz, mj_get, mj_put, mj_len, mj_iar, mj_aar, mj_iaw, mj_aaw, mj_ivs, mj_ivv, mj_ivi, mj_ob, mj_tk, mj_cat, mj_st1, mj_st2, mj_clr, mj_nwi, mj_nwq, List.getElem?_cons_zero, List.getElem?_cons_succ, List.length_cons, List.length_nil, List.set_cons_zero, List.set_cons_succ, Value.category, decide_eq_true_eq, List.map_cons, List.map_nil, List.sum_cons, List.sum_nil, Option.toList, List.cons_append, List.nil_append, ite_true, ite_false, if_true, if_false, reduceCtorEq, true_and, and_true, narrow_i, narrow_l, narrow_r, narrow_n, fits_i, fits_l, fits_ro, fits_ra, fits_no, fits_na, Nat.reduceAdd, Nat.reduceLT, Nat.reduceLeDiff, Nat.reduceEqDiff, Nat.reduceSub, zero_add0, true_or, or_true, false_or, or_false, not_true_eq_false, not_false_eq_true, eq_self, i10, i01, im0, im1]
      exact hQ hp0 hw1.at s0
    · rw [sp_if_t h8] at hQ
      simp only [x_80_10, mw_nx, mw_no, mw_ite, mw_call, mw_ret, mw_cst, mw_ii, mw_i1, mw_ll, mw_l1, mw_li, mw_i2l, mw_l2i, mw_lcm, mw_if, mw_ic, mw_ifnN, mw_ifnR, mw_go, mw_dupi, mw_dupr, mw_popi, mw_popr, mw_nw, mw_rti, mw_rtl, mw_rtr, mw_rtn, mw_rtv, mw_rt0, mw_rt1, mj_ild, mj_lld, mj_ald, mj_ist, mj_lst, mj_ast, mj_inc, mj_iz, mj_get, mj_put, mj_len, mj_iar, mj_aar, mj_iaw, mj_aaw, mj_ivs, mj_ivv, mj_ivi, mj_ob, mj_tk, mj_cat, mj_st1, mj_st2, mj_clr, mj_nwi, mj_nwq, List.getElem?_cons_zero, List.getElem?_cons_succ, List.length_cons, List.length_nil, List.set_cons_zero, List.set_cons_succ, Value.category, decide_eq_true_eq, List.map_cons, List.map_nil, List.sum_cons, List.sum_nil, Option.toList, List.cons_append, List.nil_append, ite_true, ite_false, if_true, if_false, reduceCtorEq, true_and, and_true, narrow_i, narrow_l, narrow_r, narrow_n, fits_i, fits_l, fits_ro, fits_ra, fits_no, fits_na, Nat.reduceAdd, Nat.reduceLT, Nat.reduceLeDiff, Nat.reduceEqDiff, Nat.reduceSub, zero_add0, true_or, or_true, false_or, or_false, not_true_eq_false, not_false_eq_true, eq_self, i10, i01, im0, im1]
      refine hQ hp1 (hw1.ro s1 (by rw [List.length_append]; exact o1) r1 (map_snoc hmap) (by rw [List.length_append, List.length_singleton]; omega) (fun l hl => ?_)).at (s0.tr (s1.mono (by omega) (by omega)))
      rcases List.mem_append.mp hl with q | q
      · exact hlv l q
      · rw [List.mem_singleton] at q; subst q
        exact ⟨fun c hc => absurd hc List.not_mem_nil, fun _ c hc => absurd hc List.not_mem_nil⟩
  rw [en_80]
  simp only [x_80_0, x_80_1, x_80_2, mw_nx, mw_no, mw_ite, mw_call, mw_ret, mw_cst, mw_ii, mw_i1, mw_ll, mw_l1, mw_li, mw_i2l, mw_l2i, mw_lcm, mw_if, mw_ic, mw_ifnN, mw_ifnR, mw_go, mw_dupi, mw_dupr, mw_popi, mw_popr, mw_nw, mw_rti, mw_rtl, mw_rtr, mw_rtn, mw_rtv, mw_rt0, mw_rt1, mj_ild, mj_lld, mj_ald, mj_ist, mj_lst, mj_ast, mj_inc, mj_iz, mj_get, mj_put, mj_len, mj_iar, mj_aar, mj_iaw, mj_aaw, mj_ivs, mj_ivv, mj_ivi, mj_ob, mj_tk, mj_cat, mj_st1, mj_st2, mj_clr, mj_nwi, mj_nwq, List.getElem?_cons_zero, List.getElem?_cons_succ, List.length_cons, List.length_nil, List.set_cons_zero, List.set_cons_succ, Value.category, decide_eq_true_eq, List.map_cons, List.map_nil, List.sum_cons, List.sum_nil, Option.toList, List.cons_append, List.nil_append, ite_true, ite_false, if_true, if_false, reduceCtorEq, true_and, and_true, narrow_i, narrow_l, narrow_r, narrow_n, fits_i, fits_l, fits_ro, fits_ra, fits_no, fits_na, Nat.reduceAdd, Nat.reduceLT, Nat.reduceLeDiff, Nat.reduceEqDiff, Nat.reduceSub, zero_add0, true_or, or_true, false_or, or_false, not_true_eq_false, not_false_eq_true, eq_self, i10, i01, im0, im1, ho]
  exact body _ hw.th (sm.up (by omega) (by omega))
theorem e_answer (h : mo_at hp M s) (hQ : ∀ hp' : mj_H, mo_at hp' M (so_open 3 s).1 → sm hp hp' M (M + 8) → Q (some (.int (so_open 3 s).2)) hp') : mj_call 81 [.ref M] hp Q := by
  obtain ⟨a, b, t, C, hw⟩ := mo_w_of h
  have ho := hw.2.1
  have body : ∀ hp0 : mj_H, mo_w hp0 M a b 0 C s → sm hp hp0 M (M + 8) → mj_wp 81 5 [some (.ref M)] [] hp0 Q := by
    obtain ⟨n, col, ls, xs⟩ := s
    intro hp0 hw0 s0
    have hw1 := hw0
    obtain ⟨hn, ho, hr, hmap, hk, hlv, hc, hcb, hu, hh⟩ := hw0
    dsimp only at *
    unfold so_open at hQ
    dsimp only at hQ
    simp only [x_81_5, x_81_6, x_81_7, mw_nx, mw_no, mw_ite, mw_call, mw_ret, mw_cst, mw_ii, mw_i1, mw_ll, mw_l1, mw_li, mw_i2l, mw_l2i, mw_lcm, mw_if, mw_ic, mw_ifnN, mw_ifnR, mw_go, mw_dupi, mw_dupr, mw_popi, mw_popr, mw_nw, mw_rti, mw_rtl, mw_rtr, mw_rtn, mw_rtv, mw_rt0, mw_rt1, mj_ild, mj_lld, mj_ald, mj_ist, mj_lst, mj_ast, mj_inc, mj_iz, mj_get, mj_put, mj_len, mj_iar, mj_aar, mj_iaw, mj_aaw, mj_ivs, mj_ivv, mj_ivi, mj_ob, mj_tk, mj_cat, mj_st1, mj_st2, mj_clr, mj_nwi, mj_nwq, List.getElem?_cons_zero, List.getElem?_cons_succ, List.length_cons, List.length_nil, List.set_cons_zero, List.set_cons_succ, Value.category, decide_eq_true_eq, List.map_cons, List.map_nil, List.sum_cons, List.sum_nil, Option.toList, List.cons_append, List.nil_append, ite_true, ite_false, if_true, if_false, reduceCtorEq, true_and, and_true, narrow_i, narrow_l, narrow_r, narrow_n, fits_i, fits_l, fits_ro, fits_ra, fits_no, fits_na, Nat.reduceAdd, Nat.reduceLT, Nat.reduceLeDiff, Nat.reduceEqDiff, Nat.reduceSub, zero_add0, true_or, or_true, false_or, or_false, not_true_eq_false, not_false_eq_true, eq_self, i10, i01, im0, im1, ho]
    refine m_newLine (s := 3) ho hr hk (by omega) (fun h8 => ?_) (fun h8 hp1 o1 r1 s1 => ?_)
    · rw [sp_if_f (by omega)] at hQ
      simp only [x_81_10, mw_nx, mw_no, mw_ite, mw_call, mw_ret, mw_cst, mw_ii, mw_i1, mw_ll, mw_l1, mw_li, mw_i2l, mw_l2i, mw_lcm, mw_if, mw_ic, mw_ifnN, mw_ifnR, mw_go, mw_dupi, mw_dupr, mw_popi, mw_popr, mw_nw, mw_rti, mw_rtl, mw_rtr, mw_rtn, mw_rtv, mw_rt0, mw_rt1, mj_ild, mj_lld, mj_ald, mj_ist, mj_lst, mj_ast, mj_inc, mj_iz, mj_get, mj_put, mj_len, mj_iar, mj_aar, mj_iaw, mj_aaw, mj_ivs, mj_ivv, mj_ivi, mj_ob, mj_tk, mj_cat, mj_st1, mj_st2, mj_clr, mj_nwi, mj_nwq, List.getElem?_cons_zero, List.getElem?_cons_succ, List.length_cons, List.length_nil, List.set_cons_zero, List.set_cons_succ, Value.category, decide_eq_true_eq, List.map_cons, List.map_nil, List.sum_cons, List.sum_nil, Option.toList, List.cons_append, List.nil_append, ite_true, ite_false, if_true, if_false, reduceCtorEq, true_and, and_true, narrow_i, narrow_l, narrow_r, narrow_n, fits_i, fits_l, fits_ro, fits_ra, fits_no, fits_na, Nat.reduceAdd, Nat.reduceLT, Nat.reduceLeDiff, Nat.reduceEqDiff, Nat.reduceSub, zero_add0, true_or, or_true, false_or, or_false, not_true_eq_false, not_false_eq_true, eq_self, i10, i01, im0, im1]
      exact hQ hp0 hw1.at s0
    · rw [sp_if_t h8] at hQ
      simp only [x_81_10, mw_nx, mw_no, mw_ite, mw_call, mw_ret, mw_cst, mw_ii, mw_i1, mw_ll, mw_l1, mw_li, mw_i2l, mw_l2i, mw_lcm, mw_if, mw_ic, mw_ifnN, mw_ifnR, mw_go, mw_dupi, mw_dupr, mw_popi, mw_popr, mw_nw, mw_rti, mw_rtl, mw_rtr, mw_rtn, mw_rtv, mw_rt0, mw_rt1, mj_ild, mj_lld, mj_ald, mj_ist, mj_lst, mj_ast, mj_inc, mj_iz, mj_get, mj_put, mj_len, mj_iar, mj_aar, mj_iaw, mj_aaw, mj_ivs, mj_ivv, mj_ivi, mj_ob, mj_tk, mj_cat, mj_st1, mj_st2, mj_clr, mj_nwi, mj_nwq, List.getElem?_cons_zero, List.getElem?_cons_succ, List.length_cons, List.length_nil, List.set_cons_zero, List.set_cons_succ, Value.category, decide_eq_true_eq, List.map_cons, List.map_nil, List.sum_cons, List.sum_nil, Option.toList, List.cons_append, List.nil_append, ite_true, ite_false, if_true, if_false, reduceCtorEq, true_and, and_true, narrow_i, narrow_l, narrow_r, narrow_n, fits_i, fits_l, fits_ro, fits_ra, fits_no, fits_na, Nat.reduceAdd, Nat.reduceLT, Nat.reduceLeDiff, Nat.reduceEqDiff, Nat.reduceSub, zero_add0, true_or, or_true, false_or, or_false, not_true_eq_false, not_false_eq_true, eq_self, i10, i01, im0, im1]
      refine hQ hp1 (hw1.ro s1 (by rw [List.length_append]; exact o1) r1 (map_snoc hmap) (by rw [List.length_append, List.length_singleton]; omega) (fun l hl => ?_)).at (s0.tr (s1.mono (by omega) (by omega)))
      rcases List.mem_append.mp hl with q | q
      · exact hlv l q
      · rw [List.mem_singleton] at q; subst q
        exact ⟨fun c hc => absurd hc List.not_mem_nil, fun _ c hc => absurd hc List.not_mem_nil⟩
  rw [en_81]
  simp only [x_81_0, x_81_1, x_81_2, mw_nx, mw_no, mw_ite, mw_call, mw_ret, mw_cst, mw_ii, mw_i1, mw_ll, mw_l1, mw_li, mw_i2l, mw_l2i, mw_lcm, mw_if, mw_ic, mw_ifnN, mw_ifnR, mw_go, mw_dupi, mw_dupr, mw_popi, mw_popr, mw_nw, mw_rti, mw_rtl, mw_rtr, mw_rtn, mw_rtv, mw_rt0, mw_rt1, mj_ild, mj_lld, mj_ald, mj_ist, mj_lst, mj_ast, mj_inc, mj_iz, mj_get, mj_put, mj_len, mj_iar, mj_aar, mj_iaw, mj_aaw, mj_ivs, mj_ivv, mj_ivi, mj_ob, mj_tk, mj_cat, mj_st1, mj_st2, mj_clr, mj_nwi, mj_nwq, List.getElem?_cons_zero, List.getElem?_cons_succ, List.length_cons, List.length_nil, List.set_cons_zero, List.set_cons_succ, Value.category, decide_eq_true_eq, List.map_cons, List.map_nil, List.sum_cons, List.sum_nil, Option.toList, List.cons_append, List.nil_append, ite_true, ite_false, if_true, if_false, reduceCtorEq, true_and, and_true, narrow_i, narrow_l, narrow_r, narrow_n, fits_i, fits_l, fits_ro, fits_ra, fits_no, fits_na, Nat.reduceAdd, Nat.reduceLT, Nat.reduceLeDiff, Nat.reduceEqDiff, Nat.reduceSub, zero_add0, true_or, or_true, false_or, or_false, not_true_eq_false, not_false_eq_true, eq_self, i10, i01, im0, im1, ho]
  exact body _ hw.th (sm.up (by omega) (by omega))
theorem e_literal (x t z : Int32) (h : mo_at hp M s) (hQ : ∀ hp' : mj_H, mo_at hp' M (so_add 0 x t z s).1 → sm hp hp' M (M + 8) → Q (some (.int (so_add 0 x t z s).2)) hp') : mj_call 83 [.ref M, .int x, .int t, .int z] hp Q := by
  obtain ⟨a, b, t0, C, hw⟩ := mo_w_of h
  have ho := hw.2.1
  have body : ∀ hp0 : mj_H, mo_w hp0 M a b 0 C s → sm hp hp0 M (M + 8) → mj_wp 83 5 [some (.ref M), some (.int x), some (.int t), some (.int z)] [] hp0 Q := by
    obtain ⟨n, col, ls, xs⟩ := s
    intro hp0 hw0 s0
    have hw1 := hw0
    obtain ⟨hn, ho, hr, hmap, hk, hlv, hc, hcb, hu, hh⟩ := hw0
    dsimp only at *
    unfold so_add at hQ
    dsimp only at hQ
    have l0 : ∀ (Q : mj_Q), mj_call 82 [.ref M, .int x, .int 0] hp0 Q = Q (some (.int (if 0 < ls.length ∧ x = nI (ls.length - 1) ∧ (C (ls.length - 1)).1 = 0 then 1 else 0))) hp0 := fun Q => m_isLast (s := 0) ho hr hk x (by omega)
    by_cases w : 0 < ls.length ∧ x = nI (ls.length - 1) ∧ (C (ls.length - 1)).1 = 0
    · have hlt : ls.length - 1 < ls.length := by omega
      have hat := map_at hmap hlt
      have w2 := w
      rw [hat] at w2
      have w' := eq_true w
      by_cases wt : so_th n t
      · have wt' : (0 ≤ t ∧ t < nI n) = True := eq_true wt
        obtain ⟨j, hj, hje, hjc⟩ := so_th_nat hn.2 wt
        have hcc : so_code t z < 2 * n := by unfold so_code; rw [hjc]; split <;> omega
        have hxe := w.2.1
        have hasx : ∀ (Q : mj_Q), mj_call 77 [.ref M, .int x, .int (nI (so_code t z))] hp0 Q = Q (some (.int (if so_code t z ∈ (C (ls.length - 1)).2 then 1 else 0))) hp0 := fun Q => by rw [hxe]; exact m_has ho hr (by omega) (by omega)
        by_cases hm : so_code t z ∈ (C (ls.length - 1)).2
        · have hm' := eq_true hm
          rw [sp_if_f (fun q => q.2.2.2.2.1 (by rw [← hat]; exact hm))] at hQ
          simp only [x_83_0, x_83_1, x_83_2, x_83_5, x_83_6, x_83_7, x_83_8, x_83_11, x_83_14, x_83_15, x_83_16, x_83_19, x_83_22, x_83_23, x_83_24, x_83_25, x_83_26, x_83_29, x_83_32, x_83_35, x_83_36, x_83_37, x_83_38, x_83_39, x_83_40, x_83_41, x_83_44, x_83_47, x_83_48, mw_nx, mw_no, mw_ite, mw_call, mw_ret, mw_cst, mw_ii, mw_i1, mw_ll, mw_l1, mw_li, mw_i2l, mw_l2i, mw_lcm, mw_if, mw_ic, mw_ifnN, mw_ifnR, mw_go, mw_dupi, mw_dupr, mw_popi, mw_popr, mw_nw, mw_rti, mw_rtl, mw_rtr, mw_rtn, mw_rtv, mw_rt0, mw_rt1, mj_ild, mj_lld, mj_ald, mj_ist, mj_lst, mj_ast, mj_inc, mj_iz, mj_get, mj_put, mj_len, mj_iar, mj_aar, mj_iaw, mj_aaw, mj_ivs, mj_ivv, mj_ivi, mj_ob, mj_tk, mj_cat, mj_st1, mj_st2, mj_clr, mj_nwi, mj_nwq, List.getElem?_cons_zero, List.getElem?_cons_succ, List.length_cons, List.length_nil, List.set_cons_zero, List.set_cons_succ, Value.category, decide_eq_true_eq, List.map_cons, List.map_nil, List.sum_cons, List.sum_nil, Option.toList, List.cons_append, List.nil_append, ite_true, ite_false, if_true, if_false, reduceCtorEq, true_and, and_true, narrow_i, narrow_l, narrow_r, narrow_n, fits_i, fits_l, fits_ro, fits_ra, fits_no, fits_na, Nat.reduceAdd, Nat.reduceLT, Nat.reduceLeDiff, Nat.reduceEqDiff, Nat.reduceSub, zero_add0, true_or, or_true, false_or, or_false, not_true_eq_false, not_false_eq_true, eq_self, i10, i01, im0, im1, ho, l0, w', m_isThing t ho, wt', m_litOf, so_code_e (show j < 2 ^ 31 by omega) hje, hasx, hm']
          exact hQ hp0 hw1.at s0
        · have hm' := eq_false hm
          simp only [x_83_5, x_83_6, x_83_7, x_83_8, x_83_11, x_83_14, x_83_15, x_83_16, x_83_19, x_83_22, x_83_23, x_83_24, x_83_25, x_83_26, x_83_29, x_83_32, x_83_35, x_83_36, x_83_37, x_83_38, x_83_39, x_83_40, x_83_41, x_83_44, mw_nx, mw_no, mw_ite, mw_call, mw_ret, mw_cst, mw_ii, mw_i1, mw_ll, mw_l1, mw_li, mw_i2l, mw_l2i, mw_lcm, mw_if, mw_ic, mw_ifnN, mw_ifnR, mw_go, mw_dupi, mw_dupr, mw_popi, mw_popr, mw_nw, mw_rti, mw_rtl, mw_rtr, mw_rtn, mw_rtv, mw_rt0, mw_rt1, mj_ild, mj_lld, mj_ald, mj_ist, mj_lst, mj_ast, mj_inc, mj_iz, mj_get, mj_put, mj_len, mj_iar, mj_aar, mj_iaw, mj_aaw, mj_ivs, mj_ivv, mj_ivi, mj_ob, mj_tk, mj_cat, mj_st1, mj_st2, mj_clr, mj_nwi, mj_nwq, List.getElem?_cons_zero, List.getElem?_cons_succ, List.length_cons, List.length_nil, List.set_cons_zero, List.set_cons_succ, Value.category, decide_eq_true_eq, List.map_cons, List.map_nil, List.sum_cons, List.sum_nil, Option.toList, List.cons_append, List.nil_append, ite_true, ite_false, if_true, if_false, reduceCtorEq, true_and, and_true, narrow_i, narrow_l, narrow_r, narrow_n, fits_i, fits_l, fits_ro, fits_ra, fits_no, fits_na, Nat.reduceAdd, Nat.reduceLT, Nat.reduceLeDiff, Nat.reduceEqDiff, Nat.reduceSub, zero_add0, true_or, or_true, false_or, or_false, not_true_eq_false, not_false_eq_true, eq_self, i10, i01, im0, im1, ho, l0, w', m_isThing t ho, wt', m_litOf, so_code_e (show j < 2 ^ 31 by omega) hje, hasx, hm']
          have htk : so_takes (so_at ls (ls.length - 1)) (so_code t z) := ⟨by rw [← hat]; exact hm, Or.inl (by rw [w2.2.2]; decide)⟩
          rw [sp_if_t ⟨w2.1, w2.2.1, w2.2.2, wt, htk⟩] at hQ
          rw [hxe]
          refine m_add ho hr (show ls.length - 1 < 160 by omega) (show so_code t z < 128 by omega) hm (fun hp1 r1 s1 => ?_)
          simp only [x_83_47, x_83_48, mw_nx, mw_no, mw_ite, mw_call, mw_ret, mw_cst, mw_ii, mw_i1, mw_ll, mw_l1, mw_li, mw_i2l, mw_l2i, mw_lcm, mw_if, mw_ic, mw_ifnN, mw_ifnR, mw_go, mw_dupi, mw_dupr, mw_popi, mw_popr, mw_nw, mw_rti, mw_rtl, mw_rtr, mw_rtn, mw_rtv, mw_rt0, mw_rt1, mj_ild, mj_lld, mj_ald, mj_ist, mj_lst, mj_ast, mj_inc, mj_iz, mj_get, mj_put, mj_len, mj_iar, mj_aar, mj_iaw, mj_aaw, mj_ivs, mj_ivv, mj_ivi, mj_ob, mj_tk, mj_cat, mj_st1, mj_st2, mj_clr, mj_nwi, mj_nwq, List.getElem?_cons_zero, List.getElem?_cons_succ, List.length_cons, List.length_nil, List.set_cons_zero, List.set_cons_succ, Value.category, decide_eq_true_eq, List.map_cons, List.map_nil, List.sum_cons, List.sum_nil, Option.toList, List.cons_append, List.nil_append, ite_true, ite_false, if_true, if_false, reduceCtorEq, true_and, and_true, narrow_i, narrow_l, narrow_r, narrow_n, fits_i, fits_l, fits_ro, fits_ra, fits_no, fits_na, Nat.reduceAdd, Nat.reduceLT, Nat.reduceLeDiff, Nat.reduceEqDiff, Nat.reduceSub, zero_add0, true_or, or_true, false_or, or_false, not_true_eq_false, not_false_eq_true, eq_self, i10, i01, im0, im1]
          refine hQ hp1 (hw1.ro (s1.mono (by omega) (by omega)) (by unfold so_app; rw [List.length_set, s1.2 _ (by omega)]; exact ho) r1 ?_ ?_ (fun l hl => ?_)).at (s0.tr (s1.mono (by omega) (by omega)))
          · unfold so_app; rw [List.length_set, map_set, hmap, hat]
          · unfold so_app; rw [List.length_set]; exact hk
          · unfold so_app at hl
            rcases List.mem_or_eq_of_mem_set hl with q | q
            · exact hlv l q
            · rw [q]
              exact lv_add (hlv _ (so_at_mem hlt)) hcc htk
      · have wt' : (0 ≤ t ∧ t < nI n) = False := eq_false wt
        rw [sp_if_f (fun q => wt q.2.2.2.1)] at hQ
        simp only [x_83_0, x_83_1, x_83_2, x_83_5, x_83_6, x_83_7, x_83_8, x_83_11, x_83_14, x_83_15, x_83_16, x_83_19, x_83_22, x_83_23, x_83_24, x_83_25, x_83_26, x_83_29, x_83_32, x_83_35, x_83_36, x_83_37, x_83_38, x_83_39, x_83_40, x_83_41, x_83_44, x_83_47, x_83_48, mw_nx, mw_no, mw_ite, mw_call, mw_ret, mw_cst, mw_ii, mw_i1, mw_ll, mw_l1, mw_li, mw_i2l, mw_l2i, mw_lcm, mw_if, mw_ic, mw_ifnN, mw_ifnR, mw_go, mw_dupi, mw_dupr, mw_popi, mw_popr, mw_nw, mw_rti, mw_rtl, mw_rtr, mw_rtn, mw_rtv, mw_rt0, mw_rt1, mj_ild, mj_lld, mj_ald, mj_ist, mj_lst, mj_ast, mj_inc, mj_iz, mj_get, mj_put, mj_len, mj_iar, mj_aar, mj_iaw, mj_aaw, mj_ivs, mj_ivv, mj_ivi, mj_ob, mj_tk, mj_cat, mj_st1, mj_st2, mj_clr, mj_nwi, mj_nwq, List.getElem?_cons_zero, List.getElem?_cons_succ, List.length_cons, List.length_nil, List.set_cons_zero, List.set_cons_succ, Value.category, decide_eq_true_eq, List.map_cons, List.map_nil, List.sum_cons, List.sum_nil, Option.toList, List.cons_append, List.nil_append, ite_true, ite_false, if_true, if_false, reduceCtorEq, true_and, and_true, narrow_i, narrow_l, narrow_r, narrow_n, fits_i, fits_l, fits_ro, fits_ra, fits_no, fits_na, Nat.reduceAdd, Nat.reduceLT, Nat.reduceLeDiff, Nat.reduceEqDiff, Nat.reduceSub, zero_add0, true_or, or_true, false_or, or_false, not_true_eq_false, not_false_eq_true, eq_self, i10, i01, im0, im1, ho, l0, w', m_isThing t ho, wt']
        exact hQ hp0 hw1.at s0
    · have w' := eq_false w
      rw [sp_if_f (fun q => w ⟨q.1, q.2.1, by rw [map_at hmap (by omega)]; exact q.2.2.1⟩)] at hQ
      simp only [x_83_0, x_83_1, x_83_2, x_83_5, x_83_6, x_83_7, x_83_8, x_83_11, x_83_14, x_83_15, x_83_16, x_83_19, x_83_22, x_83_23, x_83_24, x_83_25, x_83_26, x_83_29, x_83_32, x_83_35, x_83_36, x_83_37, x_83_38, x_83_39, x_83_40, x_83_41, x_83_44, x_83_47, x_83_48, mw_nx, mw_no, mw_ite, mw_call, mw_ret, mw_cst, mw_ii, mw_i1, mw_ll, mw_l1, mw_li, mw_i2l, mw_l2i, mw_lcm, mw_if, mw_ic, mw_ifnN, mw_ifnR, mw_go, mw_dupi, mw_dupr, mw_popi, mw_popr, mw_nw, mw_rti, mw_rtl, mw_rtr, mw_rtn, mw_rtv, mw_rt0, mw_rt1, mj_ild, mj_lld, mj_ald, mj_ist, mj_lst, mj_ast, mj_inc, mj_iz, mj_get, mj_put, mj_len, mj_iar, mj_aar, mj_iaw, mj_aaw, mj_ivs, mj_ivv, mj_ivi, mj_ob, mj_tk, mj_cat, mj_st1, mj_st2, mj_clr, mj_nwi, mj_nwq, List.getElem?_cons_zero, List.getElem?_cons_succ, List.length_cons, List.length_nil, List.set_cons_zero, List.set_cons_succ, Value.category, decide_eq_true_eq, List.map_cons, List.map_nil, List.sum_cons, List.sum_nil, Option.toList, List.cons_append, List.nil_append, ite_true, ite_false, if_true, if_false, reduceCtorEq, true_and, and_true, narrow_i, narrow_l, narrow_r, narrow_n, fits_i, fits_l, fits_ro, fits_ra, fits_no, fits_na, Nat.reduceAdd, Nat.reduceLT, Nat.reduceLeDiff, Nat.reduceEqDiff, Nat.reduceSub, zero_add0, true_or, or_true, false_or, or_false, not_true_eq_false, not_false_eq_true, eq_self, i10, i01, im0, im1, ho, l0, w']
      exact hQ hp0 hw1.at s0
  rw [en_83]
  simp only [x_83_0, x_83_1, x_83_2, mw_nx, mw_no, mw_ite, mw_call, mw_ret, mw_cst, mw_ii, mw_i1, mw_ll, mw_l1, mw_li, mw_i2l, mw_l2i, mw_lcm, mw_if, mw_ic, mw_ifnN, mw_ifnR, mw_go, mw_dupi, mw_dupr, mw_popi, mw_popr, mw_nw, mw_rti, mw_rtl, mw_rtr, mw_rtn, mw_rtv, mw_rt0, mw_rt1, mj_ild, mj_lld, mj_ald, mj_ist, mj_lst, mj_ast, mj_inc, mj_iz, mj_get, mj_put, mj_len, mj_iar, mj_aar, mj_iaw, mj_aaw, mj_ivs, mj_ivv, mj_ivi, mj_ob, mj_tk, mj_cat, mj_st1, mj_st2, mj_clr, mj_nwi, mj_nwq, List.getElem?_cons_zero, List.getElem?_cons_succ, List.length_cons, List.length_nil, List.set_cons_zero, List.set_cons_succ, Value.category, decide_eq_true_eq, List.map_cons, List.map_nil, List.sum_cons, List.sum_nil, Option.toList, List.cons_append, List.nil_append, ite_true, ite_false, if_true, if_false, reduceCtorEq, true_and, and_true, narrow_i, narrow_l, narrow_r, narrow_n, fits_i, fits_l, fits_ro, fits_ra, fits_no, fits_na, Nat.reduceAdd, Nat.reduceLT, Nat.reduceLeDiff, Nat.reduceEqDiff, Nat.reduceSub, zero_add0, true_or, or_true, false_or, or_false, not_true_eq_false, not_false_eq_true, eq_self, i10, i01, im0, im1, ho]
  exact body _ hw.th (sm.up (by omega) (by omega))
theorem e_value (x t z : Int32) (h : mo_at hp M s) (hQ : ∀ hp' : mj_H, mo_at hp' M (so_add 3 x t z s).1 → sm hp hp' M (M + 8) → Q (some (.int (so_add 3 x t z s).2)) hp') : mj_call 84 [.ref M, .int x, .int t, .int z] hp Q := by
  obtain ⟨a, b, t0, C, hw⟩ := mo_w_of h
  have ho := hw.2.1
  have body : ∀ hp0 : mj_H, mo_w hp0 M a b 0 C s → sm hp hp0 M (M + 8) → mj_wp 84 5 [some (.ref M), some (.int x), some (.int t), some (.int z)] [] hp0 Q := by
    obtain ⟨n, col, ls, xs⟩ := s
    intro hp0 hw0 s0
    have hw1 := hw0
    obtain ⟨hn, ho, hr, hmap, hk, hlv, hc, hcb, hu, hh⟩ := hw0
    dsimp only at *
    unfold so_add at hQ
    dsimp only at hQ
    have l0 : ∀ (Q : mj_Q), mj_call 82 [.ref M, .int x, .int 3] hp0 Q = Q (some (.int (if 0 < ls.length ∧ x = nI (ls.length - 1) ∧ (C (ls.length - 1)).1 = 3 then 1 else 0))) hp0 := fun Q => m_isLast (s := 3) ho hr hk x (by omega)
    by_cases w : 0 < ls.length ∧ x = nI (ls.length - 1) ∧ (C (ls.length - 1)).1 = 3
    · have hlt : ls.length - 1 < ls.length := by omega
      have hat := map_at hmap hlt
      have w2 := w
      rw [hat] at w2
      have w' := eq_true w
      by_cases wt : so_th n t
      · have wt' : (0 ≤ t ∧ t < nI n) = True := eq_true wt
        obtain ⟨j, hj, hje, hjc⟩ := so_th_nat hn.2 wt
        have hce : so_code t z = 2 * j + (if z = 0 then 0 else 1) := by unfold so_code; rw [hjc]
        have hcc : so_code t z < 2 * n := by rw [hce]; split <;> omega
        have hxe := w.2.1
        have e0 : (2 : Int32) * t = nI (2 * j) := by rw [hje]; exact dbl j
        have has0 : ∀ (Q : mj_Q), mj_call 77 [.ref M, .int x, .int (nI (2 * j))] hp0 Q = Q (some (.int (if 2 * j ∈ (C (ls.length - 1)).2 then 1 else 0))) hp0 := fun Q => by rw [hxe]; exact m_has ho hr (by omega) (by omega)
        have has1 : ∀ (Q : mj_Q), mj_call 77 [.ref M, .int x, .int (nI (2 * j + 1))] hp0 Q = Q (some (.int (if 2 * j + 1 ∈ (C (ls.length - 1)).2 then 1 else 0))) hp0 := fun Q => by rw [hxe]; exact m_has ho hr (by omega) (by omega)
        have hboth : so_takes (so_at ls (ls.length - 1)) (so_code t z) ↔ ¬ 2 * j ∈ (C (ls.length - 1)).2 ∧ ¬ 2 * j + 1 ∈ (C (ls.length - 1)).2 := by
          rw [← hat]
          unfold so_takes
          rw [hce]
          by_cases hz : z = 0
          · rw [if_pos hz]
            have : un_neg (2 * j + 0) = 2 * j + 1 := by unfold un_neg; rw [if_pos (by omega)]
            rw [this]
            constructor
            · rintro ⟨q1, q2 | q2⟩
              · exact absurd w.2.2 q2
              · exact ⟨q1, q2⟩
            · rintro ⟨q1, q2⟩; exact ⟨q1, Or.inr q2⟩
          · rw [if_neg hz]
            have : un_neg (2 * j + 1) = 2 * j := by unfold un_neg; rw [if_neg (by omega)]; omega
            rw [this]
            constructor
            · rintro ⟨q1, q2 | q2⟩
              · exact absurd w.2.2 q2
              · exact ⟨q2, q1⟩
            · rintro ⟨q1, q2⟩; exact ⟨q2, Or.inr q1⟩
        by_cases hm : 2 * j ∈ (C (ls.length - 1)).2
        · have hm' := eq_true hm
          rw [sp_if_f (fun q => (hboth.mp q.2.2.2.2).1 hm)] at hQ
          simp only [x_84_0, x_84_1, x_84_2, x_84_5, x_84_6, x_84_7, x_84_8, x_84_11, x_84_14, x_84_15, x_84_16, x_84_19, x_84_22, x_84_23, x_84_24, x_84_25, x_84_26, x_84_27, x_84_30, x_84_33, x_84_34, x_84_35, x_84_36, x_84_37, x_84_38, x_84_39, x_84_40, x_84_43, x_84_46, x_84_47, x_84_48, x_84_49, x_84_50, x_84_51, x_84_52, x_84_55, x_84_58, x_84_59, mw_nx, mw_no, mw_ite, mw_call, mw_ret, mw_cst, mw_ii, mw_i1, mw_ll, mw_l1, mw_li, mw_i2l, mw_l2i, mw_lcm, mw_if, mw_ic, mw_ifnN, mw_ifnR, mw_go, mw_dupi, mw_dupr, mw_popi, mw_popr, mw_nw, mw_rti, mw_rtl, mw_rtr, mw_rtn, mw_rtv, mw_rt0, mw_rt1, mj_ild, mj_lld, mj_ald, mj_ist, mj_lst, mj_ast, mj_inc, mj_iz, mj_get, mj_put, mj_len, mj_iar, mj_aar, mj_iaw, mj_aaw, mj_ivs, mj_ivv, mj_ivi, mj_ob, mj_tk, mj_cat, mj_st1, mj_st2, mj_clr, mj_nwi, mj_nwq, List.getElem?_cons_zero, List.getElem?_cons_succ, List.length_cons, List.length_nil, List.set_cons_zero, List.set_cons_succ, Value.category, decide_eq_true_eq, List.map_cons, List.map_nil, List.sum_cons, List.sum_nil, Option.toList, List.cons_append, List.nil_append, ite_true, ite_false, if_true, if_false, reduceCtorEq, true_and, and_true, narrow_i, narrow_l, narrow_r, narrow_n, fits_i, fits_l, fits_ro, fits_ra, fits_no, fits_na, Nat.reduceAdd, Nat.reduceLT, Nat.reduceLeDiff, Nat.reduceEqDiff, Nat.reduceSub, zero_add0, true_or, or_true, false_or, or_false, not_true_eq_false, not_false_eq_true, eq_self, i10, i01, im0, im1, ho, l0, w', m_isThing t ho, wt', e0, has0, hm']
          exact hQ hp0 hw1.at s0
        · have hm' := eq_false hm
          by_cases hm1 : 2 * j + 1 ∈ (C (ls.length - 1)).2
          · have hm1' := eq_true hm1
            rw [sp_if_f (fun q => (hboth.mp q.2.2.2.2).2 hm1)] at hQ
            simp only [x_84_0, x_84_1, x_84_2, x_84_5, x_84_6, x_84_7, x_84_8, x_84_11, x_84_14, x_84_15, x_84_16, x_84_19, x_84_22, x_84_23, x_84_24, x_84_25, x_84_26, x_84_27, x_84_30, x_84_33, x_84_34, x_84_35, x_84_36, x_84_37, x_84_38, x_84_39, x_84_40, x_84_43, x_84_46, x_84_47, x_84_48, x_84_49, x_84_50, x_84_51, x_84_52, x_84_55, x_84_58, x_84_59, mw_nx, mw_no, mw_ite, mw_call, mw_ret, mw_cst, mw_ii, mw_i1, mw_ll, mw_l1, mw_li, mw_i2l, mw_l2i, mw_lcm, mw_if, mw_ic, mw_ifnN, mw_ifnR, mw_go, mw_dupi, mw_dupr, mw_popi, mw_popr, mw_nw, mw_rti, mw_rtl, mw_rtr, mw_rtn, mw_rtv, mw_rt0, mw_rt1, mj_ild, mj_lld, mj_ald, mj_ist, mj_lst, mj_ast, mj_inc, mj_iz, mj_get, mj_put, mj_len, mj_iar, mj_aar, mj_iaw, mj_aaw, mj_ivs, mj_ivv, mj_ivi, mj_ob, mj_tk, mj_cat, mj_st1, mj_st2, mj_clr, mj_nwi, mj_nwq, List.getElem?_cons_zero, List.getElem?_cons_succ, List.length_cons, List.length_nil, List.set_cons_zero, List.set_cons_succ, Value.category, decide_eq_true_eq, List.map_cons, List.map_nil, List.sum_cons, List.sum_nil, Option.toList, List.cons_append, List.nil_append, ite_true, ite_false, if_true, if_false, reduceCtorEq, true_and, and_true, narrow_i, narrow_l, narrow_r, narrow_n, fits_i, fits_l, fits_ro, fits_ra, fits_no, fits_na, Nat.reduceAdd, Nat.reduceLT, Nat.reduceLeDiff, Nat.reduceEqDiff, Nat.reduceSub, zero_add0, true_or, or_true, false_or, or_false, not_true_eq_false, not_false_eq_true, eq_self, i10, i01, im0, im1, ho, l0, w', m_isThing t ho, wt', e0, has0, hm', nI_1, has1, hm1']
            exact hQ hp0 hw1.at s0
          · have hm1' := eq_false hm1
            have htk := hboth.mpr ⟨hm, hm1⟩
            simp only [x_84_5, x_84_6, x_84_7, x_84_8, x_84_11, x_84_14, x_84_15, x_84_16, x_84_19, x_84_22, x_84_23, x_84_24, x_84_25, x_84_26, x_84_27, x_84_30, x_84_33, x_84_34, x_84_35, x_84_36, x_84_37, x_84_38, x_84_39, x_84_40, x_84_43, x_84_46, x_84_47, x_84_48, x_84_49, x_84_50, x_84_51, x_84_52, x_84_55, mw_nx, mw_no, mw_ite, mw_call, mw_ret, mw_cst, mw_ii, mw_i1, mw_ll, mw_l1, mw_li, mw_i2l, mw_l2i, mw_lcm, mw_if, mw_ic, mw_ifnN, mw_ifnR, mw_go, mw_dupi, mw_dupr, mw_popi, mw_popr, mw_nw, mw_rti, mw_rtl, mw_rtr, mw_rtn, mw_rtv, mw_rt0, mw_rt1, mj_ild, mj_lld, mj_ald, mj_ist, mj_lst, mj_ast, mj_inc, mj_iz, mj_get, mj_put, mj_len, mj_iar, mj_aar, mj_iaw, mj_aaw, mj_ivs, mj_ivv, mj_ivi, mj_ob, mj_tk, mj_cat, mj_st1, mj_st2, mj_clr, mj_nwi, mj_nwq, List.getElem?_cons_zero, List.getElem?_cons_succ, List.length_cons, List.length_nil, List.set_cons_zero, List.set_cons_succ, Value.category, decide_eq_true_eq, List.map_cons, List.map_nil, List.sum_cons, List.sum_nil, Option.toList, List.cons_append, List.nil_append, ite_true, ite_false, if_true, if_false, reduceCtorEq, true_and, and_true, narrow_i, narrow_l, narrow_r, narrow_n, fits_i, fits_l, fits_ro, fits_ra, fits_no, fits_na, Nat.reduceAdd, Nat.reduceLT, Nat.reduceLeDiff, Nat.reduceEqDiff, Nat.reduceSub, zero_add0, true_or, or_true, false_or, or_false, not_true_eq_false, not_false_eq_true, eq_self, i10, i01, im0, im1, ho, l0, w', m_isThing t ho, wt', e0, has0, hm', nI_1, has1, hm1', m_litOf]
            rw [← e0, so_code_e (show j < 2 ^ 31 by omega) hje]
            rw [sp_if_t ⟨w2.1, w2.2.1, w2.2.2, wt, htk⟩] at hQ
            rw [hxe]
            refine m_add ho hr (show ls.length - 1 < 160 by omega) (show so_code t z < 128 by omega) (by rw [hat]; exact htk.1) (fun hp1 r1 s1 => ?_)
            simp only [x_84_58, x_84_59, mw_nx, mw_no, mw_ite, mw_call, mw_ret, mw_cst, mw_ii, mw_i1, mw_ll, mw_l1, mw_li, mw_i2l, mw_l2i, mw_lcm, mw_if, mw_ic, mw_ifnN, mw_ifnR, mw_go, mw_dupi, mw_dupr, mw_popi, mw_popr, mw_nw, mw_rti, mw_rtl, mw_rtr, mw_rtn, mw_rtv, mw_rt0, mw_rt1, mj_ild, mj_lld, mj_ald, mj_ist, mj_lst, mj_ast, mj_inc, mj_iz, mj_get, mj_put, mj_len, mj_iar, mj_aar, mj_iaw, mj_aaw, mj_ivs, mj_ivv, mj_ivi, mj_ob, mj_tk, mj_cat, mj_st1, mj_st2, mj_clr, mj_nwi, mj_nwq, List.getElem?_cons_zero, List.getElem?_cons_succ, List.length_cons, List.length_nil, List.set_cons_zero, List.set_cons_succ, Value.category, decide_eq_true_eq, List.map_cons, List.map_nil, List.sum_cons, List.sum_nil, Option.toList, List.cons_append, List.nil_append, ite_true, ite_false, if_true, if_false, reduceCtorEq, true_and, and_true, narrow_i, narrow_l, narrow_r, narrow_n, fits_i, fits_l, fits_ro, fits_ra, fits_no, fits_na, Nat.reduceAdd, Nat.reduceLT, Nat.reduceLeDiff, Nat.reduceEqDiff, Nat.reduceSub, zero_add0, true_or, or_true, false_or, or_false, not_true_eq_false, not_false_eq_true, eq_self, i10, i01, im0, im1]
            refine hQ hp1 (hw1.ro (s1.mono (by omega) (by omega)) (by unfold so_app; rw [List.length_set, s1.2 _ (by omega)]; exact ho) r1 ?_ ?_ (fun l hl => ?_)).at (s0.tr (s1.mono (by omega) (by omega)))
            · unfold so_app; rw [List.length_set, map_set, hmap, hat]
            · unfold so_app; rw [List.length_set]; exact hk
            · unfold so_app at hl
              rcases List.mem_or_eq_of_mem_set hl with q | q
              · exact hlv l q
              · rw [q]
                exact lv_add (hlv _ (so_at_mem hlt)) hcc htk
      · have wt' : (0 ≤ t ∧ t < nI n) = False := eq_false wt
        rw [sp_if_f (fun q => wt q.2.2.2.1)] at hQ
        simp only [x_84_0, x_84_1, x_84_2, x_84_5, x_84_6, x_84_7, x_84_8, x_84_11, x_84_14, x_84_15, x_84_16, x_84_19, x_84_22, x_84_23, x_84_24, x_84_25, x_84_26, x_84_27, x_84_30, x_84_33, x_84_34, x_84_35, x_84_36, x_84_37, x_84_38, x_84_39, x_84_40, x_84_43, x_84_46, x_84_47, x_84_48, x_84_49, x_84_50, x_84_51, x_84_52, x_84_55, x_84_58, x_84_59, mw_nx, mw_no, mw_ite, mw_call, mw_ret, mw_cst, mw_ii, mw_i1, mw_ll, mw_l1, mw_li, mw_i2l, mw_l2i, mw_lcm, mw_if, mw_ic, mw_ifnN, mw_ifnR, mw_go, mw_dupi, mw_dupr, mw_popi, mw_popr, mw_nw, mw_rti, mw_rtl, mw_rtr, mw_rtn, mw_rtv, mw_rt0, mw_rt1, mj_ild, mj_lld, mj_ald, mj_ist, mj_lst, mj_ast, mj_inc, mj_iz, mj_get, mj_put, mj_len, mj_iar, mj_aar, mj_iaw, mj_aaw, mj_ivs, mj_ivv, mj_ivi, mj_ob, mj_tk, mj_cat, mj_st1, mj_st2, mj_clr, mj_nwi, mj_nwq, List.getElem?_cons_zero, List.getElem?_cons_succ, List.length_cons, List.length_nil, List.set_cons_zero, List.set_cons_succ, Value.category, decide_eq_true_eq, List.map_cons, List.map_nil, List.sum_cons, List.sum_nil, Option.toList, List.cons_append, List.nil_append, ite_true, ite_false, if_true, if_false, reduceCtorEq, true_and, and_true, narrow_i, narrow_l, narrow_r, narrow_n, fits_i, fits_l, fits_ro, fits_ra, fits_no, fits_na, Nat.reduceAdd, Nat.reduceLT, Nat.reduceLeDiff, Nat.reduceEqDiff, Nat.reduceSub, zero_add0, true_or, or_true, false_or, or_false, not_true_eq_false, not_false_eq_true, eq_self, i10, i01, im0, im1, ho, l0, w', m_isThing t ho, wt']
        exact hQ hp0 hw1.at s0
    · have w' := eq_false w
      rw [sp_if_f (fun q => w ⟨q.1, q.2.1, by rw [map_at hmap (by omega)]; exact q.2.2.1⟩)] at hQ
      simp only [x_84_0, x_84_1, x_84_2, x_84_5, x_84_6, x_84_7, x_84_8, x_84_11, x_84_14, x_84_15, x_84_16, x_84_19, x_84_22, x_84_23, x_84_24, x_84_25, x_84_26, x_84_27, x_84_30, x_84_33, x_84_34, x_84_35, x_84_36, x_84_37, x_84_38, x_84_39, x_84_40, x_84_43, x_84_46, x_84_47, x_84_48, x_84_49, x_84_50, x_84_51, x_84_52, x_84_55, x_84_58, x_84_59, mw_nx, mw_no, mw_ite, mw_call, mw_ret, mw_cst, mw_ii, mw_i1, mw_ll, mw_l1, mw_li, mw_i2l, mw_l2i, mw_lcm, mw_if, mw_ic, mw_ifnN, mw_ifnR, mw_go, mw_dupi, mw_dupr, mw_popi, mw_popr, mw_nw, mw_rti, mw_rtl, mw_rtr, mw_rtn, mw_rtv, mw_rt0, mw_rt1, mj_ild, mj_lld, mj_ald, mj_ist, mj_lst, mj_ast, mj_inc, mj_iz, mj_get, mj_put, mj_len, mj_iar, mj_aar, mj_iaw, mj_aaw, mj_ivs, mj_ivv, mj_ivi, mj_ob, mj_tk, mj_cat, mj_st1, mj_st2, mj_clr, mj_nwi, mj_nwq, List.getElem?_cons_zero, List.getElem?_cons_succ, List.length_cons, List.length_nil, List.set_cons_zero, List.set_cons_succ, Value.category, decide_eq_true_eq, List.map_cons, List.map_nil, List.sum_cons, List.sum_nil, Option.toList, List.cons_append, List.nil_append, ite_true, ite_false, if_true, if_false, reduceCtorEq, true_and, and_true, narrow_i, narrow_l, narrow_r, narrow_n, fits_i, fits_l, fits_ro, fits_ra, fits_no, fits_na, Nat.reduceAdd, Nat.reduceLT, Nat.reduceLeDiff, Nat.reduceEqDiff, Nat.reduceSub, zero_add0, true_or, or_true, false_or, or_false, not_true_eq_false, not_false_eq_true, eq_self, i10, i01, im0, im1, ho, l0, w']
      exact hQ hp0 hw1.at s0
  rw [en_84]
  simp only [x_84_0, x_84_1, x_84_2, mw_nx, mw_no, mw_ite, mw_call, mw_ret, mw_cst, mw_ii, mw_i1, mw_ll, mw_l1, mw_li, mw_i2l, mw_l2i, mw_lcm, mw_if, mw_ic, mw_ifnN, mw_ifnR, mw_go, mw_dupi, mw_dupr, mw_popi, mw_popr, mw_nw, mw_rti, mw_rtl, mw_rtr, mw_rtn, mw_rtv, mw_rt0, mw_rt1, mj_ild, mj_lld, mj_ald, mj_ist, mj_lst, mj_ast, mj_inc, mj_iz, mj_get, mj_put, mj_len, mj_iar, mj_aar, mj_iaw, mj_aaw, mj_ivs, mj_ivv, mj_ivi, mj_ob, mj_tk, mj_cat, mj_st1, mj_st2, mj_clr, mj_nwi, mj_nwq, List.getElem?_cons_zero, List.getElem?_cons_succ, List.length_cons, List.length_nil, List.set_cons_zero, List.set_cons_succ, Value.category, decide_eq_true_eq, List.map_cons, List.map_nil, List.sum_cons, List.sum_nil, Option.toList, List.cons_append, List.nil_append, ite_true, ite_false, if_true, if_false, reduceCtorEq, true_and, and_true, narrow_i, narrow_l, narrow_r, narrow_n, fits_i, fits_l, fits_ro, fits_ra, fits_no, fits_na, Nat.reduceAdd, Nat.reduceLT, Nat.reduceLeDiff, Nat.reduceEqDiff, Nat.reduceSub, zero_add0, true_or, or_true, false_or, or_false, not_true_eq_false, not_false_eq_true, eq_self, i10, i01, im0, im1, ho]
  exact body _ hw.th (sm.up (by omega) (by omega))
theorem e_collect (t z : Int32) (h : mo_at hp M s) (hQ : ∀ hp' : mj_H, mo_at hp' M (so_collect t z s).1 → sm hp hp' M (M + 8) → Q (some (.int (so_collect t z s).2)) hp') : mj_call 85 [.ref M, .int t, .int z] hp Q := by
  obtain ⟨a, b, t0, C, hw⟩ := mo_w_of h
  have ho := hw.2.1
  have body : ∀ hp0 : mj_H, mo_w hp0 M a b 0 C s → sm hp hp0 M (M + 8) → mj_wp 85 5 [some (.ref M), some (.int t), some (.int z), none] [] hp0 Q := by
    obtain ⟨n, col, ls, xs⟩ := s
    intro hp0 hw0 s0
    have hw1 := hw0
    obtain ⟨hn, ho, hr, hmap, hk, hlv, hc, hcb, hu, hh⟩ := hw0
    dsimp only at *
    unfold so_collect at hQ
    dsimp only at hQ
    by_cases wt : so_th n t
    · have wt' : (0 ≤ t ∧ t < nI n) = True := eq_true wt
      obtain ⟨j, hj, hje, hjc⟩ := so_th_nat hn.2 wt
      have hcc : so_code t z < 2 * n := by unfold so_code; rw [hjc]; split <;> omega
      have hce := so_code_e (z := z) (show j < 2 ^ 31 by omega) hje
      obtain ⟨fc, c1, c2, c3⟩ := hc
      have hlen := ln_len c3
      simp only [x_85_5, x_85_6, x_85_7, x_85_10, x_85_13, x_85_14, x_85_15, x_85_16, mw_nx, mw_no, mw_ite, mw_call, mw_ret, mw_cst, mw_ii, mw_i1, mw_ll, mw_l1, mw_li, mw_i2l, mw_l2i, mw_lcm, mw_if, mw_ic, mw_ifnN, mw_ifnR, mw_go, mw_dupi, mw_dupr, mw_popi, mw_popr, mw_nw, mw_rti, mw_rtl, mw_rtr, mw_rtn, mw_rtv, mw_rt0, mw_rt1, mj_ild, mj_lld, mj_ald, mj_ist, mj_lst, mj_ast, mj_inc, mj_iz, mj_get, mj_put, mj_len, mj_iar, mj_aar, mj_iaw, mj_aaw, mj_ivs, mj_ivv, mj_ivi, mj_ob, mj_tk, mj_cat, mj_st1, mj_st2, mj_clr, mj_nwi, mj_nwq, List.getElem?_cons_zero, List.getElem?_cons_succ, List.length_cons, List.length_nil, List.set_cons_zero, List.set_cons_succ, Value.category, decide_eq_true_eq, List.map_cons, List.map_nil, List.sum_cons, List.sum_nil, Option.toList, List.cons_append, List.nil_append, ite_true, ite_false, if_true, if_false, reduceCtorEq, true_and, and_true, narrow_i, narrow_l, narrow_r, narrow_n, fits_i, fits_l, fits_ro, fits_ra, fits_no, fits_na, Nat.reduceAdd, Nat.reduceLT, Nat.reduceLeDiff, Nat.reduceEqDiff, Nat.reduceSub, zero_add0, true_or, or_true, false_or, or_false, not_true_eq_false, not_false_eq_true, eq_self, i10, i01, im0, im1, ho, m_isThing t ho, wt']
      have key : ∀ (rest done : List Nat), col = done ++ rest → ¬ so_code t z ∈ done → mj_wp 85 17 [some (.ref M), some (.int t), some (.int z), some (.int (nI done.length))] [] hp0 Q := by
        intro rest
        induction rest with
        | nil =>
          intro done hd hno
          rw [List.append_nil] at hd
          subst hd
          have hl1 := ln_len1 c3 (show so_code t z < 128 by omega) hno
          have e1 : nI col.length ≤ nI col.length := nI_le (Nat.le_refl _) (by omega)
          have i0 : ¬ nI col.length < 0 := nI_pos (by omega)
          have i1 : (nI col.length).toNatClampNeg = col.length := nI_clamp (by omega)
          have i2 : ¬ 128 ≤ col.length := by omega
          rw [sp_if_t ⟨wt, hno⟩] at hQ
          rw [x_85_17]
          simp only [x_85_18, x_85_19, x_85_22, x_85_47, x_85_48, x_85_51, x_85_52, x_85_55, x_85_56, x_85_57, x_85_60, x_85_61, x_85_62, x_85_63, x_85_66, x_85_67, x_85_68, x_85_71, x_85_72, mw_nx, mw_no, mw_ite, mw_call, mw_ret, mw_cst, mw_ii, mw_i1, mw_ll, mw_l1, mw_li, mw_i2l, mw_l2i, mw_lcm, mw_if, mw_ic, mw_ifnN, mw_ifnR, mw_go, mw_dupi, mw_dupr, mw_popi, mw_popr, mw_nw, mw_rti, mw_rtl, mw_rtr, mw_rtn, mw_rtv, mw_rt0, mw_rt1, mj_ild, mj_lld, mj_ald, mj_ist, mj_lst, mj_ast, mj_inc, mj_iz, mj_get, mj_put, mj_len, mj_iar, mj_aar, mj_iaw, mj_aaw, mj_ivs, mj_ivv, mj_ivi, mj_ob, mj_tk, mj_cat, mj_st1, mj_st2, mj_clr, mj_nwi, mj_nwq, List.getElem?_cons_zero, List.getElem?_cons_succ, List.length_cons, List.length_nil, List.set_cons_zero, List.set_cons_succ, Value.category, decide_eq_true_eq, List.map_cons, List.map_nil, List.sum_cons, List.sum_nil, Option.toList, List.cons_append, List.nil_append, ite_true, ite_false, if_true, if_false, reduceCtorEq, true_and, and_true, narrow_i, narrow_l, narrow_r, narrow_n, fits_i, fits_l, fits_ro, fits_ra, fits_no, fits_na, Nat.reduceAdd, Nat.reduceLT, Nat.reduceLeDiff, Nat.reduceEqDiff, Nat.reduceSub, zero_add0, true_or, or_true, false_or, or_false, not_true_eq_false, not_false_eq_true, eq_self, i10, i01, im0, im1, ho, e1, c1, at_0, i0, i1, i2, m_litOf, hce, u_0_1, u_0_2, u_0_3, u_0_4, u_0_5, u_0_6, u_0_7, u_1_0, u_1_2, u_1_3, u_1_4, u_1_5, u_1_6, u_1_7, u_2_0, u_2_1, u_2_3, u_2_4, u_2_5, u_2_6, u_2_7, u_3_0, u_3_1, u_3_2, u_3_4, u_3_5, u_3_6, u_3_7, u_4_0, u_4_1, u_4_2, u_4_3, u_4_5, u_4_6, u_4_7, u_5_0, u_5_1, u_5_2, u_5_3, u_5_4, u_5_6, u_5_7, u_6_0, u_6_1, u_6_2, u_6_3, u_6_4, u_6_5, u_6_7, u_7_0, u_7_1, u_7_2, u_7_3, u_7_4, u_7_5, u_7_6, nI_1]
          refine hQ _ ⟨hn, a, b, 0, C, by rw [mj_up_at]; simp, hr.keep (by rw [u_0_1, u_4_1]) (by rw [u_0_2, u_4_2]) (by rw [u_0_3, u_4_3]), hmap, hk, hlv, ⟨upd fc col.length (nI (so_code t z)), by rw [u_0_4, mj_up_at], fun i hi => ?_, ln_ok_add c3 (by omega) hno⟩, fun c hc2 => ?_, hu.keep (by rw [u_0_5, u_4_5]), hh.keep (by rw [u_0_6, u_4_6]) (by rw [u_0_7, u_4_7])⟩ ((s0.tr (sm.up (by omega) (by omega))).tr (sm.up (by omega) (by omega)))
          · by_cases hi2 : i = col.length
            · subst hi2; rw [upd_at]; simp
            · have hi3 : i < col.length := by simp at hi; omega
              rw [upd_off hi2, c2 i hi3, getD_app_l hi3]
          · rcases List.mem_append.mp hc2 with q | q
            · exact hcb c q
            · rw [List.mem_singleton] at q; rw [q]; exact hcc
        | cons c rest ih =>
          intro done hd hno
          have hlt : done.length < col.length := by rw [hd]; simp
          have hcg : col.getD done.length 0 = c := by rw [hd]; simp [List.getD_eq_getElem?_getD]
          have hc2 : c < 128 := c3.2 c (by rw [hd]; simp)
          have e1 : ¬ nI col.length ≤ nI done.length := nI_ge hlt (by omega)
          have i0 : ¬ nI done.length < 0 := nI_pos (by omega)
          have i1 : (nI done.length).toNatClampNeg = done.length := nI_clamp (by omega)
          have i2 : ¬ 128 ≤ done.length := by omega
          have e2 : fc done.length = nI c := by rw [c2 _ hlt, hcg]
          have e3 : (nI c = nI (so_code t z)) = (c = so_code t z) := propext (nI_eq (by omega) (by omega))
          rw [x_85_17]
          by_cases w : c = so_code t z
          · have q := eq_true w
            rw [sp_if_f (fun z2 => z2.2 (by rw [hd, ← w]; simp))] at hQ
            simp only [x_85_18, x_85_19, x_85_22, x_85_25, x_85_26, x_85_29, x_85_30, x_85_31, x_85_32, x_85_33, x_85_36, x_85_39, x_85_40, mw_nx, mw_no, mw_ite, mw_call, mw_ret, mw_cst, mw_ii, mw_i1, mw_ll, mw_l1, mw_li, mw_i2l, mw_l2i, mw_lcm, mw_if, mw_ic, mw_ifnN, mw_ifnR, mw_go, mw_dupi, mw_dupr, mw_popi, mw_popr, mw_nw, mw_rti, mw_rtl, mw_rtr, mw_rtn, mw_rtv, mw_rt0, mw_rt1, mj_ild, mj_lld, mj_ald, mj_ist, mj_lst, mj_ast, mj_inc, mj_iz, mj_get, mj_put, mj_len, mj_iar, mj_aar, mj_iaw, mj_aaw, mj_ivs, mj_ivv, mj_ivi, mj_ob, mj_tk, mj_cat, mj_st1, mj_st2, mj_clr, mj_nwi, mj_nwq, List.getElem?_cons_zero, List.getElem?_cons_succ, List.length_cons, List.length_nil, List.set_cons_zero, List.set_cons_succ, Value.category, decide_eq_true_eq, List.map_cons, List.map_nil, List.sum_cons, List.sum_nil, Option.toList, List.cons_append, List.nil_append, ite_true, ite_false, if_true, if_false, reduceCtorEq, true_and, and_true, narrow_i, narrow_l, narrow_r, narrow_n, fits_i, fits_l, fits_ro, fits_ra, fits_no, fits_na, Nat.reduceAdd, Nat.reduceLT, Nat.reduceLeDiff, Nat.reduceEqDiff, Nat.reduceSub, zero_add0, true_or, or_true, false_or, or_false, not_true_eq_false, not_false_eq_true, eq_self, i10, i01, im0, im1, ho, e1, c1, at_0, i0, i1, i2, e2, m_litOf, hce, e3, q]
            exact hQ hp0 hw1.at s0
          · have q := eq_false w
            simp only [x_85_18, x_85_19, x_85_22, x_85_25, x_85_26, x_85_29, x_85_30, x_85_31, x_85_32, x_85_33, x_85_36, x_85_39, x_85_40, x_85_41, x_85_44, mw_nx, mw_no, mw_ite, mw_call, mw_ret, mw_cst, mw_ii, mw_i1, mw_ll, mw_l1, mw_li, mw_i2l, mw_l2i, mw_lcm, mw_if, mw_ic, mw_ifnN, mw_ifnR, mw_go, mw_dupi, mw_dupr, mw_popi, mw_popr, mw_nw, mw_rti, mw_rtl, mw_rtr, mw_rtn, mw_rtv, mw_rt0, mw_rt1, mj_ild, mj_lld, mj_ald, mj_ist, mj_lst, mj_ast, mj_inc, mj_iz, mj_get, mj_put, mj_len, mj_iar, mj_aar, mj_iaw, mj_aaw, mj_ivs, mj_ivv, mj_ivi, mj_ob, mj_tk, mj_cat, mj_st1, mj_st2, mj_clr, mj_nwi, mj_nwq, List.getElem?_cons_zero, List.getElem?_cons_succ, List.length_cons, List.length_nil, List.set_cons_zero, List.set_cons_succ, Value.category, decide_eq_true_eq, List.map_cons, List.map_nil, List.sum_cons, List.sum_nil, Option.toList, List.cons_append, List.nil_append, ite_true, ite_false, if_true, if_false, reduceCtorEq, true_and, and_true, narrow_i, narrow_l, narrow_r, narrow_n, fits_i, fits_l, fits_ro, fits_ra, fits_no, fits_na, Nat.reduceAdd, Nat.reduceLT, Nat.reduceLeDiff, Nat.reduceEqDiff, Nat.reduceSub, zero_add0, true_or, or_true, false_or, or_false, not_true_eq_false, not_false_eq_true, eq_self, i10, i01, im0, im1, ho, e1, c1, at_0, i0, i1, i2, e2, m_litOf, hce, e3, q, nI_1]
            have := ih (done ++ [c]) (by rw [hd]; simp) (by
              intro hm
              rcases List.mem_append.mp hm with z2 | z2
              · exact hno z2
              · rw [List.mem_singleton] at z2; exact w z2.symm)
            simpa using this
      exact key col [] rfl List.not_mem_nil
    · have wt' : (0 ≤ t ∧ t < nI n) = False := eq_false wt
      rw [sp_if_f (fun q => wt q.1)] at hQ
      simp only [x_85_5, x_85_6, x_85_7, x_85_10, x_85_13, x_85_14, mw_nx, mw_no, mw_ite, mw_call, mw_ret, mw_cst, mw_ii, mw_i1, mw_ll, mw_l1, mw_li, mw_i2l, mw_l2i, mw_lcm, mw_if, mw_ic, mw_ifnN, mw_ifnR, mw_go, mw_dupi, mw_dupr, mw_popi, mw_popr, mw_nw, mw_rti, mw_rtl, mw_rtr, mw_rtn, mw_rtv, mw_rt0, mw_rt1, mj_ild, mj_lld, mj_ald, mj_ist, mj_lst, mj_ast, mj_inc, mj_iz, mj_get, mj_put, mj_len, mj_iar, mj_aar, mj_iaw, mj_aaw, mj_ivs, mj_ivv, mj_ivi, mj_ob, mj_tk, mj_cat, mj_st1, mj_st2, mj_clr, mj_nwi, mj_nwq, List.getElem?_cons_zero, List.getElem?_cons_succ, List.length_cons, List.length_nil, List.set_cons_zero, List.set_cons_succ, Value.category, decide_eq_true_eq, List.map_cons, List.map_nil, List.sum_cons, List.sum_nil, Option.toList, List.cons_append, List.nil_append, ite_true, ite_false, if_true, if_false, reduceCtorEq, true_and, and_true, narrow_i, narrow_l, narrow_r, narrow_n, fits_i, fits_l, fits_ro, fits_ra, fits_no, fits_na, Nat.reduceAdd, Nat.reduceLT, Nat.reduceLeDiff, Nat.reduceEqDiff, Nat.reduceSub, zero_add0, true_or, or_true, false_or, or_false, not_true_eq_false, not_false_eq_true, eq_self, i10, i01, im0, im1, ho, m_isThing t ho, wt']
      exact hQ hp0 hw1.at s0
  rw [en_85]
  simp only [x_85_0, x_85_1, x_85_2, mw_nx, mw_no, mw_ite, mw_call, mw_ret, mw_cst, mw_ii, mw_i1, mw_ll, mw_l1, mw_li, mw_i2l, mw_l2i, mw_lcm, mw_if, mw_ic, mw_ifnN, mw_ifnR, mw_go, mw_dupi, mw_dupr, mw_popi, mw_popr, mw_nw, mw_rti, mw_rtl, mw_rtr, mw_rtn, mw_rtv, mw_rt0, mw_rt1, mj_ild, mj_lld, mj_ald, mj_ist, mj_lst, mj_ast, mj_inc, mj_iz, mj_get, mj_put, mj_len, mj_iar, mj_aar, mj_iaw, mj_aaw, mj_ivs, mj_ivv, mj_ivi, mj_ob, mj_tk, mj_cat, mj_st1, mj_st2, mj_clr, mj_nwi, mj_nwq, List.getElem?_cons_zero, List.getElem?_cons_succ, List.length_cons, List.length_nil, List.set_cons_zero, List.set_cons_succ, Value.category, decide_eq_true_eq, List.map_cons, List.map_nil, List.sum_cons, List.sum_nil, Option.toList, List.cons_append, List.nil_append, ite_true, ite_false, if_true, if_false, reduceCtorEq, true_and, and_true, narrow_i, narrow_l, narrow_r, narrow_n, fits_i, fits_l, fits_ro, fits_ra, fits_no, fits_na, Nat.reduceAdd, Nat.reduceLT, Nat.reduceLeDiff, Nat.reduceEqDiff, Nat.reduceSub, zero_add0, true_or, or_true, false_or, or_false, not_true_eq_false, not_false_eq_true, eq_self, i10, i01, im0, im1, ho]
  exact body _ hw.th (sm.up (by omega) (by omega))
theorem e_lines (h : mo_at hp M s) (hQ : ∀ hp' : mj_H, mo_at hp' M (so_lines s).1 → sm hp hp' M (M + 8) → Q (some (.int (so_lines s).2)) hp') : mj_call 103 [.ref M] hp Q := by
  obtain ⟨a, b, t0, C, hw⟩ := mo_w_of h
  have ho := hw.2.1
  rw [en_103]
  simp only [x_103_0, x_103_1, x_103_2, x_103_5, x_103_6, x_103_9, mw_nx, mw_no, mw_ite, mw_call, mw_ret, mw_cst, mw_ii, mw_i1, mw_ll, mw_l1, mw_li, mw_i2l, mw_l2i, mw_lcm, mw_if, mw_ic, mw_ifnN, mw_ifnR, mw_go, mw_dupi, mw_dupr, mw_popi, mw_popr, mw_nw, mw_rti, mw_rtl, mw_rtr, mw_rtn, mw_rtv, mw_rt0, mw_rt1, mj_ild, mj_lld, mj_ald, mj_ist, mj_lst, mj_ast, mj_inc, mj_iz, mj_get, mj_put, mj_len, mj_iar, mj_aar, mj_iaw, mj_aaw, mj_ivs, mj_ivv, mj_ivi, mj_ob, mj_tk, mj_cat, mj_st1, mj_st2, mj_clr, mj_nwi, mj_nwq, List.getElem?_cons_zero, List.getElem?_cons_succ, List.length_cons, List.length_nil, List.set_cons_zero, List.set_cons_succ, Value.category, decide_eq_true_eq, List.map_cons, List.map_nil, List.sum_cons, List.sum_nil, Option.toList, List.cons_append, List.nil_append, ite_true, ite_false, if_true, if_false, reduceCtorEq, true_and, and_true, narrow_i, narrow_l, narrow_r, narrow_n, fits_i, fits_l, fits_ro, fits_ra, fits_no, fits_na, Nat.reduceAdd, Nat.reduceLT, Nat.reduceLeDiff, Nat.reduceEqDiff, Nat.reduceSub, zero_add0, true_or, or_true, false_or, or_false, not_true_eq_false, not_false_eq_true, eq_self, i10, i01, im0, im1, ho, mj_up_at]
  exact hQ _ (hw.th (a' := a) (b' := b) (t' := 0)).at (sm.up (by omega) (by omega))
theorem e_kind (x : Int32) (h : mo_at hp M s) (hQ : ∀ hp' : mj_H, mo_at hp' M (so_kind x s).1 → sm hp hp' M (M + 8) → Q (some (.int (so_kind x s).2)) hp') : mj_call 104 [.ref M, .int x] hp Q := by
  obtain ⟨a, b, t0, C, hw⟩ := mo_w_of h
  have ho := hw.2.1
  have hfin := hQ _ (hw.th (a' := a) (b' := b) (t' := 0)).at (sm.up (by omega) (by omega))
  obtain ⟨n, col, ls, xs⟩ := s
  obtain ⟨hn, -, hr, hmap, hk, hlv, hc, hcb, hu, hh⟩ := hw
  obtain ⟨fk, fm, fl, r1, r2, r3, r4⟩ := hr
  dsimp only at *
  unfold so_kind at hfin
  dsimp only at hfin
  rw [en_104]
  by_cases x0 : x < 0
  · have x1 : ¬ (0 ≤ x ∧ x < nI ls.length) := by
      rintro ⟨q, -⟩
      rw [Int32.le_iff_toInt_le] at q; rw [Int32.lt_iff_toInt_lt] at x0; omega
    rw [sp_if_f x1] at hfin
    simp only [x_104_0, x_104_1, x_104_2, x_104_5, x_104_6, x_104_9, x_104_10, x_104_11, x_104_14, x_104_17, x_104_18, x_104_21, x_104_22, x_104_25, x_104_26, x_104_27, mw_nx, mw_no, mw_ite, mw_call, mw_ret, mw_cst, mw_ii, mw_i1, mw_ll, mw_l1, mw_li, mw_i2l, mw_l2i, mw_lcm, mw_if, mw_ic, mw_ifnN, mw_ifnR, mw_go, mw_dupi, mw_dupr, mw_popi, mw_popr, mw_nw, mw_rti, mw_rtl, mw_rtr, mw_rtn, mw_rtv, mw_rt0, mw_rt1, mj_ild, mj_lld, mj_ald, mj_ist, mj_lst, mj_ast, mj_inc, mj_iz, mj_get, mj_put, mj_len, mj_iar, mj_aar, mj_iaw, mj_aaw, mj_ivs, mj_ivv, mj_ivi, mj_ob, mj_tk, mj_cat, mj_st1, mj_st2, mj_clr, mj_nwi, mj_nwq, List.getElem?_cons_zero, List.getElem?_cons_succ, List.length_cons, List.length_nil, List.set_cons_zero, List.set_cons_succ, Value.category, decide_eq_true_eq, List.map_cons, List.map_nil, List.sum_cons, List.sum_nil, Option.toList, List.cons_append, List.nil_append, ite_true, ite_false, if_true, if_false, reduceCtorEq, true_and, and_true, narrow_i, narrow_l, narrow_r, narrow_n, fits_i, fits_l, fits_ro, fits_ra, fits_no, fits_na, Nat.reduceAdd, Nat.reduceLT, Nat.reduceLeDiff, Nat.reduceEqDiff, Nat.reduceSub, zero_add0, true_or, or_true, false_or, or_false, not_true_eq_false, not_false_eq_true, eq_self, i10, i01, im0, im1, ho, x0]
    exact hfin
  · obtain ⟨j, hj, rfl⟩ := nI_of x0
    have e1 : (nI j < nI ls.length) = (j < ls.length) := propext (nI_ltI hj (by omega))
    have i1 : (nI j).toNatClampNeg = j := nI_clamp hj
    by_cases w : j < ls.length
    · have q := eq_true w
      have i2 : ¬ 160 ≤ j := by omega
      rw [sp_if_t ⟨nI_pos' hj, by rw [e1]; exact w⟩, i1, ← map_at hmap w] at hfin
      obtain ⟨a1, -⟩ := r4 j (by omega)
      simp only [x_104_0, x_104_1, x_104_2, x_104_5, x_104_6, x_104_9, x_104_10, x_104_11, x_104_14, x_104_17, x_104_18, x_104_21, x_104_22, x_104_25, x_104_26, x_104_27, mw_nx, mw_no, mw_ite, mw_call, mw_ret, mw_cst, mw_ii, mw_i1, mw_ll, mw_l1, mw_li, mw_i2l, mw_l2i, mw_lcm, mw_if, mw_ic, mw_ifnN, mw_ifnR, mw_go, mw_dupi, mw_dupr, mw_popi, mw_popr, mw_nw, mw_rti, mw_rtl, mw_rtr, mw_rtn, mw_rtv, mw_rt0, mw_rt1, mj_ild, mj_lld, mj_ald, mj_ist, mj_lst, mj_ast, mj_inc, mj_iz, mj_get, mj_put, mj_len, mj_iar, mj_aar, mj_iaw, mj_aaw, mj_ivs, mj_ivv, mj_ivi, mj_ob, mj_tk, mj_cat, mj_st1, mj_st2, mj_clr, mj_nwi, mj_nwq, List.getElem?_cons_zero, List.getElem?_cons_succ, List.length_cons, List.length_nil, List.set_cons_zero, List.set_cons_succ, Value.category, decide_eq_true_eq, List.map_cons, List.map_nil, List.sum_cons, List.sum_nil, Option.toList, List.cons_append, List.nil_append, ite_true, ite_false, if_true, if_false, reduceCtorEq, true_and, and_true, narrow_i, narrow_l, narrow_r, narrow_n, fits_i, fits_l, fits_ro, fits_ra, fits_no, fits_na, Nat.reduceAdd, Nat.reduceLT, Nat.reduceLeDiff, Nat.reduceEqDiff, Nat.reduceSub, zero_add0, true_or, or_true, false_or, or_false, not_true_eq_false, not_false_eq_true, eq_self, i10, i01, im0, im1, ho, x0, mj_up_at, e1, q, u_0_1, u_0_2, u_0_3, u_0_4, u_0_5, u_0_6, u_0_7, u_1_0, u_1_2, u_1_3, u_1_4, u_1_5, u_1_6, u_1_7, u_2_0, u_2_1, u_2_3, u_2_4, u_2_5, u_2_6, u_2_7, u_3_0, u_3_1, u_3_2, u_3_4, u_3_5, u_3_6, u_3_7, u_4_0, u_4_1, u_4_2, u_4_3, u_4_5, u_4_6, u_4_7, u_5_0, u_5_1, u_5_2, u_5_3, u_5_4, u_5_6, u_5_7, u_6_0, u_6_1, u_6_2, u_6_3, u_6_4, u_6_5, u_6_7, u_7_0, u_7_1, u_7_2, u_7_3, u_7_4, u_7_5, u_7_6, r1, at_0, i1, i2, a1]
      exact hfin
    · have q := eq_false w
      rw [sp_if_f (by rw [e1]; exact fun z => w z.2)] at hfin
      simp only [x_104_0, x_104_1, x_104_2, x_104_5, x_104_6, x_104_9, x_104_10, x_104_11, x_104_14, x_104_17, x_104_18, x_104_21, x_104_22, x_104_25, x_104_26, x_104_27, mw_nx, mw_no, mw_ite, mw_call, mw_ret, mw_cst, mw_ii, mw_i1, mw_ll, mw_l1, mw_li, mw_i2l, mw_l2i, mw_lcm, mw_if, mw_ic, mw_ifnN, mw_ifnR, mw_go, mw_dupi, mw_dupr, mw_popi, mw_popr, mw_nw, mw_rti, mw_rtl, mw_rtr, mw_rtn, mw_rtv, mw_rt0, mw_rt1, mj_ild, mj_lld, mj_ald, mj_ist, mj_lst, mj_ast, mj_inc, mj_iz, mj_get, mj_put, mj_len, mj_iar, mj_aar, mj_iaw, mj_aaw, mj_ivs, mj_ivv, mj_ivi, mj_ob, mj_tk, mj_cat, mj_st1, mj_st2, mj_clr, mj_nwi, mj_nwq, List.getElem?_cons_zero, List.getElem?_cons_succ, List.length_cons, List.length_nil, List.set_cons_zero, List.set_cons_succ, Value.category, decide_eq_true_eq, List.map_cons, List.map_nil, List.sum_cons, List.sum_nil, Option.toList, List.cons_append, List.nil_append, ite_true, ite_false, if_true, if_false, reduceCtorEq, true_and, and_true, narrow_i, narrow_l, narrow_r, narrow_n, fits_i, fits_l, fits_ro, fits_ra, fits_no, fits_na, Nat.reduceAdd, Nat.reduceLT, Nat.reduceLeDiff, Nat.reduceEqDiff, Nat.reduceSub, zero_add0, true_or, or_true, false_or, or_false, not_true_eq_false, not_false_eq_true, eq_self, i10, i01, im0, im1, ho, x0, mj_up_at, e1, q]
      exact hfin
theorem e_member (x y : Int32) (h : mo_at hp M s) (hQ : ∀ hp' : mj_H, mo_at hp' M (so_member x y s).1 → sm hp hp' M (M + 8) → Q (some (.int (so_member x y s).2)) hp') : mj_call 105 [.ref M, .int x, .int y] hp Q := by
  obtain ⟨a, b, t0, C, hw⟩ := mo_w_of h
  have ho := hw.2.1
  have hfin := hQ _ (hw.th (a' := a) (b' := b) (t' := 0)).at (sm.up (by omega) (by omega))
  obtain ⟨n, col, ls, xs⟩ := s
  obtain ⟨hn, -, hr, hmap, hk, hlv, hc, hcb, hu, hh⟩ := hw
  obtain ⟨fk, fm, fl, r1, r2, r3, r4⟩ := hr
  dsimp only at *
  unfold so_member at hfin
  dsimp only at hfin
  rw [en_105]
  by_cases x0 : x < 0
  · have x1 : ¬ (0 ≤ x ∧ x < nI ls.length) := by
      rintro ⟨q, -⟩
      rw [Int32.le_iff_toInt_le] at q; rw [Int32.lt_iff_toInt_lt] at x0; omega
    rw [sp_if_f (fun q => x1 q.1)] at hfin
    simp only [x_105_0, x_105_1, x_105_2, x_105_5, x_105_6, x_105_9, x_105_10, x_105_11, x_105_14, x_105_17, x_105_18, x_105_21, x_105_22, x_105_23, x_105_26, x_105_27, x_105_28, x_105_31, x_105_32, x_105_35, x_105_36, x_105_39, x_105_42, x_105_43, x_105_44, x_105_45, x_105_46, x_105_47, mw_nx, mw_no, mw_ite, mw_call, mw_ret, mw_cst, mw_ii, mw_i1, mw_ll, mw_l1, mw_li, mw_i2l, mw_l2i, mw_lcm, mw_if, mw_ic, mw_ifnN, mw_ifnR, mw_go, mw_dupi, mw_dupr, mw_popi, mw_popr, mw_nw, mw_rti, mw_rtl, mw_rtr, mw_rtn, mw_rtv, mw_rt0, mw_rt1, mj_ild, mj_lld, mj_ald, mj_ist, mj_lst, mj_ast, mj_inc, mj_iz, mj_get, mj_put, mj_len, mj_iar, mj_aar, mj_iaw, mj_aaw, mj_ivs, mj_ivv, mj_ivi, mj_ob, mj_tk, mj_cat, mj_st1, mj_st2, mj_clr, mj_nwi, mj_nwq, List.getElem?_cons_zero, List.getElem?_cons_succ, List.length_cons, List.length_nil, List.set_cons_zero, List.set_cons_succ, Value.category, decide_eq_true_eq, List.map_cons, List.map_nil, List.sum_cons, List.sum_nil, Option.toList, List.cons_append, List.nil_append, ite_true, ite_false, if_true, if_false, reduceCtorEq, true_and, and_true, narrow_i, narrow_l, narrow_r, narrow_n, fits_i, fits_l, fits_ro, fits_ra, fits_no, fits_na, Nat.reduceAdd, Nat.reduceLT, Nat.reduceLeDiff, Nat.reduceEqDiff, Nat.reduceSub, zero_add0, true_or, or_true, false_or, or_false, not_true_eq_false, not_false_eq_true, eq_self, i10, i01, im0, im1, ho, x0]
    exact hfin
  · obtain ⟨j, hj, rfl⟩ := nI_of x0
    have e1 : (nI ls.length ≤ nI j) = (ls.length ≤ j) := propext (nI_leI (by omega) hj)
    have e1' : (nI j < nI ls.length) = (j < ls.length) := propext (nI_ltI hj (by omega))
    have i1 : (nI j).toNatClampNeg = j := nI_clamp hj
    by_cases w : j < ls.length
    · have q : (ls.length ≤ j) = False := eq_false (by omega)
      have i2 : ¬ 160 ≤ j := by omega
      rw [i1, ← map_at hmap w] at hfin
      obtain ⟨a1, a2, a3, a4, a5⟩ := r4 j (by omega)
      have hlen := ln_len a4
      by_cases y0 : y < 0
      · have y1 : ¬ (0 ≤ y ∧ y < nI (C j).2.length) := by
          rintro ⟨q, -⟩
          rw [Int32.le_iff_toInt_le] at q; rw [Int32.lt_iff_toInt_lt] at y0; omega
        rw [sp_if_f (fun q => y1 q.2)] at hfin
        simp only [x_105_0, x_105_1, x_105_2, x_105_5, x_105_6, x_105_9, x_105_10, x_105_11, x_105_14, x_105_17, x_105_18, x_105_21, x_105_22, x_105_23, x_105_26, x_105_27, x_105_28, x_105_31, x_105_32, x_105_35, x_105_36, x_105_39, x_105_42, x_105_43, x_105_44, x_105_45, x_105_46, x_105_47, mw_nx, mw_no, mw_ite, mw_call, mw_ret, mw_cst, mw_ii, mw_i1, mw_ll, mw_l1, mw_li, mw_i2l, mw_l2i, mw_lcm, mw_if, mw_ic, mw_ifnN, mw_ifnR, mw_go, mw_dupi, mw_dupr, mw_popi, mw_popr, mw_nw, mw_rti, mw_rtl, mw_rtr, mw_rtn, mw_rtv, mw_rt0, mw_rt1, mj_ild, mj_lld, mj_ald, mj_ist, mj_lst, mj_ast, mj_inc, mj_iz, mj_get, mj_put, mj_len, mj_iar, mj_aar, mj_iaw, mj_aaw, mj_ivs, mj_ivv, mj_ivi, mj_ob, mj_tk, mj_cat, mj_st1, mj_st2, mj_clr, mj_nwi, mj_nwq, List.getElem?_cons_zero, List.getElem?_cons_succ, List.length_cons, List.length_nil, List.set_cons_zero, List.set_cons_succ, Value.category, decide_eq_true_eq, List.map_cons, List.map_nil, List.sum_cons, List.sum_nil, Option.toList, List.cons_append, List.nil_append, ite_true, ite_false, if_true, if_false, reduceCtorEq, true_and, and_true, narrow_i, narrow_l, narrow_r, narrow_n, fits_i, fits_l, fits_ro, fits_ra, fits_no, fits_na, Nat.reduceAdd, Nat.reduceLT, Nat.reduceLeDiff, Nat.reduceEqDiff, Nat.reduceSub, zero_add0, true_or, or_true, false_or, or_false, not_true_eq_false, not_false_eq_true, eq_self, i10, i01, im0, im1, ho, x0, mj_up_at, e1, q, y0]
        exact hfin
      · obtain ⟨i, hi, rfl⟩ := nI_of y0
        have e2 : (nI i < nI (C j).2.length) = (i < (C j).2.length) := propext (nI_ltI hi (by omega))
        have k1 : (nI i).toNatClampNeg = i := nI_clamp hi
        by_cases w2 : i < (C j).2.length
        · have q2 := eq_true w2
          rw [sp_if_t ⟨⟨nI_pos' hj, by rw [e1']; exact w⟩, nI_pos' hi, by rw [e2]; exact w2⟩, k1] at hfin
          have j0 : ¬ nI (128 * j + i) < 0 := nI_pos (by omega)
          have j1 : (nI (128 * j + i)).toNatClampNeg = 128 * j + i := nI_clamp (by omega)
          have j2 : ¬ 20480 ≤ 128 * j + i := by omega
          simp only [x_105_0, x_105_1, x_105_2, x_105_5, x_105_6, x_105_9, x_105_10, x_105_11, x_105_14, x_105_17, x_105_18, x_105_21, x_105_22, x_105_23, x_105_26, x_105_27, x_105_28, x_105_31, x_105_32, x_105_35, x_105_36, x_105_39, x_105_42, x_105_43, x_105_44, x_105_45, x_105_46, x_105_47, mw_nx, mw_no, mw_ite, mw_call, mw_ret, mw_cst, mw_ii, mw_i1, mw_ll, mw_l1, mw_li, mw_i2l, mw_l2i, mw_lcm, mw_if, mw_ic, mw_ifnN, mw_ifnR, mw_go, mw_dupi, mw_dupr, mw_popi, mw_popr, mw_nw, mw_rti, mw_rtl, mw_rtr, mw_rtn, mw_rtv, mw_rt0, mw_rt1, mj_ild, mj_lld, mj_ald, mj_ist, mj_lst, mj_ast, mj_inc, mj_iz, mj_get, mj_put, mj_len, mj_iar, mj_aar, mj_iaw, mj_aaw, mj_ivs, mj_ivv, mj_ivi, mj_ob, mj_tk, mj_cat, mj_st1, mj_st2, mj_clr, mj_nwi, mj_nwq, List.getElem?_cons_zero, List.getElem?_cons_succ, List.length_cons, List.length_nil, List.set_cons_zero, List.set_cons_succ, Value.category, decide_eq_true_eq, List.map_cons, List.map_nil, List.sum_cons, List.sum_nil, Option.toList, List.cons_append, List.nil_append, ite_true, ite_false, if_true, if_false, reduceCtorEq, true_and, and_true, narrow_i, narrow_l, narrow_r, narrow_n, fits_i, fits_l, fits_ro, fits_ra, fits_no, fits_na, Nat.reduceAdd, Nat.reduceLT, Nat.reduceLeDiff, Nat.reduceEqDiff, Nat.reduceSub, zero_add0, true_or, or_true, false_or, or_false, not_true_eq_false, not_false_eq_true, eq_self, i10, i01, im0, im1, ho, x0, mj_up_at, e1, q, y0, u_0_1, u_0_2, u_0_3, u_0_4, u_0_5, u_0_6, u_0_7, u_1_0, u_1_2, u_1_3, u_1_4, u_1_5, u_1_6, u_1_7, u_2_0, u_2_1, u_2_3, u_2_4, u_2_5, u_2_6, u_2_7, u_3_0, u_3_1, u_3_2, u_3_4, u_3_5, u_3_6, u_3_7, u_4_0, u_4_1, u_4_2, u_4_3, u_4_5, u_4_6, u_4_7, u_5_0, u_5_1, u_5_2, u_5_3, u_5_4, u_5_6, u_5_7, u_6_0, u_6_1, u_6_2, u_6_3, u_6_4, u_6_5, u_6_7, u_7_0, u_7_1, u_7_2, u_7_3, u_7_4, u_7_5, u_7_6, r2, r3, at_0, i1, i2, a2, e2, q2, ix128, j0, j1, j2, a3 i w2]
          exact hfin
        · have q2 := eq_false w2
          rw [sp_if_f (by rw [e2]; exact fun z => w2 z.2.2)] at hfin
          simp only [x_105_0, x_105_1, x_105_2, x_105_5, x_105_6, x_105_9, x_105_10, x_105_11, x_105_14, x_105_17, x_105_18, x_105_21, x_105_22, x_105_23, x_105_26, x_105_27, x_105_28, x_105_31, x_105_32, x_105_35, x_105_36, x_105_39, x_105_42, x_105_43, x_105_44, x_105_45, x_105_46, x_105_47, mw_nx, mw_no, mw_ite, mw_call, mw_ret, mw_cst, mw_ii, mw_i1, mw_ll, mw_l1, mw_li, mw_i2l, mw_l2i, mw_lcm, mw_if, mw_ic, mw_ifnN, mw_ifnR, mw_go, mw_dupi, mw_dupr, mw_popi, mw_popr, mw_nw, mw_rti, mw_rtl, mw_rtr, mw_rtn, mw_rtv, mw_rt0, mw_rt1, mj_ild, mj_lld, mj_ald, mj_ist, mj_lst, mj_ast, mj_inc, mj_iz, mj_get, mj_put, mj_len, mj_iar, mj_aar, mj_iaw, mj_aaw, mj_ivs, mj_ivv, mj_ivi, mj_ob, mj_tk, mj_cat, mj_st1, mj_st2, mj_clr, mj_nwi, mj_nwq, List.getElem?_cons_zero, List.getElem?_cons_succ, List.length_cons, List.length_nil, List.set_cons_zero, List.set_cons_succ, Value.category, decide_eq_true_eq, List.map_cons, List.map_nil, List.sum_cons, List.sum_nil, Option.toList, List.cons_append, List.nil_append, ite_true, ite_false, if_true, if_false, reduceCtorEq, true_and, and_true, narrow_i, narrow_l, narrow_r, narrow_n, fits_i, fits_l, fits_ro, fits_ra, fits_no, fits_na, Nat.reduceAdd, Nat.reduceLT, Nat.reduceLeDiff, Nat.reduceEqDiff, Nat.reduceSub, zero_add0, true_or, or_true, false_or, or_false, not_true_eq_false, not_false_eq_true, eq_self, i10, i01, im0, im1, ho, x0, mj_up_at, e1, q, y0, u_0_1, u_0_2, u_0_3, u_0_4, u_0_5, u_0_6, u_0_7, u_1_0, u_1_2, u_1_3, u_1_4, u_1_5, u_1_6, u_1_7, u_2_0, u_2_1, u_2_3, u_2_4, u_2_5, u_2_6, u_2_7, u_3_0, u_3_1, u_3_2, u_3_4, u_3_5, u_3_6, u_3_7, u_4_0, u_4_1, u_4_2, u_4_3, u_4_5, u_4_6, u_4_7, u_5_0, u_5_1, u_5_2, u_5_3, u_5_4, u_5_6, u_5_7, u_6_0, u_6_1, u_6_2, u_6_3, u_6_4, u_6_5, u_6_7, u_7_0, u_7_1, u_7_2, u_7_3, u_7_4, u_7_5, u_7_6, r2, at_0, i1, i2, a2, e2, q2]
          exact hfin
    · have q : (ls.length ≤ j) = True := eq_true (by omega)
      rw [sp_if_f (by rw [e1']; exact fun z => w z.1.2)] at hfin
      simp only [x_105_0, x_105_1, x_105_2, x_105_5, x_105_6, x_105_9, x_105_10, x_105_11, x_105_14, x_105_17, x_105_18, x_105_21, x_105_22, x_105_23, x_105_26, x_105_27, x_105_28, x_105_31, x_105_32, x_105_35, x_105_36, x_105_39, x_105_42, x_105_43, x_105_44, x_105_45, x_105_46, x_105_47, mw_nx, mw_no, mw_ite, mw_call, mw_ret, mw_cst, mw_ii, mw_i1, mw_ll, mw_l1, mw_li, mw_i2l, mw_l2i, mw_lcm, mw_if, mw_ic, mw_ifnN, mw_ifnR, mw_go, mw_dupi, mw_dupr, mw_popi, mw_popr, mw_nw, mw_rti, mw_rtl, mw_rtr, mw_rtn, mw_rtv, mw_rt0, mw_rt1, mj_ild, mj_lld, mj_ald, mj_ist, mj_lst, mj_ast, mj_inc, mj_iz, mj_get, mj_put, mj_len, mj_iar, mj_aar, mj_iaw, mj_aaw, mj_ivs, mj_ivv, mj_ivi, mj_ob, mj_tk, mj_cat, mj_st1, mj_st2, mj_clr, mj_nwi, mj_nwq, List.getElem?_cons_zero, List.getElem?_cons_succ, List.length_cons, List.length_nil, List.set_cons_zero, List.set_cons_succ, Value.category, decide_eq_true_eq, List.map_cons, List.map_nil, List.sum_cons, List.sum_nil, Option.toList, List.cons_append, List.nil_append, ite_true, ite_false, if_true, if_false, reduceCtorEq, true_and, and_true, narrow_i, narrow_l, narrow_r, narrow_n, fits_i, fits_l, fits_ro, fits_ra, fits_no, fits_na, Nat.reduceAdd, Nat.reduceLT, Nat.reduceLeDiff, Nat.reduceEqDiff, Nat.reduceSub, zero_add0, true_or, or_true, false_or, or_false, not_true_eq_false, not_false_eq_true, eq_self, i10, i01, im0, im1, ho, x0, mj_up_at, e1, q]
      exact hfin
theorem e_unit (u : Int32) (h : mo_at hp M s) (hQ : ∀ hp' : mj_H, mo_at hp' M (so_unit u s).1 → sm hp hp' M (M + 8) → Q (some (.int (so_unit u s).2)) hp') : mj_call 111 [.ref M, .int u] hp Q := by
  obtain ⟨a, b, t0, C, hw⟩ := mo_w_of h
  have ho := hw.2.1
  have body : ∀ hp0 : mj_H, mo_w hp0 M a b 0 C s → sm hp hp0 M (M + 8) → mj_wp 111 5 [some (.ref M), some (.int u)] [] hp0 Q := by
    obtain ⟨n, col, ls, xs⟩ := s
    intro hp0 hw0 s0
    have hw1 := hw0
    obtain ⟨hn, ho, hr, hmap, hk, hlv, hc, hcb, hu, hh⟩ := hw0
    dsimp only at *
    unfold so_unit at hQ
    dsimp only at hQ
    obtain ⟨fu, u1, u2, u3, u4⟩ := hu
    by_cases x0 : u < 0
    · rw [sp_if_f (by
        rintro ⟨q, -⟩
        rw [Int32.le_iff_toInt_le] at q; rw [Int32.lt_iff_toInt_lt] at x0; omega)] at hQ
      simp only [x_111_5, x_111_6, x_111_9, x_111_10, x_111_13, x_111_16, x_111_17, x_111_20, x_111_23, x_111_26, x_111_27, mw_nx, mw_no, mw_ite, mw_call, mw_ret, mw_cst, mw_ii, mw_i1, mw_ll, mw_l1, mw_li, mw_i2l, mw_l2i, mw_lcm, mw_if, mw_ic, mw_ifnN, mw_ifnR, mw_go, mw_dupi, mw_dupr, mw_popi, mw_popr, mw_nw, mw_rti, mw_rtl, mw_rtr, mw_rtn, mw_rtv, mw_rt0, mw_rt1, mj_ild, mj_lld, mj_ald, mj_ist, mj_lst, mj_ast, mj_inc, mj_iz, mj_get, mj_put, mj_len, mj_iar, mj_aar, mj_iaw, mj_aaw, mj_ivs, mj_ivv, mj_ivi, mj_ob, mj_tk, mj_cat, mj_st1, mj_st2, mj_clr, mj_nwi, mj_nwq, List.getElem?_cons_zero, List.getElem?_cons_succ, List.length_cons, List.length_nil, List.set_cons_zero, List.set_cons_succ, Value.category, decide_eq_true_eq, List.map_cons, List.map_nil, List.sum_cons, List.sum_nil, Option.toList, List.cons_append, List.nil_append, ite_true, ite_false, if_true, if_false, reduceCtorEq, true_and, and_true, narrow_i, narrow_l, narrow_r, narrow_n, fits_i, fits_l, fits_ro, fits_ra, fits_no, fits_na, Nat.reduceAdd, Nat.reduceLT, Nat.reduceLeDiff, Nat.reduceEqDiff, Nat.reduceSub, zero_add0, true_or, or_true, false_or, or_false, not_true_eq_false, not_false_eq_true, eq_self, i10, i01, im0, im1, x0]
      exact hQ hp0 hw1.at s0
    · by_cases x1 : 255 < u
      · rw [sp_if_f (by
          rintro ⟨-, q, -⟩
          rw [Int32.le_iff_toInt_le] at q; rw [Int32.lt_iff_toInt_lt] at x1; omega)] at hQ
        simp only [x_111_5, x_111_6, x_111_9, x_111_10, x_111_13, x_111_16, x_111_17, x_111_20, x_111_23, x_111_26, x_111_27, mw_nx, mw_no, mw_ite, mw_call, mw_ret, mw_cst, mw_ii, mw_i1, mw_ll, mw_l1, mw_li, mw_i2l, mw_l2i, mw_lcm, mw_if, mw_ic, mw_ifnN, mw_ifnR, mw_go, mw_dupi, mw_dupr, mw_popi, mw_popr, mw_nw, mw_rti, mw_rtl, mw_rtr, mw_rtn, mw_rtv, mw_rt0, mw_rt1, mj_ild, mj_lld, mj_ald, mj_ist, mj_lst, mj_ast, mj_inc, mj_iz, mj_get, mj_put, mj_len, mj_iar, mj_aar, mj_iaw, mj_aaw, mj_ivs, mj_ivv, mj_ivi, mj_ob, mj_tk, mj_cat, mj_st1, mj_st2, mj_clr, mj_nwi, mj_nwq, List.getElem?_cons_zero, List.getElem?_cons_succ, List.length_cons, List.length_nil, List.set_cons_zero, List.set_cons_succ, Value.category, decide_eq_true_eq, List.map_cons, List.map_nil, List.sum_cons, List.sum_nil, Option.toList, List.cons_append, List.nil_append, ite_true, ite_false, if_true, if_false, reduceCtorEq, true_and, and_true, narrow_i, narrow_l, narrow_r, narrow_n, fits_i, fits_l, fits_ro, fits_ra, fits_no, fits_na, Nat.reduceAdd, Nat.reduceLT, Nat.reduceLeDiff, Nat.reduceEqDiff, Nat.reduceSub, zero_add0, true_or, or_true, false_or, or_false, not_true_eq_false, not_false_eq_true, eq_self, i10, i01, im0, im1, x0, x1]
        exact hQ hp0 hw1.at s0
      · have e1 : (nI xs.length = 4000) = (xs.length = 4000) := propext (nI_eq (b := 4000) (by omega) (by omega))
        by_cases w : xs.length = 4000
        · have q := eq_true w
          rw [sp_if_f (fun z => by omega)] at hQ
          simp only [x_111_5, x_111_6, x_111_9, x_111_10, x_111_13, x_111_16, x_111_17, x_111_20, x_111_23, x_111_26, x_111_27, mw_nx, mw_no, mw_ite, mw_call, mw_ret, mw_cst, mw_ii, mw_i1, mw_ll, mw_l1, mw_li, mw_i2l, mw_l2i, mw_lcm, mw_if, mw_ic, mw_ifnN, mw_ifnR, mw_go, mw_dupi, mw_dupr, mw_popi, mw_popr, mw_nw, mw_rti, mw_rtl, mw_rtr, mw_rtn, mw_rtv, mw_rt0, mw_rt1, mj_ild, mj_lld, mj_ald, mj_ist, mj_lst, mj_ast, mj_inc, mj_iz, mj_get, mj_put, mj_len, mj_iar, mj_aar, mj_iaw, mj_aaw, mj_ivs, mj_ivv, mj_ivi, mj_ob, mj_tk, mj_cat, mj_st1, mj_st2, mj_clr, mj_nwi, mj_nwq, List.getElem?_cons_zero, List.getElem?_cons_succ, List.length_cons, List.length_nil, List.set_cons_zero, List.set_cons_succ, Value.category, decide_eq_true_eq, List.map_cons, List.map_nil, List.sum_cons, List.sum_nil, Option.toList, List.cons_append, List.nil_append, ite_true, ite_false, if_true, if_false, reduceCtorEq, true_and, and_true, narrow_i, narrow_l, narrow_r, narrow_n, fits_i, fits_l, fits_ro, fits_ra, fits_no, fits_na, Nat.reduceAdd, Nat.reduceLT, Nat.reduceLeDiff, Nat.reduceEqDiff, Nat.reduceSub, zero_add0, true_or, or_true, false_or, or_false, not_true_eq_false, not_false_eq_true, eq_self, i10, i01, im0, im1, ho, x0, x1, e1, q]
          exact hQ hp0 hw1.at s0
        · have q := eq_false w
          have y0 : 0 ≤ u := by rw [Int32.le_iff_toInt_le]; rw [Int32.lt_iff_toInt_lt] at x0; omega
          have y1 : u ≤ 255 := by rw [Int32.le_iff_toInt_le]; rw [Int32.lt_iff_toInt_lt] at x1; omega
          obtain ⟨j, hj, rfl⟩ := nI_of2 (M := 255) (n := 255) (by decide) x0 y1
          rw [sp_if_t ⟨y0, y1, by omega⟩, nI_clamp (by omega)] at hQ
          have i0 : ¬ nI xs.length < 0 := nI_pos (by omega)
          have i1 : (nI xs.length).toNatClampNeg = xs.length := nI_clamp (by omega)
          have i2 : ¬ 4000 ≤ xs.length := by omega
          simp only [x_111_5, x_111_6, x_111_9, x_111_10, x_111_13, x_111_16, x_111_17, x_111_20, x_111_23, x_111_26, x_111_27, x_111_28, x_111_29, x_111_32, x_111_33, x_111_36, x_111_37, x_111_38, x_111_39, x_111_40, x_111_43, x_111_44, x_111_45, x_111_48, x_111_49, mw_nx, mw_no, mw_ite, mw_call, mw_ret, mw_cst, mw_ii, mw_i1, mw_ll, mw_l1, mw_li, mw_i2l, mw_l2i, mw_lcm, mw_if, mw_ic, mw_ifnN, mw_ifnR, mw_go, mw_dupi, mw_dupr, mw_popi, mw_popr, mw_nw, mw_rti, mw_rtl, mw_rtr, mw_rtn, mw_rtv, mw_rt0, mw_rt1, mj_ild, mj_lld, mj_ald, mj_ist, mj_lst, mj_ast, mj_inc, mj_iz, mj_get, mj_put, mj_len, mj_iar, mj_aar, mj_iaw, mj_aaw, mj_ivs, mj_ivv, mj_ivi, mj_ob, mj_tk, mj_cat, mj_st1, mj_st2, mj_clr, mj_nwi, mj_nwq, List.getElem?_cons_zero, List.getElem?_cons_succ, List.length_cons, List.length_nil, List.set_cons_zero, List.set_cons_succ, Value.category, decide_eq_true_eq, List.map_cons, List.map_nil, List.sum_cons, List.sum_nil, Option.toList, List.cons_append, List.nil_append, ite_true, ite_false, if_true, if_false, reduceCtorEq, true_and, and_true, narrow_i, narrow_l, narrow_r, narrow_n, fits_i, fits_l, fits_ro, fits_ra, fits_no, fits_na, Nat.reduceAdd, Nat.reduceLT, Nat.reduceLeDiff, Nat.reduceEqDiff, Nat.reduceSub, zero_add0, true_or, or_true, false_or, or_false, not_true_eq_false, not_false_eq_true, eq_self, i10, i01, im0, im1, ho, x0, x1, e1, q, u1, at_0, i0, i1, i2, u_0_1, u_0_2, u_0_3, u_0_4, u_0_5, u_0_6, u_0_7, u_1_0, u_1_2, u_1_3, u_1_4, u_1_5, u_1_6, u_1_7, u_2_0, u_2_1, u_2_3, u_2_4, u_2_5, u_2_6, u_2_7, u_3_0, u_3_1, u_3_2, u_3_4, u_3_5, u_3_6, u_3_7, u_4_0, u_4_1, u_4_2, u_4_3, u_4_5, u_4_6, u_4_7, u_5_0, u_5_1, u_5_2, u_5_3, u_5_4, u_5_6, u_5_7, u_6_0, u_6_1, u_6_2, u_6_3, u_6_4, u_6_5, u_6_7, u_7_0, u_7_1, u_7_2, u_7_3, u_7_4, u_7_5, u_7_6, nI_1]
          refine hQ _ ⟨hn, a, b, 0, C, by rw [mj_up_at]; simp, hr.keep (by rw [u_0_1, u_5_1]) (by rw [u_0_2, u_5_2]) (by rw [u_0_3, u_5_3]), hmap, hk, hlv, hc.keep (by rw [u_0_4, u_5_4]), hcb, ⟨upd fu xs.length (nI j), by rw [u_0_5, mj_up_at], fun i hi => ?_, by simp; omega, fun c hc2 => ?_⟩, hh.keep (by rw [u_0_6, u_5_6]) (by rw [u_0_7, u_5_7])⟩ ((s0.tr (sm.up (by omega) (by omega))).tr (sm.up (by omega) (by omega)))
          · by_cases hi2 : i = xs.length
            · subst hi2; rw [upd_at]; simp
            · have hi3 : i < xs.length := by simp at hi; omega
              rw [upd_off hi2, u2 i hi3, getD_app_l hi3]
          · rcases List.mem_append.mp hc2 with z | z
            · exact u4 c z
            · rw [List.mem_singleton] at z; omega
  rw [en_111]
  simp only [x_111_0, x_111_1, x_111_2, mw_nx, mw_no, mw_ite, mw_call, mw_ret, mw_cst, mw_ii, mw_i1, mw_ll, mw_l1, mw_li, mw_i2l, mw_l2i, mw_lcm, mw_if, mw_ic, mw_ifnN, mw_ifnR, mw_go, mw_dupi, mw_dupr, mw_popi, mw_popr, mw_nw, mw_rti, mw_rtl, mw_rtr, mw_rtn, mw_rtv, mw_rt0, mw_rt1, mj_ild, mj_lld, mj_ald, mj_ist, mj_lst, mj_ast, mj_inc, mj_iz, mj_get, mj_put, mj_len, mj_iar, mj_aar, mj_iaw, mj_aaw, mj_ivs, mj_ivv, mj_ivi, mj_ob, mj_tk, mj_cat, mj_st1, mj_st2, mj_clr, mj_nwi, mj_nwq, List.getElem?_cons_zero, List.getElem?_cons_succ, List.length_cons, List.length_nil, List.set_cons_zero, List.set_cons_succ, Value.category, decide_eq_true_eq, List.map_cons, List.map_nil, List.sum_cons, List.sum_nil, Option.toList, List.cons_append, List.nil_append, ite_true, ite_false, if_true, if_false, reduceCtorEq, true_and, and_true, narrow_i, narrow_l, narrow_r, narrow_n, fits_i, fits_l, fits_ro, fits_ra, fits_no, fits_na, Nat.reduceAdd, Nat.reduceLT, Nat.reduceLeDiff, Nat.reduceEqDiff, Nat.reduceSub, zero_add0, true_or, or_true, false_or, or_false, not_true_eq_false, not_false_eq_true, eq_self, i10, i01, im0, im1, ho]
  exact body _ hw.th (sm.up (by omega) (by omega))
theorem e_learn (h : mo_at hp M s) (hQ : ∀ hp' : mj_H, mo_at hp' M (so_learn s).1 → sm hp hp' M (M + 8) → Q (some (.int (so_learn s).2)) hp') : mj_call 86 [.ref M] hp Q := by
  obtain ⟨a, b, t0, C, hw⟩ := mo_w_of h
  have ho := hw.2.1
  have body : ∀ hp0 : mj_H, mo_w hp0 M a b 0 C s → sm hp hp0 M (M + 8) → mj_wp 86 5 [some (.ref M), none, none] [] hp0 Q := by
    obtain ⟨n, col, ls, xs⟩ := s
    intro hp0 hw0 s0
    have hw1 := hw0
    obtain ⟨hn, ho, hr, hmap, hk, hlv, hc, hcb, hu, hh⟩ := hw0
    dsimp only at *
    unfold so_learn at hQ
    dsimp only at hQ
    simp only [x_86_5, x_86_6, x_86_7, mw_nx, mw_no, mw_ite, mw_call, mw_ret, mw_cst, mw_ii, mw_i1, mw_ll, mw_l1, mw_li, mw_i2l, mw_l2i, mw_lcm, mw_if, mw_ic, mw_ifnN, mw_ifnR, mw_go, mw_dupi, mw_dupr, mw_popi, mw_popr, mw_nw, mw_rti, mw_rtl, mw_rtr, mw_rtn, mw_rtv, mw_rt0, mw_rt1, mj_ild, mj_lld, mj_ald, mj_ist, mj_lst, mj_ast, mj_inc, mj_iz, mj_get, mj_put, mj_len, mj_iar, mj_aar, mj_iaw, mj_aaw, mj_ivs, mj_ivv, mj_ivi, mj_ob, mj_tk, mj_cat, mj_st1, mj_st2, mj_clr, mj_nwi, mj_nwq, List.getElem?_cons_zero, List.getElem?_cons_succ, List.length_cons, List.length_nil, List.set_cons_zero, List.set_cons_succ, Value.category, decide_eq_true_eq, List.map_cons, List.map_nil, List.sum_cons, List.sum_nil, Option.toList, List.cons_append, List.nil_append, ite_true, ite_false, if_true, if_false, reduceCtorEq, true_and, and_true, narrow_i, narrow_l, narrow_r, narrow_n, fits_i, fits_l, fits_ro, fits_ra, fits_no, fits_na, Nat.reduceAdd, Nat.reduceLT, Nat.reduceLeDiff, Nat.reduceEqDiff, Nat.reduceSub, zero_add0, true_or, or_true, false_or, or_false, not_true_eq_false, not_false_eq_true, eq_self, i10, i01, im0, im1, ho]
    refine m_newLine (s := 1) ho hr hk (by omega) (fun h8 => ?_) (fun h8 hp1 o1 r1 s1 => ?_)
    · rw [sp_if_f (by omega)] at hQ
      have z : ¬ (0 : Int32) ≤ -1 := by decide
      simp only [x_86_10, x_86_11, x_86_12, x_86_15, x_86_16, mw_nx, mw_no, mw_ite, mw_call, mw_ret, mw_cst, mw_ii, mw_i1, mw_ll, mw_l1, mw_li, mw_i2l, mw_l2i, mw_lcm, mw_if, mw_ic, mw_ifnN, mw_ifnR, mw_go, mw_dupi, mw_dupr, mw_popi, mw_popr, mw_nw, mw_rti, mw_rtl, mw_rtr, mw_rtn, mw_rtv, mw_rt0, mw_rt1, mj_ild, mj_lld, mj_ald, mj_ist, mj_lst, mj_ast, mj_inc, mj_iz, mj_get, mj_put, mj_len, mj_iar, mj_aar, mj_iaw, mj_aaw, mj_ivs, mj_ivv, mj_ivi, mj_ob, mj_tk, mj_cat, mj_st1, mj_st2, mj_clr, mj_nwi, mj_nwq, List.getElem?_cons_zero, List.getElem?_cons_succ, List.length_cons, List.length_nil, List.set_cons_zero, List.set_cons_succ, Value.category, decide_eq_true_eq, List.map_cons, List.map_nil, List.sum_cons, List.sum_nil, Option.toList, List.cons_append, List.nil_append, ite_true, ite_false, if_true, if_false, reduceCtorEq, true_and, and_true, narrow_i, narrow_l, narrow_r, narrow_n, fits_i, fits_l, fits_ro, fits_ra, fits_no, fits_na, Nat.reduceAdd, Nat.reduceLT, Nat.reduceLeDiff, Nat.reduceEqDiff, Nat.reduceSub, zero_add0, true_or, or_true, false_or, or_false, not_true_eq_false, not_false_eq_true, eq_self, i10, i01, im0, im1, z]
      exact hQ hp0 hw1.at s0
    · rw [sp_if_t h8] at hQ
      have z : (0 : Int32) ≤ nI ls.length := nI_pos' (by omega)
      simp only [x_86_10, x_86_11, x_86_12, x_86_15, x_86_16, x_86_17, x_86_18, mw_nx, mw_no, mw_ite, mw_call, mw_ret, mw_cst, mw_ii, mw_i1, mw_ll, mw_l1, mw_li, mw_i2l, mw_l2i, mw_lcm, mw_if, mw_ic, mw_ifnN, mw_ifnR, mw_go, mw_dupi, mw_dupr, mw_popi, mw_popr, mw_nw, mw_rti, mw_rtl, mw_rtr, mw_rtn, mw_rtv, mw_rt0, mw_rt1, mj_ild, mj_lld, mj_ald, mj_ist, mj_lst, mj_ast, mj_inc, mj_iz, mj_get, mj_put, mj_len, mj_iar, mj_aar, mj_iaw, mj_aaw, mj_ivs, mj_ivv, mj_ivi, mj_ob, mj_tk, mj_cat, mj_st1, mj_st2, mj_clr, mj_nwi, mj_nwq, List.getElem?_cons_zero, List.getElem?_cons_succ, List.length_cons, List.length_nil, List.set_cons_zero, List.set_cons_succ, Value.category, decide_eq_true_eq, List.map_cons, List.map_nil, List.sum_cons, List.sum_nil, Option.toList, List.cons_append, List.nil_append, ite_true, ite_false, if_true, if_false, reduceCtorEq, true_and, and_true, narrow_i, narrow_l, narrow_r, narrow_n, fits_i, fits_l, fits_ro, fits_ra, fits_no, fits_na, Nat.reduceAdd, Nat.reduceLT, Nat.reduceLeDiff, Nat.reduceEqDiff, Nat.reduceSub, zero_add0, true_or, or_true, false_or, or_false, not_true_eq_false, not_false_eq_true, eq_self, i10, i01, im0, im1, z]
      have c0 := hc
      obtain ⟨fc, c1, c2, c3⟩ := c0
      have hlen := ln_len c3
      have key : ∀ (rest done : List Nat) (hp2 : mj_H), col = done ++ rest → hp2.1 M = some (mo_o M n (ls.length + 1) col.length xs.length a b 0) → rows hp2 M (va_up C ls.length (1, done)) → sm hp0 hp2 M (M + 4) → mj_wp 86 19 [some (.ref M), some (.int (nI ls.length)), some (.int (nI done.length))] [] hp2 Q := by
        intro rest
        induction rest with
        | nil =>
          intro done hp2 hd o2 r2 s2
          rw [List.append_nil] at hd
          subst hd
          have e1 : nI col.length ≤ nI col.length := nI_le (Nat.le_refl _) (by omega)
          rw [x_86_19]
          simp only [x_86_20, x_86_21, x_86_24, x_86_44, x_86_45, x_86_46, x_86_49, x_86_50, mw_nx, mw_no, mw_ite, mw_call, mw_ret, mw_cst, mw_ii, mw_i1, mw_ll, mw_l1, mw_li, mw_i2l, mw_l2i, mw_lcm, mw_if, mw_ic, mw_ifnN, mw_ifnR, mw_go, mw_dupi, mw_dupr, mw_popi, mw_popr, mw_nw, mw_rti, mw_rtl, mw_rtr, mw_rtn, mw_rtv, mw_rt0, mw_rt1, mj_ild, mj_lld, mj_ald, mj_ist, mj_lst, mj_ast, mj_inc, mj_iz, mj_get, mj_put, mj_len, mj_iar, mj_aar, mj_iaw, mj_aaw, mj_ivs, mj_ivv, mj_ivi, mj_ob, mj_tk, mj_cat, mj_st1, mj_st2, mj_clr, mj_nwi, mj_nwq, List.getElem?_cons_zero, List.getElem?_cons_succ, List.length_cons, List.length_nil, List.set_cons_zero, List.set_cons_succ, Value.category, decide_eq_true_eq, List.map_cons, List.map_nil, List.sum_cons, List.sum_nil, Option.toList, List.cons_append, List.nil_append, ite_true, ite_false, if_true, if_false, reduceCtorEq, true_and, and_true, narrow_i, narrow_l, narrow_r, narrow_n, fits_i, fits_l, fits_ro, fits_ra, fits_no, fits_na, Nat.reduceAdd, Nat.reduceLT, Nat.reduceLeDiff, Nat.reduceEqDiff, Nat.reduceSub, zero_add0, true_or, or_true, false_or, or_false, not_true_eq_false, not_false_eq_true, eq_self, i10, i01, im0, im1, o2, e1]
          have hw2 : mo_w hp2 M a b 0 (va_up C ls.length (1, col)) (n, col, ls ++ [(1, col)], xs) := by
            refine hw1.ro s2 (by rw [List.length_append]; exact o2) r2 (map_snoc hmap) (by rw [List.length_append, List.length_singleton]; omega) (fun l hl => ?_)
            rcases List.mem_append.mp hl with q | q
            · exact hlv l q
            · rw [List.mem_singleton] at q; subst q
              exact ⟨hcb, fun q => by cases q⟩
          obtain ⟨g1, g2, g3, g4, g5, g6, g7, g8, g9, g10⟩ := hw2
          refine hQ _ ⟨hn, a, b, 0, _, by rw [mj_up_at, List.length_append]; rfl, g3.keep u_0_1 u_0_2 u_0_3, g4, g5, g6, ?_, fun c hc => absurd hc List.not_mem_nil, g9.keep u_0_5, g10.keep u_0_6 u_0_7⟩ ((s0.tr (s2.mono (by omega) (by omega))).tr (sm.up (by omega) (by omega)))
          obtain ⟨fc', k1, -, -⟩ := g7
          exact ⟨fc', by rw [u_0_4]; exact k1, fun j hj => absurd hj (by simp), List.nodup_nil, fun c hc => absurd hc List.not_mem_nil⟩
        | cons c rest ih =>
          intro done hp2 hd o2 r2 s2
          have hlt : done.length < col.length := by rw [hd]; simp
          have hcg : col.getD done.length 0 = c := by rw [hd]; simp [List.getD_eq_getElem?_getD]
          have hc2 : c < 128 := c3.2 c (by rw [hd]; simp)
          have hcn : ¬ c ∈ done := by
            have := c3.1
            rw [hd, List.nodup_append] at this
            exact fun q => this.2.2 c q c List.mem_cons_self rfl
          have e1 : ¬ nI col.length ≤ nI done.length := nI_ge hlt (by omega)
          have i0 : ¬ nI done.length < 0 := nI_pos (by omega)
          have i1 : (nI done.length).toNatClampNeg = done.length := nI_clamp (by omega)
          have i2 : ¬ 128 ≤ done.length := by omega
          have e2 : fc done.length = nI c := by rw [c2 _ hlt, hcg]
          have c1' : hp2.1 (M + 4) = some (ma 128 fc) := (s2.2 _ (by omega)).trans c1
          rw [x_86_19]
          simp only [x_86_20, x_86_21, x_86_24, x_86_27, x_86_28, x_86_29, x_86_30, x_86_33, x_86_34, x_86_35, mw_nx, mw_no, mw_ite, mw_call, mw_ret, mw_cst, mw_ii, mw_i1, mw_ll, mw_l1, mw_li, mw_i2l, mw_l2i, mw_lcm, mw_if, mw_ic, mw_ifnN, mw_ifnR, mw_go, mw_dupi, mw_dupr, mw_popi, mw_popr, mw_nw, mw_rti, mw_rtl, mw_rtr, mw_rtn, mw_rtv, mw_rt0, mw_rt1, mj_ild, mj_lld, mj_ald, mj_ist, mj_lst, mj_ast, mj_inc, mj_iz, mj_get, mj_put, mj_len, mj_iar, mj_aar, mj_iaw, mj_aaw, mj_ivs, mj_ivv, mj_ivi, mj_ob, mj_tk, mj_cat, mj_st1, mj_st2, mj_clr, mj_nwi, mj_nwq, List.getElem?_cons_zero, List.getElem?_cons_succ, List.length_cons, List.length_nil, List.set_cons_zero, List.set_cons_succ, Value.category, decide_eq_true_eq, List.map_cons, List.map_nil, List.sum_cons, List.sum_nil, Option.toList, List.cons_append, List.nil_append, ite_true, ite_false, if_true, if_false, reduceCtorEq, true_and, and_true, narrow_i, narrow_l, narrow_r, narrow_n, fits_i, fits_l, fits_ro, fits_ra, fits_no, fits_na, Nat.reduceAdd, Nat.reduceLT, Nat.reduceLeDiff, Nat.reduceEqDiff, Nat.reduceSub, zero_add0, true_or, or_true, false_or, or_false, not_true_eq_false, not_false_eq_true, eq_self, i10, i01, im0, im1, o2, e1, c1', at_0, i0, i1, i2, e2]
          refine m_add o2 r2 (show ls.length < 160 by omega) hc2 (by rw [va_up_self]; exact hcn) (fun hp3 r3 s3 => ?_)
          rw [va_up_self, va_up_up2] at r3
          simp only [x_86_38, x_86_41, mw_nx, mw_no, mw_ite, mw_call, mw_ret, mw_cst, mw_ii, mw_i1, mw_ll, mw_l1, mw_li, mw_i2l, mw_l2i, mw_lcm, mw_if, mw_ic, mw_ifnN, mw_ifnR, mw_go, mw_dupi, mw_dupr, mw_popi, mw_popr, mw_nw, mw_rti, mw_rtl, mw_rtr, mw_rtn, mw_rtv, mw_rt0, mw_rt1, mj_ild, mj_lld, mj_ald, mj_ist, mj_lst, mj_ast, mj_inc, mj_iz, mj_get, mj_put, mj_len, mj_iar, mj_aar, mj_iaw, mj_aaw, mj_ivs, mj_ivv, mj_ivi, mj_ob, mj_tk, mj_cat, mj_st1, mj_st2, mj_clr, mj_nwi, mj_nwq, List.getElem?_cons_zero, List.getElem?_cons_succ, List.length_cons, List.length_nil, List.set_cons_zero, List.set_cons_succ, Value.category, decide_eq_true_eq, List.map_cons, List.map_nil, List.sum_cons, List.sum_nil, Option.toList, List.cons_append, List.nil_append, ite_true, ite_false, if_true, if_false, reduceCtorEq, true_and, and_true, narrow_i, narrow_l, narrow_r, narrow_n, fits_i, fits_l, fits_ro, fits_ra, fits_no, fits_na, Nat.reduceAdd, Nat.reduceLT, Nat.reduceLeDiff, Nat.reduceEqDiff, Nat.reduceSub, zero_add0, true_or, or_true, false_or, or_false, not_true_eq_false, not_false_eq_true, eq_self, i10, i01, im0, im1, nI_1]
          have := ih (done ++ [c]) hp3 (by rw [hd]; simp) ((s3.2 _ (by omega)).trans o2) r3 (s2.tr (s3.mono (by omega) (by omega)))
          simpa using this
      exact key col [] hp1 rfl o1 r1 s1
  rw [en_86]
  simp only [x_86_0, x_86_1, x_86_2, mw_nx, mw_no, mw_ite, mw_call, mw_ret, mw_cst, mw_ii, mw_i1, mw_ll, mw_l1, mw_li, mw_i2l, mw_l2i, mw_lcm, mw_if, mw_ic, mw_ifnN, mw_ifnR, mw_go, mw_dupi, mw_dupr, mw_popi, mw_popr, mw_nw, mw_rti, mw_rtl, mw_rtr, mw_rtn, mw_rtv, mw_rt0, mw_rt1, mj_ild, mj_lld, mj_ald, mj_ist, mj_lst, mj_ast, mj_inc, mj_iz, mj_get, mj_put, mj_len, mj_iar, mj_aar, mj_iaw, mj_aaw, mj_ivs, mj_ivv, mj_ivi, mj_ob, mj_tk, mj_cat, mj_st1, mj_st2, mj_clr, mj_nwi, mj_nwq, List.getElem?_cons_zero, List.getElem?_cons_succ, List.length_cons, List.length_nil, List.set_cons_zero, List.set_cons_succ, Value.category, decide_eq_true_eq, List.map_cons, List.map_nil, List.sum_cons, List.sum_nil, Option.toList, List.cons_append, List.nil_append, ite_true, ite_false, if_true, if_false, reduceCtorEq, true_and, and_true, narrow_i, narrow_l, narrow_r, narrow_n, fits_i, fits_l, fits_ro, fits_ra, fits_no, fits_na, Nat.reduceAdd, Nat.reduceLT, Nat.reduceLeDiff, Nat.reduceEqDiff, Nat.reduceSub, zero_add0, true_or, or_true, false_or, or_false, not_true_eq_false, not_false_eq_true, eq_self, i10, i01, im0, im1, ho]
  exact body _ hw.th (sm.up (by omega) (by omega))
end M2
