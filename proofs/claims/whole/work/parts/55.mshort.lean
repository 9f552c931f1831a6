/-! The reference: check and shorten -/
def fr (hp hp' : mj_H) (M : Nat) : Prop := hp'.2 = hp.2 ∧ ∀ q, ¬ (M ≤ q ∧ q < M + 4) → q ≠ M + 6 → q ≠ M + 7 → hp'.1 q = hp.1 q
theorem fr.rf {hp : mj_H} {M : Nat} : fr hp hp M := ⟨rfl, fun _ _ _ _ => rfl⟩
theorem fr.tr {h1 h2 h3 : mj_H} {M : Nat} (x : fr h1 h2 M) (y : fr h2 h3 M) : fr h1 h3 M := ⟨y.1.trans x.1, fun q a b c => (y.2 q a b c).trans (x.2 q a b c)⟩
theorem sm.fA {h1 h2 : mj_H} {M : Nat} (x : sm h1 h2 M (M + 4)) : fr h1 h2 M := ⟨x.1, fun q a _ _ => x.2 q (by omega)⟩
theorem sm.fB {h1 h2 : mj_H} {M : Nat} (x : sm h1 h2 (M + 6) (M + 7)) : fr h1 h2 M := ⟨x.1, fun q _ b _ => x.2 q (by omega)⟩
theorem sm.fC {h1 h2 : mj_H} {M : Nat} (x : sm h1 h2 (M + 7) (M + 8)) : fr h1 h2 M := ⟨x.1, fun q _ _ c => x.2 q (by omega)⟩
theorem fr.sm {h1 h2 : mj_H} {M : Nat} (x : fr h1 h2 M) : sm h1 h2 M (M + 8) := ⟨x.1, fun q hq => x.2 q (by omega) (by omega) (by omega)⟩
theorem mo_w.fr {hp hp' : mj_H} {M n : Nat} {a b t : Int32} {C C' : Nat → sp_Ln} {col xs : List Nat} {ls ls' : List sp_Ln} (h : mo_w hp M a b t C (n, col, ls, xs)) (hs : fr hp hp' M) (ho : hp'.1 M = some (mo_o M n ls'.length col.length xs.length a b t)) (hr : rows hp' M C') (hm : (List.range ls'.length).map C' = ls') (hk : ls'.length ≤ 80) (hl : ∀ l ∈ ls', lv n l) (hh : mo_h hp' M) : mo_w hp' M a b t C' (n, col, ls', xs) := by
  obtain ⟨hn, -, -, -, -, -, hc, hcb, hu, -⟩ := h
  exact ⟨hn, ho, hr, hm, hk, hl, hc.keep (hs.2 _ (by omega) (by omega) (by omega)), hcb, hu.keep (hs.2 _ (by omega) (by omega) (by omega)), hh⟩
theorem mo_h.b {hp hp' : mj_H} {M : Nat} (h : mo_h hp M) (s : sm hp hp' (M + 6) (M + 7)) (hf : ∃ fh, hp'.1 (M + 6) = some (mz 128 fh)) : mo_h hp' M := ⟨hf, by obtain ⟨-, f, q⟩ := h; exact ⟨f, (s.2 _ (by omega)).trans q⟩⟩
theorem rows.b {hp hp' : mj_H} {M : Nat} {C : Nat → sp_Ln} (h : rows hp M C) (s : sm hp hp' (M + 6) (M + 7)) : rows hp' M C := h.keep (s.2 _ (by omega)) (s.2 _ (by omega)) (s.2 _ (by omega))
section MH
variable {hp : mj_H} {Q : mj_Q} {M : Nat} {s : sp_S}
theorem e_check (h : mo_at hp M s) (hQ : ∀ hp' : mj_H, mo_at hp' M (so_check s).1 → sm hp hp' M (M + 8) → Q (some (.int (so_check s).2)) hp') : mj_call 92 [.ref M] hp Q := by
  obtain ⟨a, b, t0, C, hw⟩ := mo_w_of h
  have ho := hw.2.1
  have body : ∀ hp0 : mj_H, mo_w hp0 M a b 0 C s → sm hp hp0 M (M + 8) → mj_wp 92 5 [some (.ref M), none] [] hp0 Q := by
    obtain ⟨n, col, ls, xs⟩ := s
    intro hp0 hw0 s0
    have hw1 := hw0
    obtain ⟨hn, ho, hr, hmap, hk, hlv, hc, hcb, hu, hh⟩ := hw0
    dsimp only at *
    unfold so_check at hQ
    dsimp only at hQ
    have key : ∀ (d i : Nat) (hp1 : mj_H), i + d = ls.length → sm hp0 hp1 (M + 6) (M + 7) → mo_h hp1 M → sp_check n ((List.range i).map C) ((List.range' i d).map C) = sp_check n [] ls → mj_wp 92 7 [some (.ref M), some (.int (nI i))] [] hp1 Q := by
      intro d
      induction d with
      | zero =>
        intro i hp1 hi s1 h1 he
        obtain rfl : i = ls.length := by omega
        have o1 := (s1.2 M (by omega)).trans ho
        have e1 : nI ls.length ≤ nI ls.length := nI_le (Nat.le_refl _) (by omega)
        rw [x_92_7]
        simp only [x_92_8, x_92_9, x_92_12, x_92_33, x_92_34, mw_nx, mw_no, mw_ite, mw_call, mw_ret, mw_cst, mw_ii, mw_i1, mw_ll, mw_l1, mw_li, mw_i2l, mw_l2i, mw_lcm, mw_if, mw_ic, mw_ifnN, mw_ifnR, mw_go, mw_dupi, mw_dupr, mw_popi, mw_popr, mw_nw, mw_rti, mw_rtl, mw_rtr, mw_rtn, mw_rtv, mw_rt0, mw_rt1, mj_ild, mj_lld, mj_ald, mj_ist, mj_lst, mj_ast, mj_inc, mj_iz, mj_get, mj_put, mj_len, mj_iar, mj_aar, mj_iaw, mj_aaw, mj_ivs, mj_ivv, mj_ivi, mj_ob, mj_tk, mj_cat, mj_st1, mj_st2, mj_clr, mj_nwi, mj_nwq, List.getElem?_cons_zero, List.getElem?_cons_succ, List.length_cons, List.length_nil, List.set_cons_zero, List.set_cons_succ, Value.category, decide_eq_true_eq, List.map_cons, List.map_nil, List.sum_cons, List.sum_nil, Option.toList, List.cons_append, List.nil_append, ite_true, ite_false, if_true, if_false, reduceCtorEq, true_and, and_true, narrow_i, narrow_l, narrow_r, narrow_n, fits_i, fits_l, fits_ro, fits_ra, fits_no, fits_na, Nat.reduceAdd, Nat.reduceLT, Nat.reduceLeDiff, Nat.reduceEqDiff, Nat.reduceSub, zero_add0, true_or, or_true, false_or, or_false, not_true_eq_false, not_false_eq_true, eq_self, i10, i01, im0, im1, o1, e1]
        have hfin := hQ hp1 (hw1.fr s1.fB o1 (hr.b s1) hmap hk hlv h1).at (s0.tr (s1.mono (by omega) (by omega)))
        rw [← he] at hfin
        simp only [List.range', List.map_nil, sp_check] at hfin
        exact hfin
      | succ d ih =>
        intro i hp1 hi s1 h1 he
        have o1 := (s1.2 M (by omega)).trans ho
        have e1 : ¬ nI ls.length ≤ nI i := nI_ge (by omega) (by omega)
        rw [List.range'_succ, List.map_cons, sp_check] at he
        rw [x_92_7]
        simp only [x_92_8, x_92_9, x_92_12, x_92_15, x_92_16, x_92_17, mw_nx, mw_no, mw_ite, mw_call, mw_ret, mw_cst, mw_ii, mw_i1, mw_ll, mw_l1, mw_li, mw_i2l, mw_l2i, mw_lcm, mw_if, mw_ic, mw_ifnN, mw_ifnR, mw_go, mw_dupi, mw_dupr, mw_popi, mw_popr, mw_nw, mw_rti, mw_rtl, mw_rtr, mw_rtn, mw_rtv, mw_rt0, mw_rt1, mj_ild, mj_lld, mj_ald, mj_ist, mj_lst, mj_ast, mj_inc, mj_iz, mj_get, mj_put, mj_len, mj_iar, mj_aar, mj_iaw, mj_aaw, mj_ivs, mj_ivv, mj_ivi, mj_ob, mj_tk, mj_cat, mj_st1, mj_st2, mj_clr, mj_nwi, mj_nwq, List.getElem?_cons_zero, List.getElem?_cons_succ, List.length_cons, List.length_nil, List.set_cons_zero, List.set_cons_succ, Value.category, decide_eq_true_eq, List.map_cons, List.map_nil, List.sum_cons, List.sum_nil, Option.toList, List.cons_append, List.nil_append, ite_true, ite_false, if_true, if_false, reduceCtorEq, true_and, and_true, narrow_i, narrow_l, narrow_r, narrow_n, fits_i, fits_l, fits_ro, fits_ra, fits_no, fits_na, Nat.reduceAdd, Nat.reduceLT, Nat.reduceLeDiff, Nat.reduceEqDiff, Nat.reduceSub, zero_add0, true_or, or_true, false_or, or_false, not_true_eq_false, not_false_eq_true, eq_self, i10, i01, im0, im1, o1, e1]
        refine m_isRight o1 (hr.b s1) hn.2 (show i ≤ 80 by omega) (fun j hj => (hlv (C j) (by rw [map_at hmap (by omega)]; exact so_at_mem (by omega))).1) h1.1 (fun hR hp2 s2 f2 => ?_) (fun hR hp2 s2 f2 => ?_)
        · rw [sp_if_t hR] at he
          simp only [x_92_20, x_92_23, x_92_24, x_92_25, x_92_26, x_92_27, x_92_30, mw_nx, mw_no, mw_ite, mw_call, mw_ret, mw_cst, mw_ii, mw_i1, mw_ll, mw_l1, mw_li, mw_i2l, mw_l2i, mw_lcm, mw_if, mw_ic, mw_ifnN, mw_ifnR, mw_go, mw_dupi, mw_dupr, mw_popi, mw_popr, mw_nw, mw_rti, mw_rtl, mw_rtr, mw_rtn, mw_rtv, mw_rt0, mw_rt1, mj_ild, mj_lld, mj_ald, mj_ist, mj_lst, mj_ast, mj_inc, mj_iz, mj_get, mj_put, mj_len, mj_iar, mj_aar, mj_iaw, mj_aaw, mj_ivs, mj_ivv, mj_ivi, mj_ob, mj_tk, mj_cat, mj_st1, mj_st2, mj_clr, mj_nwi, mj_nwq, List.getElem?_cons_zero, List.getElem?_cons_succ, List.length_cons, List.length_nil, List.set_cons_zero, List.set_cons_succ, Value.category, decide_eq_true_eq, List.map_cons, List.map_nil, List.sum_cons, List.sum_nil, Option.toList, List.cons_append, List.nil_append, ite_true, ite_false, if_true, if_false, reduceCtorEq, true_and, and_true, narrow_i, narrow_l, narrow_r, narrow_n, fits_i, fits_l, fits_ro, fits_ra, fits_no, fits_na, Nat.reduceAdd, Nat.reduceLT, Nat.reduceLeDiff, Nat.reduceEqDiff, Nat.reduceSub, zero_add0, true_or, or_true, false_or, or_false, not_true_eq_false, not_false_eq_true, eq_self, i10, i01, im0, im1, nI_1]
          exact ih (i + 1) hp2 (by omega) (s1.tr s2) (h1.b s2 f2) (by rw [← he, List.range_succ, List.map_append]; rfl)
        · rw [sp_if_f hR] at he
          simp only [x_92_20, x_92_23, x_92_24, x_92_25, x_92_26, mw_nx, mw_no, mw_ite, mw_call, mw_ret, mw_cst, mw_ii, mw_i1, mw_ll, mw_l1, mw_li, mw_i2l, mw_l2i, mw_lcm, mw_if, mw_ic, mw_ifnN, mw_ifnR, mw_go, mw_dupi, mw_dupr, mw_popi, mw_popr, mw_nw, mw_rti, mw_rtl, mw_rtr, mw_rtn, mw_rtv, mw_rt0, mw_rt1, mj_ild, mj_lld, mj_ald, mj_ist, mj_lst, mj_ast, mj_inc, mj_iz, mj_get, mj_put, mj_len, mj_iar, mj_aar, mj_iaw, mj_aaw, mj_ivs, mj_ivv, mj_ivi, mj_ob, mj_tk, mj_cat, mj_st1, mj_st2, mj_clr, mj_nwi, mj_nwq, List.getElem?_cons_zero, List.getElem?_cons_succ, List.length_cons, List.length_nil, List.set_cons_zero, List.set_cons_succ, Value.category, decide_eq_true_eq, List.map_cons, List.map_nil, List.sum_cons, List.sum_nil, Option.toList, List.cons_append, List.nil_append, ite_true, ite_false, if_true, if_false, reduceCtorEq, true_and, and_true, narrow_i, narrow_l, narrow_r, narrow_n, fits_i, fits_l, fits_ro, fits_ra, fits_no, fits_na, Nat.reduceAdd, Nat.reduceLT, Nat.reduceLeDiff, Nat.reduceEqDiff, Nat.reduceSub, zero_add0, true_or, or_true, false_or, or_false, not_true_eq_false, not_false_eq_true, eq_self, i10, i01, im0, im1]
          have o2 := (s2.2 M (by omega)).trans o1
          have hfin := hQ hp2 (hw1.fr (s1.tr s2).fB o2 (hr.b (s1.tr s2)) hmap hk hlv (h1.b s2 f2)).at (s0.tr ((s1.tr s2).mono (by omega) (by omega)))
          rw [← he, List.length_map, List.length_range] at hfin
          have : (1 : Int32) + nI i = nI (1 + i) := nI_add 1 i
          rw [this]
          exact hfin
    simp only [x_92_5, x_92_6, mw_nx, mw_no, mw_ite, mw_call, mw_ret, mw_cst, mw_ii, mw_i1, mw_ll, mw_l1, mw_li, mw_i2l, mw_l2i, mw_lcm, mw_if, mw_ic, mw_ifnN, mw_ifnR, mw_go, mw_dupi, mw_dupr, mw_popi, mw_popr, mw_nw, mw_rti, mw_rtl, mw_rtr, mw_rtn, mw_rtv, mw_rt0, mw_rt1, mj_ild, mj_lld, mj_ald, mj_ist, mj_lst, mj_ast, mj_inc, mj_iz, mj_get, mj_put, mj_len, mj_iar, mj_aar, mj_iaw, mj_aaw, mj_ivs, mj_ivv, mj_ivi, mj_ob, mj_tk, mj_cat, mj_st1, mj_st2, mj_clr, mj_nwi, mj_nwq, List.getElem?_cons_zero, List.getElem?_cons_succ, List.length_cons, List.length_nil, List.set_cons_zero, List.set_cons_succ, Value.category, decide_eq_true_eq, List.map_cons, List.map_nil, List.sum_cons, List.sum_nil, Option.toList, List.cons_append, List.nil_append, ite_true, ite_false, if_true, if_false, reduceCtorEq, true_and, and_true, narrow_i, narrow_l, narrow_r, narrow_n, fits_i, fits_l, fits_ro, fits_ra, fits_no, fits_na, Nat.reduceAdd, Nat.reduceLT, Nat.reduceLeDiff, Nat.reduceEqDiff, Nat.reduceSub, zero_add0, true_or, or_true, false_or, or_false, not_true_eq_false, not_false_eq_true, eq_self, i10, i01, im0, im1]
    exact key ls.length 0 hp0 (by omega) sm.rf hh (by rw [← List.range_eq_range', hmap]; rfl)
  rw [en_92]
  simp only [x_92_0, x_92_1, x_92_2, mw_nx, mw_no, mw_ite, mw_call, mw_ret, mw_cst, mw_ii, mw_i1, mw_ll, mw_l1, mw_li, mw_i2l, mw_l2i, mw_lcm, mw_if, mw_ic, mw_ifnN, mw_ifnR, mw_go, mw_dupi, mw_dupr, mw_popi, mw_popr, mw_nw, mw_rti, mw_rtl, mw_rtr, mw_rtn, mw_rtv, mw_rt0, mw_rt1, mj_ild, mj_lld, mj_ald, mj_ist, mj_lst, mj_ast, mj_inc, mj_iz, mj_get, mj_put, mj_len, mj_iar, mj_aar, mj_iaw, mj_aaw, mj_ivs, mj_ivv, mj_ivi, mj_ob, mj_tk, mj_cat, mj_st1, mj_st2, mj_clr, mj_nwi, mj_nwq, List.getElem?_cons_zero, List.getElem?_cons_succ, List.length_cons, List.length_nil, List.set_cons_zero, List.set_cons_succ, Value.category, decide_eq_true_eq, List.map_cons, List.map_nil, List.sum_cons, List.sum_nil, Option.toList, List.cons_append, List.nil_append, ite_true, ite_false, if_true, if_false, reduceCtorEq, true_and, and_true, narrow_i, narrow_l, narrow_r, narrow_n, fits_i, fits_l, fits_ro, fits_ra, fits_no, fits_na, Nat.reduceAdd, Nat.reduceLT, Nat.reduceLeDiff, Nat.reduceEqDiff, Nat.reduceSub, zero_add0, true_or, or_true, false_or, or_false, not_true_eq_false, not_false_eq_true, eq_self, i10, i01, im0, im1, ho]
  exact body _ hw.th (sm.up (by omega) (by omega))
end MH
theorem sh_map {C : Nat → sp_Ln} {v k ln : Nat} (hv : v < k) (hk : k ≤ ln) (hl : ln ≤ 80) : (List.range (k - 1)).map (sh (va_up C 80 (C v)) v (ln - 1)) = ((List.range k).map C).eraseIdx v := by
  rw [← dr_map hv]
  apply List.map_congr_left
  intro j hj
  have hj2 := List.mem_range.mp hj
  unfold sh dr
  by_cases w : j < v
  · rw [if_neg (by omega), if_pos w, va_up_ne _ _ (by omega)]
  · rw [if_pos (by omega), if_neg w, if_pos (by omega), va_up_ne _ _ (by omega)]
theorem back_map {C : Nat → sp_Ln} {v ln : Nat} (hv : v < ln) (hl : ln ≤ 80) : (List.range ln).map (va_up (bk (sh (va_up C 80 (C v)) v (ln - 1)) v (ln - 1)) v (sh (va_up C 80 (C v)) v (ln - 1) 80)) = (List.range ln).map C := by
  apply List.map_congr_left
  intro j hj
  have hj2 := List.mem_range.mp hj
  by_cases hjv : j = v
  · subst hjv
    rw [va_up_self]
    unfold sh
    rw [if_neg (by omega), va_up_self]
  · rw [va_up_ne _ _ hjv]
    unfold bk
    by_cases w : v < j
    · rw [if_pos (by omega)]
      unfold sh
      rw [if_pos (by omega), va_up_ne _ _ (by omega)]
      congr 1; omega
    · rw [if_neg (by omega)]
      unfold sh
      rw [if_neg (by omega), va_up_ne _ _ (by omega)]
theorem spare_i {n ln v : Nat} {C : Nat → sp_Ln} : (∀ q, v < q → q < ln → sp_right n ((List.range q).map C) (C q) → sp_right n (((List.range q).map C).eraseIdx v) (C q)) ↔ sp_spare n ((List.range ln).map C) v := by
  unfold sp_spare
  constructor
  · intro h j l hj hl hR
    have hjl : j < ln := by
      have := List.getElem?_eq_some_iff.mp hl
      obtain ⟨w, -⟩ := this
      simpa using w
    rw [get_map hjl] at hl
    cases hl
    rw [take_map (by omega)] at hR ⊢
    exact h j hj hjl hR
  · intro h q hq hql hR
    have := h q (C q) hq (get_map hql)
    rw [take_map (by omega)] at this
    exact this hR
section MT
variable {hp : mj_H} {Q : mj_Q} {M n ln cm ul : Nat} {a b t : Int32} {C : Nat → sp_Ln}
theorem m_tryWithout (h : hp.1 M = some (mo_o M n ln cm ul a b t)) (hr : rows hp M C) (hn : n ≤ 64) (hl : ln ≤ 80) (hcb : ∀ j, j < ln → ∀ c ∈ (C j).2, c < 2 * n) (hh : mo_h hp M) {v : Nat} (hv : v < ln)
    (hQ : ∀ (hp' : mj_H) (ln' : Nat) (C' : Nat → sp_Ln), hp'.1 M = some (mo_o M n ln' cm ul a b t) → rows hp' M C' → (List.range ln').map C' = sp_if (sp_spare n ((List.range ln).map C) v) (((List.range ln).map C).eraseIdx v) ((List.range ln).map C) → ln' ≤ 80 → ln ≤ ln' + 1 → mo_h hp' M → fr hp hp' M → Q none hp') : mj_call 96 [.ref M, .int (nI v)] hp Q := by
  have e80 : mj_call 93 [.ref M, .int (nI v), .int 80] = mj_call 93 [.ref M, .int (nI v), .int (nI 80)] := rfl
  have second : ∀ (frt : Nat → Int32) (hpB : mj_H), (∀ q, v < q → q < ln → (frt q = 0 ∨ frt q = 1) ∧ (frt q = 1 ↔ sp_right n ((List.range q).map C) (C q))) → hpB.1 (M + 7) = some (mz 80 frt) → ∀ (d k : Nat) (al : Int32) (hp1 : mj_H), k + d = ln → v < k → hp1.1 M = some (mo_o M n (ln - 1) cm ul a b t) → rows hp1 M (sh (va_up C 80 (C v)) v (ln - 1)) → mo_h hp1 M → hp1.1 (M + 7) = some (mz 80 frt) → fr hp hp1 M → ((al = 1 ∧ ∀ q, v < q → q < k → sp_right n ((List.range q).map C) (C q) → sp_right n (((List.range q).map C).eraseIdx v) (C q)) ∨ (al = 0 ∧ ¬ sp_spare n ((List.range ln).map C) v)) → mj_wp 96 53 [some (.ref M), some (.int (nI v)), some (.int (nI ln)), some (.int al), some (.int (nI k))] [] hp1 Q := by
    intro frt hpB hfr _ d
    have fin0 : ∀ (k : Nat) (hp1 : mj_H), hp1.1 M = some (mo_o M n (ln - 1) cm ul a b t) → rows hp1 M (sh (va_up C 80 (C v)) v (ln - 1)) → mo_h hp1 M → fr hp hp1 M → ¬ sp_spare n ((List.range ln).map C) v → mj_wp 96 92 [some (.ref M), some (.int (nI v)), some (.int (nI ln)), some (.int 0), some (.int (nI k))] [] hp1 Q := by
      intro k hp1 o1 r1 h1 f1 hno
      simp only [x_96_92, x_96_93, x_96_96, x_96_97, x_96_98, mw_nx, mw_no, mw_ite, mw_call, mw_ret, mw_cst, mw_ii, mw_i1, mw_ll, mw_l1, mw_li, mw_i2l, mw_l2i, mw_lcm, mw_if, mw_ic, mw_ifnN, mw_ifnR, mw_go, mw_dupi, mw_dupr, mw_popi, mw_popr, mw_nw, mw_rti, mw_rtl, mw_rtr, mw_rtn, mw_rtv, mw_rt0, mw_rt1, mj_ild, mj_lld, mj_ald, mj_ist, mj_lst, mj_ast, mj_inc, mj_iz, mj_get, mj_put, mj_len, mj_iar, mj_aar, mj_iaw, mj_aaw, mj_ivs, mj_ivv, mj_ivi, mj_ob, mj_tk, mj_cat, mj_st1, mj_st2, mj_clr, mj_nwi, mj_nwq, List.getElem?_cons_zero, List.getElem?_cons_succ, List.length_cons, List.length_nil, List.set_cons_zero, List.set_cons_succ, Value.category, decide_eq_true_eq, List.map_cons, List.map_nil, List.sum_cons, List.sum_nil, Option.toList, List.cons_append, List.nil_append, ite_true, ite_false, if_true, if_false, reduceCtorEq, true_and, and_true, narrow_i, narrow_l, narrow_r, narrow_n, fits_i, fits_l, fits_ro, fits_ra, fits_no, fits_na, Nat.reduceAdd, Nat.reduceLT, Nat.reduceLeDiff, Nat.reduceEqDiff, Nat.reduceSub, zero_add0, true_or, or_true, false_or, or_false, not_true_eq_false, not_false_eq_true, eq_self, i10, i01, im0, im1, o1]
      refine m_putBack o1 r1 (by omega) (show v ≤ ln - 1 by omega) (fun hp2 o2 r2 s2 => ?_)
      simp only [x_96_101, mw_nx, mw_no, mw_ite, mw_call, mw_ret, mw_cst, mw_ii, mw_i1, mw_ll, mw_l1, mw_li, mw_i2l, mw_l2i, mw_lcm, mw_if, mw_ic, mw_ifnN, mw_ifnR, mw_go, mw_dupi, mw_dupr, mw_popi, mw_popr, mw_nw, mw_rti, mw_rtl, mw_rtr, mw_rtn, mw_rtv, mw_rt0, mw_rt1, mj_ild, mj_lld, mj_ald, mj_ist, mj_lst, mj_ast, mj_inc, mj_iz, mj_get, mj_put, mj_len, mj_iar, mj_aar, mj_iaw, mj_aaw, mj_ivs, mj_ivv, mj_ivi, mj_ob, mj_tk, mj_cat, mj_st1, mj_st2, mj_clr, mj_nwi, mj_nwq, List.getElem?_cons_zero, List.getElem?_cons_succ, List.length_cons, List.length_nil, List.set_cons_zero, List.set_cons_succ, Value.category, decide_eq_true_eq, List.map_cons, List.map_nil, List.sum_cons, List.sum_nil, Option.toList, List.cons_append, List.nil_append, ite_true, ite_false, if_true, if_false, reduceCtorEq, true_and, and_true, narrow_i, narrow_l, narrow_r, narrow_n, fits_i, fits_l, fits_ro, fits_ra, fits_no, fits_na, Nat.reduceAdd, Nat.reduceLT, Nat.reduceLeDiff, Nat.reduceEqDiff, Nat.reduceSub, zero_add0, true_or, or_true, false_or, or_false, not_true_eq_false, not_false_eq_true, eq_self, i10, i01, im0, im1]
      refine hQ hp2 (ln - 1 + 1) _ o2 r2 ?_ (by omega) (by omega) (h1.keep (s2.2 _ (by omega)) (s2.2 _ (by omega))) (f1.tr s2.fA)
      rw [sp_if_f hno, show ln - 1 + 1 = ln by omega]
      exact back_map hv hl
    induction d with
    | zero =>
      intro k al hp1 hk hvk o1 r1 h1 t1 f1 hal
      obtain rfl : k = ln := by omega
      have e1 : nI k ≤ nI k := nI_le (Nat.le_refl _) (by omega)
      rw [x_96_53]
      rcases hal with ⟨rfl, hal⟩ | ⟨rfl, hal⟩
      · simp only [x_96_55, x_96_56, x_96_92, x_96_93, x_96_96, x_96_97, x_96_98, x_96_101, mw_nx, mw_no, mw_ite, mw_call, mw_ret, mw_cst, mw_ii, mw_i1, mw_ll, mw_l1, mw_li, mw_i2l, mw_l2i, mw_lcm, mw_if, mw_ic, mw_ifnN, mw_ifnR, mw_go, mw_dupi, mw_dupr, mw_popi, mw_popr, mw_nw, mw_rti, mw_rtl, mw_rtr, mw_rtn, mw_rtv, mw_rt0, mw_rt1, mj_ild, mj_lld, mj_ald, mj_ist, mj_lst, mj_ast, mj_inc, mj_iz, mj_get, mj_put, mj_len, mj_iar, mj_aar, mj_iaw, mj_aaw, mj_ivs, mj_ivv, mj_ivi, mj_ob, mj_tk, mj_cat, mj_st1, mj_st2, mj_clr, mj_nwi, mj_nwq, List.getElem?_cons_zero, List.getElem?_cons_succ, List.length_cons, List.length_nil, List.set_cons_zero, List.set_cons_succ, Value.category, decide_eq_true_eq, List.map_cons, List.map_nil, List.sum_cons, List.sum_nil, Option.toList, List.cons_append, List.nil_append, ite_true, ite_false, if_true, if_false, reduceCtorEq, true_and, and_true, narrow_i, narrow_l, narrow_r, narrow_n, fits_i, fits_l, fits_ro, fits_ra, fits_no, fits_na, Nat.reduceAdd, Nat.reduceLT, Nat.reduceLeDiff, Nat.reduceEqDiff, Nat.reduceSub, zero_add0, true_or, or_true, false_or, or_false, not_true_eq_false, not_false_eq_true, eq_self, i10, i01, im0, im1, e1]
        refine hQ hp1 (k - 1) _ o1 r1 ?_ (by omega) (by omega) h1 f1
        rw [sp_if_t (spare_i.mp hal)]
        exact sh_map hv (Nat.le_refl _) hl
      · simp only [x_96_55, x_96_56, mw_nx, mw_no, mw_ite, mw_call, mw_ret, mw_cst, mw_ii, mw_i1, mw_ll, mw_l1, mw_li, mw_i2l, mw_l2i, mw_lcm, mw_if, mw_ic, mw_ifnN, mw_ifnR, mw_go, mw_dupi, mw_dupr, mw_popi, mw_popr, mw_nw, mw_rti, mw_rtl, mw_rtr, mw_rtn, mw_rtv, mw_rt0, mw_rt1, mj_ild, mj_lld, mj_ald, mj_ist, mj_lst, mj_ast, mj_inc, mj_iz, mj_get, mj_put, mj_len, mj_iar, mj_aar, mj_iaw, mj_aaw, mj_ivs, mj_ivv, mj_ivi, mj_ob, mj_tk, mj_cat, mj_st1, mj_st2, mj_clr, mj_nwi, mj_nwq, List.getElem?_cons_zero, List.getElem?_cons_succ, List.length_cons, List.length_nil, List.set_cons_zero, List.set_cons_succ, Value.category, decide_eq_true_eq, List.map_cons, List.map_nil, List.sum_cons, List.sum_nil, Option.toList, List.cons_append, List.nil_append, ite_true, ite_false, if_true, if_false, reduceCtorEq, true_and, and_true, narrow_i, narrow_l, narrow_r, narrow_n, fits_i, fits_l, fits_ro, fits_ra, fits_no, fits_na, Nat.reduceAdd, Nat.reduceLT, Nat.reduceLeDiff, Nat.reduceEqDiff, Nat.reduceSub, zero_add0, true_or, or_true, false_or, or_false, not_true_eq_false, not_false_eq_true, eq_self, i10, i01, im0, im1, e1]
        exact fin0 k hp1 o1 r1 h1 f1 hal
    | succ d ih =>
      intro k al hp1 hk hvk o1 r1 h1 t1 f1 hal
      have e1 : ¬ nI ln ≤ nI k := nI_ge (by omega) (by omega)
      rw [x_96_53]
      rcases hal with ⟨rfl, hal⟩ | ⟨rfl, hal⟩
      · have z0 : ¬ nI k < 0 := nI_pos (by omega)
        have z1 : (nI k).toNatClampNeg = k := nI_clamp (by omega)
        have z2 : ¬ 80 ≤ k := by omega
        obtain ⟨g01, giff⟩ := hfr k hvk (by omega)
        rcases g01 with g | g
        · simp only [x_96_55, x_96_56, x_96_59, x_96_60, x_96_63, x_96_64, x_96_67, x_96_69, x_96_70, x_96_73, x_96_74, x_96_76, x_96_77, x_96_78, x_96_81, x_96_84, x_96_85, x_96_86, x_96_89, mw_nx, mw_no, mw_ite, mw_call, mw_ret, mw_cst, mw_ii, mw_i1, mw_ll, mw_l1, mw_li, mw_i2l, mw_l2i, mw_lcm, mw_if, mw_ic, mw_ifnN, mw_ifnR, mw_go, mw_dupi, mw_dupr, mw_popi, mw_popr, mw_nw, mw_rti, mw_rtl, mw_rtr, mw_rtn, mw_rtv, mw_rt0, mw_rt1, mj_ild, mj_lld, mj_ald, mj_ist, mj_lst, mj_ast, mj_inc, mj_iz, mj_get, mj_put, mj_len, mj_iar, mj_aar, mj_iaw, mj_aaw, mj_ivs, mj_ivv, mj_ivi, mj_ob, mj_tk, mj_cat, mj_st1, mj_st2, mj_clr, mj_nwi, mj_nwq, List.getElem?_cons_zero, List.getElem?_cons_succ, List.length_cons, List.length_nil, List.set_cons_zero, List.set_cons_succ, Value.category, decide_eq_true_eq, List.map_cons, List.map_nil, List.sum_cons, List.sum_nil, Option.toList, List.cons_append, List.nil_append, ite_true, ite_false, if_true, if_false, reduceCtorEq, true_and, and_true, narrow_i, narrow_l, narrow_r, narrow_n, fits_i, fits_l, fits_ro, fits_ra, fits_no, fits_na, Nat.reduceAdd, Nat.reduceLT, Nat.reduceLeDiff, Nat.reduceEqDiff, Nat.reduceSub, zero_add0, true_or, or_true, false_or, or_false, not_true_eq_false, not_false_eq_true, eq_self, i10, i01, im0, im1, e1, o1, t1, at_1, z0, z1, z2, g, nI_1]
          refine ih (k + 1) 1 hp1 (by omega) (by omega) o1 r1 h1 t1 f1 (Or.inl ⟨rfl, fun q hq1 hq2 hR => ?_⟩)
          by_cases hqk : q = k
          · subst hqk
            exact absurd (giff.mpr hR) (by rw [g]; decide)
          · exact hal q hq1 (by omega) hR
        · have e2 : nI k - 1 = nI (k - 1) := pk_sub (b := 1) (by omega)
          have hCk : sh (va_up C 80 (C v)) v (ln - 1) (k - 1) = C k := by
            unfold sh
            rw [if_pos (by omega), va_up_ne _ _ (by omega)]
            congr 1; omega
          simp only [x_96_55, x_96_56, x_96_59, x_96_60, x_96_63, x_96_64, x_96_67, x_96_69, x_96_70, x_96_73, x_96_74, x_96_76, x_96_77, x_96_78, mw_nx, mw_no, mw_ite, mw_call, mw_ret, mw_cst, mw_ii, mw_i1, mw_ll, mw_l1, mw_li, mw_i2l, mw_l2i, mw_lcm, mw_if, mw_ic, mw_ifnN, mw_ifnR, mw_go, mw_dupi, mw_dupr, mw_popi, mw_popr, mw_nw, mw_rti, mw_rtl, mw_rtr, mw_rtn, mw_rtv, mw_rt0, mw_rt1, mj_ild, mj_lld, mj_ald, mj_ist, mj_lst, mj_ast, mj_inc, mj_iz, mj_get, mj_put, mj_len, mj_iar, mj_aar, mj_iaw, mj_aaw, mj_ivs, mj_ivv, mj_ivi, mj_ob, mj_tk, mj_cat, mj_st1, mj_st2, mj_clr, mj_nwi, mj_nwq, List.getElem?_cons_zero, List.getElem?_cons_succ, List.length_cons, List.length_nil, List.set_cons_zero, List.set_cons_succ, Value.category, decide_eq_true_eq, List.map_cons, List.map_nil, List.sum_cons, List.sum_nil, Option.toList, List.cons_append, List.nil_append, ite_true, ite_false, if_true, if_false, reduceCtorEq, true_and, and_true, narrow_i, narrow_l, narrow_r, narrow_n, fits_i, fits_l, fits_ro, fits_ra, fits_no, fits_na, Nat.reduceAdd, Nat.reduceLT, Nat.reduceLeDiff, Nat.reduceEqDiff, Nat.reduceSub, zero_add0, true_or, or_true, false_or, or_false, not_true_eq_false, not_false_eq_true, eq_self, i10, i01, im0, im1, e1, o1, t1, at_1, z0, z1, z2, g, e2]
          refine m_isRight o1 r1 hn (show k - 1 ≤ 80 by omega) (fun j hj c hc => ?_) h1.1 (fun hR hp2 s2 f2 => ?_) (fun hR hp2 s2 f2 => ?_)
          · unfold sh at hc
            by_cases w : v ≤ j ∧ j < ln - 1
            · rw [if_pos w, va_up_ne _ _ (by omega)] at hc
              exact hcb (j + 1) (by omega) c hc
            · rw [if_neg w, va_up_ne _ _ (by omega)] at hc
              exact hcb j (by omega) c hc
          · rw [sh_map hvk (by omega) hl, hCk] at hR
            simp only [x_96_81, x_96_84, x_96_85, x_96_86, x_96_89, mw_nx, mw_no, mw_ite, mw_call, mw_ret, mw_cst, mw_ii, mw_i1, mw_ll, mw_l1, mw_li, mw_i2l, mw_l2i, mw_lcm, mw_if, mw_ic, mw_ifnN, mw_ifnR, mw_go, mw_dupi, mw_dupr, mw_popi, mw_popr, mw_nw, mw_rti, mw_rtl, mw_rtr, mw_rtn, mw_rtv, mw_rt0, mw_rt1, mj_ild, mj_lld, mj_ald, mj_ist, mj_lst, mj_ast, mj_inc, mj_iz, mj_get, mj_put, mj_len, mj_iar, mj_aar, mj_iaw, mj_aaw, mj_ivs, mj_ivv, mj_ivi, mj_ob, mj_tk, mj_cat, mj_st1, mj_st2, mj_clr, mj_nwi, mj_nwq, List.getElem?_cons_zero, List.getElem?_cons_succ, List.length_cons, List.length_nil, List.set_cons_zero, List.set_cons_succ, Value.category, decide_eq_true_eq, List.map_cons, List.map_nil, List.sum_cons, List.sum_nil, Option.toList, List.cons_append, List.nil_append, ite_true, ite_false, if_true, if_false, reduceCtorEq, true_and, and_true, narrow_i, narrow_l, narrow_r, narrow_n, fits_i, fits_l, fits_ro, fits_ra, fits_no, fits_na, Nat.reduceAdd, Nat.reduceLT, Nat.reduceLeDiff, Nat.reduceEqDiff, Nat.reduceSub, zero_add0, true_or, or_true, false_or, or_false, not_true_eq_false, not_false_eq_true, eq_self, i10, i01, im0, im1, nI_1]
            refine ih (k + 1) 1 hp2 (by omega) (by omega) ((s2.2 _ (by omega)).trans o1) (r1.b s2) (h1.b s2 f2) ((s2.2 _ (by omega)).trans t1) (f1.tr s2.fB) (Or.inl ⟨rfl, fun q hq1 hq2 hR2 => ?_⟩)
            by_cases hqk : q = k
            · subst hqk; exact hR
            · exact hal q hq1 (by omega) hR2
          · rw [sh_map hvk (by omega) hl, hCk] at hR
            simp only [x_96_81, x_96_84, x_96_85, x_96_86, x_96_89, mw_nx, mw_no, mw_ite, mw_call, mw_ret, mw_cst, mw_ii, mw_i1, mw_ll, mw_l1, mw_li, mw_i2l, mw_l2i, mw_lcm, mw_if, mw_ic, mw_ifnN, mw_ifnR, mw_go, mw_dupi, mw_dupr, mw_popi, mw_popr, mw_nw, mw_rti, mw_rtl, mw_rtr, mw_rtn, mw_rtv, mw_rt0, mw_rt1, mj_ild, mj_lld, mj_ald, mj_ist, mj_lst, mj_ast, mj_inc, mj_iz, mj_get, mj_put, mj_len, mj_iar, mj_aar, mj_iaw, mj_aaw, mj_ivs, mj_ivv, mj_ivi, mj_ob, mj_tk, mj_cat, mj_st1, mj_st2, mj_clr, mj_nwi, mj_nwq, List.getElem?_cons_zero, List.getElem?_cons_succ, List.length_cons, List.length_nil, List.set_cons_zero, List.set_cons_succ, Value.category, decide_eq_true_eq, List.map_cons, List.map_nil, List.sum_cons, List.sum_nil, Option.toList, List.cons_append, List.nil_append, ite_true, ite_false, if_true, if_false, reduceCtorEq, true_and, and_true, narrow_i, narrow_l, narrow_r, narrow_n, fits_i, fits_l, fits_ro, fits_ra, fits_no, fits_na, Nat.reduceAdd, Nat.reduceLT, Nat.reduceLeDiff, Nat.reduceEqDiff, Nat.reduceSub, zero_add0, true_or, or_true, false_or, or_false, not_true_eq_false, not_false_eq_true, eq_self, i10, i01, im0, im1, nI_1]
            exact ih (k + 1) 0 hp2 (by omega) (by omega) ((s2.2 _ (by omega)).trans o1) (r1.b s2) (h1.b s2 f2) ((s2.2 _ (by omega)).trans t1) (f1.tr s2.fB) (Or.inr ⟨rfl, fun hsp => hR (spare_i.mpr hsp k hvk (by omega) (giff.mp g))⟩)
      · simp only [x_96_55, x_96_56, x_96_59, x_96_60, mw_nx, mw_no, mw_ite, mw_call, mw_ret, mw_cst, mw_ii, mw_i1, mw_ll, mw_l1, mw_li, mw_i2l, mw_l2i, mw_lcm, mw_if, mw_ic, mw_ifnN, mw_ifnR, mw_go, mw_dupi, mw_dupr, mw_popi, mw_popr, mw_nw, mw_rti, mw_rtl, mw_rtr, mw_rtn, mw_rtv, mw_rt0, mw_rt1, mj_ild, mj_lld, mj_ald, mj_ist, mj_lst, mj_ast, mj_inc, mj_iz, mj_get, mj_put, mj_len, mj_iar, mj_aar, mj_iaw, mj_aaw, mj_ivs, mj_ivv, mj_ivi, mj_ob, mj_tk, mj_cat, mj_st1, mj_st2, mj_clr, mj_nwi, mj_nwq, List.getElem?_cons_zero, List.getElem?_cons_succ, List.length_cons, List.length_nil, List.set_cons_zero, List.set_cons_succ, Value.category, decide_eq_true_eq, List.map_cons, List.map_nil, List.sum_cons, List.sum_nil, Option.toList, List.cons_append, List.nil_append, ite_true, ite_false, if_true, if_false, reduceCtorEq, true_and, and_true, narrow_i, narrow_l, narrow_r, narrow_n, fits_i, fits_l, fits_ro, fits_ra, fits_no, fits_na, Nat.reduceAdd, Nat.reduceLT, Nat.reduceLeDiff, Nat.reduceEqDiff, Nat.reduceSub, zero_add0, true_or, or_true, false_or, or_false, not_true_eq_false, not_false_eq_true, eq_self, i10, i01, im0, im1, e1]
        exact fin0 k hp1 o1 r1 h1 f1 hal
  have first : ∀ (d k : Nat) (frt : Nat → Int32) (hp1 : mj_H), k + d = ln → v < k → sm hp hp1 (M + 6) (M + 8) → mo_h hp1 M → hp1.1 (M + 7) = some (mz 80 frt) → (∀ q, v < q → q < k → (frt q = 0 ∨ frt q = 1) ∧ (frt q = 1 ↔ sp_right n ((List.range q).map C) (C q))) → mj_wp 96 4 [some (.ref M), some (.int (nI v)), some (.int (nI k)), none, none] [] hp1 Q := by
    intro d
    induction d with
    | zero =>
      intro k frt hp1 hk hvk s1 h1 t1 hfr
      obtain rfl : k = ln := by omega
      have o1 := (s1.2 M (by omega)).trans h
      have r1 : rows hp1 M C := hr.keep (s1.2 _ (by omega)) (s1.2 _ (by omega)) (s1.2 _ (by omega))
      have e1 : nI k ≤ nI k := nI_le (Nat.le_refl _) (by omega)
      have f1 : fr hp hp1 M := ⟨s1.1, fun q _ h6 h7 => s1.2 q (by omega)⟩
      rw [x_96_4]
      simp only [x_96_5, x_96_6, x_96_9, x_96_29, x_96_30, x_96_33, x_96_34, x_96_35, x_96_36, x_96_38, mw_nx, mw_no, mw_ite, mw_call, mw_ret, mw_cst, mw_ii, mw_i1, mw_ll, mw_l1, mw_li, mw_i2l, mw_l2i, mw_lcm, mw_if, mw_ic, mw_ifnN, mw_ifnR, mw_go, mw_dupi, mw_dupr, mw_popi, mw_popr, mw_nw, mw_rti, mw_rtl, mw_rtr, mw_rtn, mw_rtv, mw_rt0, mw_rt1, mj_ild, mj_lld, mj_ald, mj_ist, mj_lst, mj_ast, mj_inc, mj_iz, mj_get, mj_put, mj_len, mj_iar, mj_aar, mj_iaw, mj_aaw, mj_ivs, mj_ivv, mj_ivi, mj_ob, mj_tk, mj_cat, mj_st1, mj_st2, mj_clr, mj_nwi, mj_nwq, List.getElem?_cons_zero, List.getElem?_cons_succ, List.length_cons, List.length_nil, List.set_cons_zero, List.set_cons_succ, Value.category, decide_eq_true_eq, List.map_cons, List.map_nil, List.sum_cons, List.sum_nil, Option.toList, List.cons_append, List.nil_append, ite_true, ite_false, if_true, if_false, reduceCtorEq, true_and, and_true, narrow_i, narrow_l, narrow_r, narrow_n, fits_i, fits_l, fits_ro, fits_ra, fits_no, fits_na, Nat.reduceAdd, Nat.reduceLT, Nat.reduceLeDiff, Nat.reduceEqDiff, Nat.reduceSub, zero_add0, true_or, or_true, false_or, or_false, not_true_eq_false, not_false_eq_true, eq_self, i10, i01, im0, im1, o1, e1, e80]
      refine m_copyLine o1 r1 (show v < 160 by omega) (show 80 < 160 by omega) (by omega) (fun hp2 r2 s2 => ?_)
      have o2 := (s2.2 M (by omega)).trans o1
      simp only [x_96_41, x_96_42, x_96_43, mw_nx, mw_no, mw_ite, mw_call, mw_ret, mw_cst, mw_ii, mw_i1, mw_ll, mw_l1, mw_li, mw_i2l, mw_l2i, mw_lcm, mw_if, mw_ic, mw_ifnN, mw_ifnR, mw_go, mw_dupi, mw_dupr, mw_popi, mw_popr, mw_nw, mw_rti, mw_rtl, mw_rtr, mw_rtn, mw_rtv, mw_rt0, mw_rt1, mj_ild, mj_lld, mj_ald, mj_ist, mj_lst, mj_ast, mj_inc, mj_iz, mj_get, mj_put, mj_len, mj_iar, mj_aar, mj_iaw, mj_aaw, mj_ivs, mj_ivv, mj_ivi, mj_ob, mj_tk, mj_cat, mj_st1, mj_st2, mj_clr, mj_nwi, mj_nwq, List.getElem?_cons_zero, List.getElem?_cons_succ, List.length_cons, List.length_nil, List.set_cons_zero, List.set_cons_succ, Value.category, decide_eq_true_eq, List.map_cons, List.map_nil, List.sum_cons, List.sum_nil, Option.toList, List.cons_append, List.nil_append, ite_true, ite_false, if_true, if_false, reduceCtorEq, true_and, and_true, narrow_i, narrow_l, narrow_r, narrow_n, fits_i, fits_l, fits_ro, fits_ra, fits_no, fits_na, Nat.reduceAdd, Nat.reduceLT, Nat.reduceLeDiff, Nat.reduceEqDiff, Nat.reduceSub, zero_add0, true_or, or_true, false_or, or_false, not_true_eq_false, not_false_eq_true, eq_self, i10, i01, im0, im1, o2]
      refine m_takeOut o2 r2 hl hv (fun hp3 o3 r3 s3 => ?_)
      simp only [x_96_46, x_96_47, x_96_48, x_96_49, x_96_50, x_96_51, mw_nx, mw_no, mw_ite, mw_call, mw_ret, mw_cst, mw_ii, mw_i1, mw_ll, mw_l1, mw_li, mw_i2l, mw_l2i, mw_lcm, mw_if, mw_ic, mw_ifnN, mw_ifnR, mw_go, mw_dupi, mw_dupr, mw_popi, mw_popr, mw_nw, mw_rti, mw_rtl, mw_rtr, mw_rtn, mw_rtv, mw_rt0, mw_rt1, mj_ild, mj_lld, mj_ald, mj_ist, mj_lst, mj_ast, mj_inc, mj_iz, mj_get, mj_put, mj_len, mj_iar, mj_aar, mj_iaw, mj_aaw, mj_ivs, mj_ivv, mj_ivi, mj_ob, mj_tk, mj_cat, mj_st1, mj_st2, mj_clr, mj_nwi, mj_nwq, List.getElem?_cons_zero, List.getElem?_cons_succ, List.length_cons, List.length_nil, List.set_cons_zero, List.set_cons_succ, Value.category, decide_eq_true_eq, List.map_cons, List.map_nil, List.sum_cons, List.sum_nil, Option.toList, List.cons_append, List.nil_append, ite_true, ite_false, if_true, if_false, reduceCtorEq, true_and, and_true, narrow_i, narrow_l, narrow_r, narrow_n, fits_i, fits_l, fits_ro, fits_ra, fits_no, fits_na, Nat.reduceAdd, Nat.reduceLT, Nat.reduceLeDiff, Nat.reduceEqDiff, Nat.reduceSub, zero_add0, true_or, or_true, false_or, or_false, not_true_eq_false, not_false_eq_true, eq_self, i10, i01, im0, im1, nI_1]
      have h3 : mo_h hp3 M := h1.keep ((s3.2 _ (by omega)).trans (s2.2 _ (by omega))) ((s3.2 _ (by omega)).trans (s2.2 _ (by omega)))
      have t3 : hp3.1 (M + 7) = some (mz 80 frt) := ((s3.2 _ (by omega)).trans (s2.2 _ (by omega))).trans t1
      have sA : sm hp1 hp2 M (M + 4) := s2.mono (by omega) (by omega)
      exact second frt hp3 hfr t3 (k - (v + 1)) (v + 1) 1 hp3 (by omega) (by omega) o3 r3 h3 t3 ((f1.tr sA.fA).tr s3.fA) (Or.inl ⟨rfl, fun q h1 h2 => absurd h2 (by omega)⟩)
    | succ d ih =>
      intro k frt hp1 hk hvk s1 h1 t1 hfr
      have o1 := (s1.2 M (by omega)).trans h
      have r1 : rows hp1 M C := hr.keep (s1.2 _ (by omega)) (s1.2 _ (by omega)) (s1.2 _ (by omega))
      have e1 : ¬ nI ln ≤ nI k := nI_ge (by omega) (by omega)
      have z0 : ¬ nI k < 0 := nI_pos (by omega)
      have z1 : (nI k).toNatClampNeg = k := nI_clamp (by omega)
      have z2 : ¬ 80 ≤ k := by omega
      rw [x_96_4]
      simp only [x_96_5, x_96_6, x_96_9, x_96_12, x_96_13, x_96_16, x_96_17, x_96_18, x_96_19, mw_nx, mw_no, mw_ite, mw_call, mw_ret, mw_cst, mw_ii, mw_i1, mw_ll, mw_l1, mw_li, mw_i2l, mw_l2i, mw_lcm, mw_if, mw_ic, mw_ifnN, mw_ifnR, mw_go, mw_dupi, mw_dupr, mw_popi, mw_popr, mw_nw, mw_rti, mw_rtl, mw_rtr, mw_rtn, mw_rtv, mw_rt0, mw_rt1, mj_ild, mj_lld, mj_ald, mj_ist, mj_lst, mj_ast, mj_inc, mj_iz, mj_get, mj_put, mj_len, mj_iar, mj_aar, mj_iaw, mj_aaw, mj_ivs, mj_ivv, mj_ivi, mj_ob, mj_tk, mj_cat, mj_st1, mj_st2, mj_clr, mj_nwi, mj_nwq, List.getElem?_cons_zero, List.getElem?_cons_succ, List.length_cons, List.length_nil, List.set_cons_zero, List.set_cons_succ, Value.category, decide_eq_true_eq, List.map_cons, List.map_nil, List.sum_cons, List.sum_nil, Option.toList, List.cons_append, List.nil_append, ite_true, ite_false, if_true, if_false, reduceCtorEq, true_and, and_true, narrow_i, narrow_l, narrow_r, narrow_n, fits_i, fits_l, fits_ro, fits_ra, fits_no, fits_na, Nat.reduceAdd, Nat.reduceLT, Nat.reduceLeDiff, Nat.reduceEqDiff, Nat.reduceSub, zero_add0, true_or, or_true, false_or, or_false, not_true_eq_false, not_false_eq_true, eq_self, i10, i01, im0, im1, o1, e1]
      refine m_isRight o1 r1 hn (show k ≤ 80 by omega) (fun j hj => hcb j (by omega)) h1.1 (fun hR hp2 s2 f2 => ?_) (fun hR hp2 s2 f2 => ?_)
      · have t2 := (s2.2 (M + 7) (by omega)).trans t1
        simp only [x_96_22, x_96_23, x_96_26, mw_nx, mw_no, mw_ite, mw_call, mw_ret, mw_cst, mw_ii, mw_i1, mw_ll, mw_l1, mw_li, mw_i2l, mw_l2i, mw_lcm, mw_if, mw_ic, mw_ifnN, mw_ifnR, mw_go, mw_dupi, mw_dupr, mw_popi, mw_popr, mw_nw, mw_rti, mw_rtl, mw_rtr, mw_rtn, mw_rtv, mw_rt0, mw_rt1, mj_ild, mj_lld, mj_ald, mj_ist, mj_lst, mj_ast, mj_inc, mj_iz, mj_get, mj_put, mj_len, mj_iar, mj_aar, mj_iaw, mj_aaw, mj_ivs, mj_ivv, mj_ivi, mj_ob, mj_tk, mj_cat, mj_st1, mj_st2, mj_clr, mj_nwi, mj_nwq, List.getElem?_cons_zero, List.getElem?_cons_succ, List.length_cons, List.length_nil, List.set_cons_zero, List.set_cons_succ, Value.category, decide_eq_true_eq, List.map_cons, List.map_nil, List.sum_cons, List.sum_nil, Option.toList, List.cons_append, List.nil_append, ite_true, ite_false, if_true, if_false, reduceCtorEq, true_and, and_true, narrow_i, narrow_l, narrow_r, narrow_n, fits_i, fits_l, fits_ro, fits_ra, fits_no, fits_na, Nat.reduceAdd, Nat.reduceLT, Nat.reduceLeDiff, Nat.reduceEqDiff, Nat.reduceSub, zero_add0, true_or, or_true, false_or, or_false, not_true_eq_false, not_false_eq_true, eq_self, i10, i01, im0, im1, t2, at_1, z0, z1, z2, nz1, nI_1]
        refine ih (k + 1) (upd frt k 1) _ (by omega) (by omega) ((s1.tr (s2.mono (by omega) (by omega))).tr (sm.up (by omega) (by omega))) ⟨?_, ⟨_, mj_up_at⟩⟩ mj_up_at (fun q hq1 hq2 => ?_)
        · obtain ⟨fh, q⟩ := f2
          exact ⟨fh, by rw [u_7_6]; exact q⟩
        · by_cases hqk : q = k
          · subst hqk
            rw [upd_at]
            exact ⟨Or.inr rfl, ⟨fun _ => hR, fun _ => rfl⟩⟩
          · rw [upd_off hqk]
            exact hfr q hq1 (by omega)
      · have t2 := (s2.2 (M + 7) (by omega)).trans t1
        simp only [x_96_22, x_96_23, x_96_26, mw_nx, mw_no, mw_ite, mw_call, mw_ret, mw_cst, mw_ii, mw_i1, mw_ll, mw_l1, mw_li, mw_i2l, mw_l2i, mw_lcm, mw_if, mw_ic, mw_ifnN, mw_ifnR, mw_go, mw_dupi, mw_dupr, mw_popi, mw_popr, mw_nw, mw_rti, mw_rtl, mw_rtr, mw_rtn, mw_rtv, mw_rt0, mw_rt1, mj_ild, mj_lld, mj_ald, mj_ist, mj_lst, mj_ast, mj_inc, mj_iz, mj_get, mj_put, mj_len, mj_iar, mj_aar, mj_iaw, mj_aaw, mj_ivs, mj_ivv, mj_ivi, mj_ob, mj_tk, mj_cat, mj_st1, mj_st2, mj_clr, mj_nwi, mj_nwq, List.getElem?_cons_zero, List.getElem?_cons_succ, List.length_cons, List.length_nil, List.set_cons_zero, List.set_cons_succ, Value.category, decide_eq_true_eq, List.map_cons, List.map_nil, List.sum_cons, List.sum_nil, Option.toList, List.cons_append, List.nil_append, ite_true, ite_false, if_true, if_false, reduceCtorEq, true_and, and_true, narrow_i, narrow_l, narrow_r, narrow_n, fits_i, fits_l, fits_ro, fits_ra, fits_no, fits_na, Nat.reduceAdd, Nat.reduceLT, Nat.reduceLeDiff, Nat.reduceEqDiff, Nat.reduceSub, zero_add0, true_or, or_true, false_or, or_false, not_true_eq_false, not_false_eq_true, eq_self, i10, i01, im0, im1, t2, at_1, z0, z1, z2, nz0, nI_1]
        refine ih (k + 1) (upd frt k 0) _ (by omega) (by omega) ((s1.tr (s2.mono (by omega) (by omega))).tr (sm.up (by omega) (by omega))) ⟨?_, ⟨_, mj_up_at⟩⟩ mj_up_at (fun q hq1 hq2 => ?_)
        · obtain ⟨fh, q⟩ := f2
          exact ⟨fh, by rw [u_7_6]; exact q⟩
        · by_cases hqk : q = k
          · subst hqk
            rw [upd_at]
            exact ⟨Or.inl rfl, ⟨fun z => absurd z (by decide), fun z => absurd z hR⟩⟩
          · rw [upd_off hqk]
            exact hfr q hq1 (by omega)
  rw [en_96]
  simp only [x_96_0, x_96_1, x_96_2, x_96_3, mw_nx, mw_no, mw_ite, mw_call, mw_ret, mw_cst, mw_ii, mw_i1, mw_ll, mw_l1, mw_li, mw_i2l, mw_l2i, mw_lcm, mw_if, mw_ic, mw_ifnN, mw_ifnR, mw_go, mw_dupi, mw_dupr, mw_popi, mw_popr, mw_nw, mw_rti, mw_rtl, mw_rtr, mw_rtn, mw_rtv, mw_rt0, mw_rt1, mj_ild, mj_lld, mj_ald, mj_ist, mj_lst, mj_ast, mj_inc, mj_iz, mj_get, mj_put, mj_len, mj_iar, mj_aar, mj_iaw, mj_aaw, mj_ivs, mj_ivv, mj_ivi, mj_ob, mj_tk, mj_cat, mj_st1, mj_st2, mj_clr, mj_nwi, mj_nwq, List.getElem?_cons_zero, List.getElem?_cons_succ, List.length_cons, List.length_nil, List.set_cons_zero, List.set_cons_succ, Value.category, decide_eq_true_eq, List.map_cons, List.map_nil, List.sum_cons, List.sum_nil, Option.toList, List.cons_append, List.nil_append, ite_true, ite_false, if_true, if_false, reduceCtorEq, true_and, and_true, narrow_i, narrow_l, narrow_r, narrow_n, fits_i, fits_l, fits_ro, fits_ra, fits_no, fits_na, Nat.reduceAdd, Nat.reduceLT, Nat.reduceLeDiff, Nat.reduceEqDiff, Nat.reduceSub, zero_add0, true_or, or_true, false_or, or_false, not_true_eq_false, not_false_eq_true, eq_self, i10, i01, im0, im1, nI_1]
  have hh0 := hh
  obtain ⟨-, frt, t1⟩ := hh0
  exact first (ln - (v + 1)) (v + 1) frt hp (by omega) (by omega) sm.rf hh t1 (fun q h1 h2 => absurd h2 (by omega))
theorem m_shortenLine (h : hp.1 M = some (mo_o M n ln cm ul a b t)) {i s : Nat} {cs : List Nat} (hr : rows hp M C) (hc : C i = (s, cs)) (hs : s = 1 ∨ s = 2) (hn : n ≤ 64) (hi : i < 80) (hcb : ∀ j, j ≤ i → ∀ c ∈ (C j).2, c < 2 * n) (hh : mo_h hp M)
    (hQ : ∀ hp' : mj_H, hp'.1 M = some (mo_o M n ln cm ul a b t) → rows hp' M (va_up C i (s, sp_lits n ((List.range i).map C) s [] cs)) → mo_h hp' M → fr hp hp' M → Q none hp') : mj_call 97 [.ref M, .int (nI i)] hp Q := by
  generalize hah : (List.range i).map C = ah at hQ
  have key : ∀ (rest kept : List Nat) (hp1 : mj_H) (o3 o4 : Option Value), hp1.1 M = some (mo_o M n ln cm ul a b t) → rows hp1 M (va_up C i (s, kept ++ rest)) → mo_h hp1 M → fr hp hp1 M → (∀ c ∈ kept ++ rest, c < 2 * n) → sp_lits n ah s kept rest = sp_lits n ah s [] cs → mj_wp 97 2 [some (.ref M), some (.int (nI i)), some (.int (nI kept.length)), o3, o4] [] hp1 Q := by
    intro rest
    induction rest with
    | nil =>
      intro kept hp1 o3 o4 o1 r1 h1 f1 hb he
      have r10 := r1
      obtain ⟨fk, fm, fl, k1, k2, k3, k4⟩ := r10
      obtain ⟨a1, a2, a3, a4, a5⟩ := k4 i (by omega)
      rw [va_up_self] at a2 a4
      dsimp only at a2 a4
      rw [List.append_nil] at a2 a4
      have hlen := ln_len a4
      have e1 : nI kept.length ≤ nI kept.length := nI_le (Nat.le_refl _) (by omega)
      have z0 : ¬ nI i < 0 := nI_pos (by omega)
      have z1 : (nI i).toNatClampNeg = i := nI_clamp (by omega)
      have z2 : ¬ 160 ≤ i := by omega
      rw [x_97_2]
      simp only [x_97_3, x_97_4, x_97_7, x_97_8, x_97_9, x_97_70, mw_nx, mw_no, mw_ite, mw_call, mw_ret, mw_cst, mw_ii, mw_i1, mw_ll, mw_l1, mw_li, mw_i2l, mw_l2i, mw_lcm, mw_if, mw_ic, mw_ifnN, mw_ifnR, mw_go, mw_dupi, mw_dupr, mw_popi, mw_popr, mw_nw, mw_rti, mw_rtl, mw_rtr, mw_rtn, mw_rtv, mw_rt0, mw_rt1, mj_ild, mj_lld, mj_ald, mj_ist, mj_lst, mj_ast, mj_inc, mj_iz, mj_get, mj_put, mj_len, mj_iar, mj_aar, mj_iaw, mj_aaw, mj_ivs, mj_ivv, mj_ivi, mj_ob, mj_tk, mj_cat, mj_st1, mj_st2, mj_clr, mj_nwi, mj_nwq, List.getElem?_cons_zero, List.getElem?_cons_succ, List.length_cons, List.length_nil, List.set_cons_zero, List.set_cons_succ, Value.category, decide_eq_true_eq, List.map_cons, List.map_nil, List.sum_cons, List.sum_nil, Option.toList, List.cons_append, List.nil_append, ite_true, ite_false, if_true, if_false, reduceCtorEq, true_and, and_true, narrow_i, narrow_l, narrow_r, narrow_n, fits_i, fits_l, fits_ro, fits_ra, fits_no, fits_na, Nat.reduceAdd, Nat.reduceLT, Nat.reduceLeDiff, Nat.reduceEqDiff, Nat.reduceSub, zero_add0, true_or, or_true, false_or, or_false, not_true_eq_false, not_false_eq_true, eq_self, i10, i01, im0, im1, o1, k2, at_0, z0, z1, z2, a2, e1]
      rw [sp_lits] at he
      rw [List.append_nil, he] at r1
      exact hQ hp1 o1 r1 h1 f1
    | cons c r ih =>
      intro kept hp1 o3 o4 o1 r1 h1 f1 hb he
      have r10 := r1
      obtain ⟨fk, fm, fl, k1, k2, k3, k4⟩ := r10
      obtain ⟨a1, a2, a3, a4, a5⟩ := k4 i (by omega)
      rw [va_up_self] at a1 a2 a3 a4 a5
      dsimp only at a1 a2 a3 a4 a5
      have hlen := ln_len a4
      have hl1 : kept.length < (kept ++ c :: r).length := by simp
      have hget : (kept ++ c :: r).getD kept.length 0 = c := by simp [List.getD_eq_getElem?_getD]
      have hc128 : c < 128 := a4.2 c (by simp)
      have e1 : ¬ nI (kept ++ c :: r).length ≤ nI kept.length := nI_ge hl1 (by omega)
      have z0 : ¬ nI i < 0 := nI_pos (by omega)
      have z1 : (nI i).toNatClampNeg = i := nI_clamp (by omega)
      have z2 : ¬ 160 ≤ i := by omega
      have p0 : ¬ nI (128 * i + kept.length) < 0 := nI_pos (by omega)
      have p1 : (nI (128 * i + kept.length)).toNatClampNeg = 128 * i + kept.length := nI_clamp (by omega)
      have p2 : ¬ 20480 ≤ 128 * i + kept.length := by omega
      have cbu : ∀ (l : List Nat), (∀ c ∈ l, c < 2 * n) → ∀ j, j ≤ i → ∀ c ∈ (va_up C i (s, l) j).2, c < 2 * n := by
        intro l hl j hj c hc2
        by_cases hji : j = i
        · subst hji; rw [va_up_self] at hc2; exact hl c hc2
        · rw [va_up_ne _ _ hji] at hc2; exact hcb j hj c hc2
      have hb2 : ∀ c ∈ kept ++ r, c < 2 * n := fun d hd => hb d (by
        rcases List.mem_append.mp hd with q | q
        · exact List.mem_append.mpr (Or.inl q)
        · exact List.mem_append.mpr (Or.inr (List.mem_cons_of_mem _ q)))
      rw [sp_lits] at he
      have next : ∀ (hp5 : mj_H) (o4 : Option Value), hp5.1 M = some (mo_o M n ln cm ul a b t) → rows hp5 M (va_up C i (s, kept ++ c :: r)) → mo_h hp5 M → fr hp hp5 M → sp_lits n ah s (kept ++ [c]) r = sp_lits n ah s [] cs → mj_wp 97 60 [some (.ref M), some (.int (nI i)), some (.int (nI kept.length)), some (.int 0), o4] [] hp5 Q := by
        intro hp5 o4 o5 r5 h5 f5 he5
        simp only [x_97_60, x_97_61, x_97_64, x_97_67, mw_nx, mw_no, mw_ite, mw_call, mw_ret, mw_cst, mw_ii, mw_i1, mw_ll, mw_l1, mw_li, mw_i2l, mw_l2i, mw_lcm, mw_if, mw_ic, mw_ifnN, mw_ifnR, mw_go, mw_dupi, mw_dupr, mw_popi, mw_popr, mw_nw, mw_rti, mw_rtl, mw_rtr, mw_rtn, mw_rtv, mw_rt0, mw_rt1, mj_ild, mj_lld, mj_ald, mj_ist, mj_lst, mj_ast, mj_inc, mj_iz, mj_get, mj_put, mj_len, mj_iar, mj_aar, mj_iaw, mj_aaw, mj_ivs, mj_ivv, mj_ivi, mj_ob, mj_tk, mj_cat, mj_st1, mj_st2, mj_clr, mj_nwi, mj_nwq, List.getElem?_cons_zero, List.getElem?_cons_succ, List.length_cons, List.length_nil, List.set_cons_zero, List.set_cons_succ, Value.category, decide_eq_true_eq, List.map_cons, List.map_nil, List.sum_cons, List.sum_nil, Option.toList, List.cons_append, List.nil_append, ite_true, ite_false, if_true, if_false, reduceCtorEq, true_and, and_true, narrow_i, narrow_l, narrow_r, narrow_n, fits_i, fits_l, fits_ro, fits_ra, fits_no, fits_na, Nat.reduceAdd, Nat.reduceLT, Nat.reduceLeDiff, Nat.reduceEqDiff, Nat.reduceSub, zero_add0, true_or, or_true, false_or, or_false, not_true_eq_false, not_false_eq_true, eq_self, i10, i01, im0, im1, nI_1]
        have := ih (kept ++ [c]) hp5 (some (.int 0)) o4 o5 (by rw [List.append_assoc]; exact r5) h5 f5 (by rw [List.append_assoc]; exact hb) he5
        rw [List.length_append] at this
        exact this
      rw [x_97_2]
      simp only [x_97_3, x_97_4, x_97_7, x_97_8, x_97_9, x_97_12, x_97_13, x_97_14, x_97_15, x_97_16, mw_nx, mw_no, mw_ite, mw_call, mw_ret, mw_cst, mw_ii, mw_i1, mw_ll, mw_l1, mw_li, mw_i2l, mw_l2i, mw_lcm, mw_if, mw_ic, mw_ifnN, mw_ifnR, mw_go, mw_dupi, mw_dupr, mw_popi, mw_popr, mw_nw, mw_rti, mw_rtl, mw_rtr, mw_rtn, mw_rtv, mw_rt0, mw_rt1, mj_ild, mj_lld, mj_ald, mj_ist, mj_lst, mj_ast, mj_inc, mj_iz, mj_get, mj_put, mj_len, mj_iar, mj_aar, mj_iaw, mj_aaw, mj_ivs, mj_ivv, mj_ivi, mj_ob, mj_tk, mj_cat, mj_st1, mj_st2, mj_clr, mj_nwi, mj_nwq, List.getElem?_cons_zero, List.getElem?_cons_succ, List.length_cons, List.length_nil, List.set_cons_zero, List.set_cons_succ, Value.category, decide_eq_true_eq, List.map_cons, List.map_nil, List.sum_cons, List.sum_nil, Option.toList, List.cons_append, List.nil_append, ite_true, ite_false, if_true, if_false, reduceCtorEq, true_and, and_true, narrow_i, narrow_l, narrow_r, narrow_n, fits_i, fits_l, fits_ro, fits_ra, fits_no, fits_na, Nat.reduceAdd, Nat.reduceLT, Nat.reduceLeDiff, Nat.reduceEqDiff, Nat.reduceSub, zero_add0, true_or, or_true, false_or, or_false, not_true_eq_false, not_false_eq_true, eq_self, i10, i01, im0, im1, o1, k2, at_0, z0, z1, z2, a2, e1]
      refine m_isRight o1 r1 hn (show i ≤ 80 by omega) (cbu _ hb) h1.1 (fun hR hp2 s2 f2 => ?_) (fun hR hp2 s2 f2 => ?_)
      · rw [va_up_self, map_up, hah] at hR
        have o2 := (s2.2 M (by omega)).trans o1
        have k3' := (s2.2 (M + 3) (by omega)).trans k3
        simp only [x_97_19, x_97_22, x_97_23, x_97_26, x_97_29, x_97_30, x_97_31, x_97_32, x_97_33, x_97_34, x_97_36, x_97_37, x_97_38, x_97_39, mw_nx, mw_no, mw_ite, mw_call, mw_ret, mw_cst, mw_ii, mw_i1, mw_ll, mw_l1, mw_li, mw_i2l, mw_l2i, mw_lcm, mw_if, mw_ic, mw_ifnN, mw_ifnR, mw_go, mw_dupi, mw_dupr, mw_popi, mw_popr, mw_nw, mw_rti, mw_rtl, mw_rtr, mw_rtn, mw_rtv, mw_rt0, mw_rt1, mj_ild, mj_lld, mj_ald, mj_ist, mj_lst, mj_ast, mj_inc, mj_iz, mj_get, mj_put, mj_len, mj_iar, mj_aar, mj_iaw, mj_aaw, mj_ivs, mj_ivv, mj_ivi, mj_ob, mj_tk, mj_cat, mj_st1, mj_st2, mj_clr, mj_nwi, mj_nwq, List.getElem?_cons_zero, List.getElem?_cons_succ, List.length_cons, List.length_nil, List.set_cons_zero, List.set_cons_succ, Value.category, decide_eq_true_eq, List.map_cons, List.map_nil, List.sum_cons, List.sum_nil, Option.toList, List.cons_append, List.nil_append, ite_true, ite_false, if_true, if_false, reduceCtorEq, true_and, and_true, narrow_i, narrow_l, narrow_r, narrow_n, fits_i, fits_l, fits_ro, fits_ra, fits_no, fits_na, Nat.reduceAdd, Nat.reduceLT, Nat.reduceLeDiff, Nat.reduceEqDiff, Nat.reduceSub, zero_add0, true_or, or_true, false_or, or_false, not_true_eq_false, not_false_eq_true, eq_self, i10, i01, im0, im1, o2, k3', at_0, ix128, p0, p1, p2, a3 _ hl1, hget]
        refine m_removeLiteral o2 (r1.b s2) (show i < 160 by omega) (fun hp3 r3 s3 => ?_)
        have o3' := (s3.2 M (by omega)).trans o2
        have h2 := h1.b s2 f2
        have h3 : mo_h hp3 M := h2.keep (s3.2 _ (by omega)) (s3.2 _ (by omega))
        simp only [x_97_42, x_97_43, x_97_44, mw_nx, mw_no, mw_ite, mw_call, mw_ret, mw_cst, mw_ii, mw_i1, mw_ll, mw_l1, mw_li, mw_i2l, mw_l2i, mw_lcm, mw_if, mw_ic, mw_ifnN, mw_ifnR, mw_go, mw_dupi, mw_dupr, mw_popi, mw_popr, mw_nw, mw_rti, mw_rtl, mw_rtr, mw_rtn, mw_rtv, mw_rt0, mw_rt1, mj_ild, mj_lld, mj_ald, mj_ist, mj_lst, mj_ast, mj_inc, mj_iz, mj_get, mj_put, mj_len, mj_iar, mj_aar, mj_iaw, mj_aaw, mj_ivs, mj_ivv, mj_ivi, mj_ob, mj_tk, mj_cat, mj_st1, mj_st2, mj_clr, mj_nwi, mj_nwq, List.getElem?_cons_zero, List.getElem?_cons_succ, List.length_cons, List.length_nil, List.set_cons_zero, List.set_cons_succ, Value.category, decide_eq_true_eq, List.map_cons, List.map_nil, List.sum_cons, List.sum_nil, Option.toList, List.cons_append, List.nil_append, ite_true, ite_false, if_true, if_false, reduceCtorEq, true_and, and_true, narrow_i, narrow_l, narrow_r, narrow_n, fits_i, fits_l, fits_ro, fits_ra, fits_no, fits_na, Nat.reduceAdd, Nat.reduceLT, Nat.reduceLeDiff, Nat.reduceEqDiff, Nat.reduceSub, zero_add0, true_or, or_true, false_or, or_false, not_true_eq_false, not_false_eq_true, eq_self, i10, i01, im0, im1, o3']
        refine m_isRight o3' r3 hn (show i ≤ 80 by omega) (cbu _ hb2) h3.1 (fun hR2 hp4 s4 f4 => ?_) (fun hR2 hp4 s4 f4 => ?_)
        · rw [va_up_self, map_up, hah] at hR2
          rw [sp_if_t ⟨hR, hR2⟩] at he
          have o4' := (s4.2 M (by omega)).trans o3'
          simp only [x_97_47, x_97_48, x_97_49, x_97_52, x_97_53, x_97_54, x_97_55, x_97_57, x_97_60, x_97_61, x_97_64, x_97_67, mw_nx, mw_no, mw_ite, mw_call, mw_ret, mw_cst, mw_ii, mw_i1, mw_ll, mw_l1, mw_li, mw_i2l, mw_l2i, mw_lcm, mw_if, mw_ic, mw_ifnN, mw_ifnR, mw_go, mw_dupi, mw_dupr, mw_popi, mw_popr, mw_nw, mw_rti, mw_rtl, mw_rtr, mw_rtn, mw_rtv, mw_rt0, mw_rt1, mj_ild, mj_lld, mj_ald, mj_ist, mj_lst, mj_ast, mj_inc, mj_iz, mj_get, mj_put, mj_len, mj_iar, mj_aar, mj_iaw, mj_aaw, mj_ivs, mj_ivv, mj_ivi, mj_ob, mj_tk, mj_cat, mj_st1, mj_st2, mj_clr, mj_nwi, mj_nwq, List.getElem?_cons_zero, List.getElem?_cons_succ, List.length_cons, List.length_nil, List.set_cons_zero, List.set_cons_succ, Value.category, decide_eq_true_eq, List.map_cons, List.map_nil, List.sum_cons, List.sum_nil, Option.toList, List.cons_append, List.nil_append, ite_true, ite_false, if_true, if_false, reduceCtorEq, true_and, and_true, narrow_i, narrow_l, narrow_r, narrow_n, fits_i, fits_l, fits_ro, fits_ra, fits_no, fits_na, Nat.reduceAdd, Nat.reduceLT, Nat.reduceLeDiff, Nat.reduceEqDiff, Nat.reduceSub, zero_add0, true_or, or_true, false_or, or_false, not_true_eq_false, not_false_eq_true, eq_self, i10, i01, im0, im1]
          have sA : sm hp2 hp3 M (M + 4) := s3.mono (by omega) (by omega)
          exact ih kept hp4 _ _ o4' (r3.b s4) (h3.b s4 f4) (((f1.tr s2.fB).tr sA.fA).tr s4.fB) hb2 he
        · rw [va_up_self, map_up, hah] at hR2
          rw [sp_if_f (fun q => hR2 q.2)] at he
          have o4' := (s4.2 M (by omega)).trans o3'
          have h4 := h3.b s4 f4
          simp only [x_97_47, x_97_48, x_97_49, x_97_52, x_97_53, x_97_54, x_97_55, x_97_57, mw_nx, mw_no, mw_ite, mw_call, mw_ret, mw_cst, mw_ii, mw_i1, mw_ll, mw_l1, mw_li, mw_i2l, mw_l2i, mw_lcm, mw_if, mw_ic, mw_ifnN, mw_ifnR, mw_go, mw_dupi, mw_dupr, mw_popi, mw_popr, mw_nw, mw_rti, mw_rtl, mw_rtr, mw_rtn, mw_rtv, mw_rt0, mw_rt1, mj_ild, mj_lld, mj_ald, mj_ist, mj_lst, mj_ast, mj_inc, mj_iz, mj_get, mj_put, mj_len, mj_iar, mj_aar, mj_iaw, mj_aaw, mj_ivs, mj_ivv, mj_ivi, mj_ob, mj_tk, mj_cat, mj_st1, mj_st2, mj_clr, mj_nwi, mj_nwq, List.getElem?_cons_zero, List.getElem?_cons_succ, List.length_cons, List.length_nil, List.set_cons_zero, List.set_cons_succ, Value.category, decide_eq_true_eq, List.map_cons, List.map_nil, List.sum_cons, List.sum_nil, Option.toList, List.cons_append, List.nil_append, ite_true, ite_false, if_true, if_false, reduceCtorEq, true_and, and_true, narrow_i, narrow_l, narrow_r, narrow_n, fits_i, fits_l, fits_ro, fits_ra, fits_no, fits_na, Nat.reduceAdd, Nat.reduceLT, Nat.reduceLeDiff, Nat.reduceEqDiff, Nat.reduceSub, zero_add0, true_or, or_true, false_or, or_false, not_true_eq_false, not_false_eq_true, eq_self, i10, i01, im0, im1, o4']
          refine m_insertLiteral o4' (r3.b s4) a4 (show i < 160 by omega) (fun hp5 r5 s5 => ?_)
          have sA : sm hp2 hp3 M (M + 4) := s3.mono (by omega) (by omega)
          have sB : sm hp4 hp5 M (M + 4) := s5.mono (by omega) (by omega)
          exact next hp5 _ ((s5.2 M (by omega)).trans o4') r5 (h4.keep (s5.2 _ (by omega)) (s5.2 _ (by omega))) ((((f1.tr s2.fB).tr sA.fA).tr s4.fB).tr sB.fA) he
      · rw [va_up_self, map_up, hah] at hR
        rw [sp_if_f (fun q => hR q.1)] at he
        have o2 := (s2.2 M (by omega)).trans o1
        simp only [x_97_19, mw_nx, mw_no, mw_ite, mw_call, mw_ret, mw_cst, mw_ii, mw_i1, mw_ll, mw_l1, mw_li, mw_i2l, mw_l2i, mw_lcm, mw_if, mw_ic, mw_ifnN, mw_ifnR, mw_go, mw_dupi, mw_dupr, mw_popi, mw_popr, mw_nw, mw_rti, mw_rtl, mw_rtr, mw_rtn, mw_rtv, mw_rt0, mw_rt1, mj_ild, mj_lld, mj_ald, mj_ist, mj_lst, mj_ast, mj_inc, mj_iz, mj_get, mj_put, mj_len, mj_iar, mj_aar, mj_iaw, mj_aaw, mj_ivs, mj_ivv, mj_ivi, mj_ob, mj_tk, mj_cat, mj_st1, mj_st2, mj_clr, mj_nwi, mj_nwq, List.getElem?_cons_zero, List.getElem?_cons_succ, List.length_cons, List.length_nil, List.set_cons_zero, List.set_cons_succ, Value.category, decide_eq_true_eq, List.map_cons, List.map_nil, List.sum_cons, List.sum_nil, Option.toList, List.cons_append, List.nil_append, ite_true, ite_false, if_true, if_false, reduceCtorEq, true_and, and_true, narrow_i, narrow_l, narrow_r, narrow_n, fits_i, fits_l, fits_ro, fits_ra, fits_no, fits_na, Nat.reduceAdd, Nat.reduceLT, Nat.reduceLeDiff, Nat.reduceEqDiff, Nat.reduceSub, zero_add0, true_or, or_true, false_or, or_false, not_true_eq_false, not_false_eq_true, eq_self, i10, i01, im0, im1]
        exact next hp2 _ o2 (r1.b s2) (h1.b s2 f2) (f1.tr s2.fB) he
  have e4 : va_up C i (s, cs) = C := by
    funext j
    by_cases hj : j = i
    · subst hj; rw [va_up_self, hc]
    · rw [va_up_ne _ _ hj]
  rw [en_97]
  simp only [x_97_0, x_97_1, mw_nx, mw_no, mw_ite, mw_call, mw_ret, mw_cst, mw_ii, mw_i1, mw_ll, mw_l1, mw_li, mw_i2l, mw_l2i, mw_lcm, mw_if, mw_ic, mw_ifnN, mw_ifnR, mw_go, mw_dupi, mw_dupr, mw_popi, mw_popr, mw_nw, mw_rti, mw_rtl, mw_rtr, mw_rtn, mw_rtv, mw_rt0, mw_rt1, mj_ild, mj_lld, mj_ald, mj_ist, mj_lst, mj_ast, mj_inc, mj_iz, mj_get, mj_put, mj_len, mj_iar, mj_aar, mj_iaw, mj_aaw, mj_ivs, mj_ivv, mj_ivi, mj_ob, mj_tk, mj_cat, mj_st1, mj_st2, mj_clr, mj_nwi, mj_nwq, List.getElem?_cons_zero, List.getElem?_cons_succ, List.length_cons, List.length_nil, List.set_cons_zero, List.set_cons_succ, Value.category, decide_eq_true_eq, List.map_cons, List.map_nil, List.sum_cons, List.sum_nil, Option.toList, List.cons_append, List.nil_append, ite_true, ite_false, if_true, if_false, reduceCtorEq, true_and, and_true, narrow_i, narrow_l, narrow_r, narrow_n, fits_i, fits_l, fits_ro, fits_ra, fits_no, fits_na, Nat.reduceAdd, Nat.reduceLT, Nat.reduceLeDiff, Nat.reduceEqDiff, Nat.reduceSub, zero_add0, true_or, or_true, false_or, or_false, not_true_eq_false, not_false_eq_true, eq_self, i10, i01, im0, im1]
  exact key cs [] hp none none h (by rw [List.nil_append, e4]; exact hr) hh fr.rf (fun c hc2 => hcb i (Nat.le_refl _) c (by rw [hc]; exact hc2)) rfl
end MT
section MU
variable {hp : mj_H} {Q : mj_Q} {M : Nat} {s : sp_S}
theorem e_shorten (h : mo_at hp M s) (hQ : ∀ hp' : mj_H, mo_at hp' M (so_shorten s).1 → sm hp hp' M (M + 8) → Q (some (.int (so_shorten s).2)) hp') : mj_call 100 [.ref M] hp Q := by
  obtain ⟨a, b, t0, C, hw⟩ := mo_w_of h
  have ho := hw.2.1
  have body : ∀ hp0 : mj_H, mo_w hp0 M a b 0 C s → sm hp hp0 M (M + 8) → mj_wp 100 5 [some (.ref M), none] [] hp0 Q := by
    obtain ⟨n, col, ls, xs⟩ := s
    intro hp0 hw0 s0
    have hw1 := hw0
    obtain ⟨hn, ho, hr, hmap, hk, hlv, hc, hcb, hu, hh⟩ := hw0
    dsimp only at *
    unfold so_shorten sp_shorten at hQ
    dsimp only at hQ
    have phase2 : ∀ (ln2 : Nat), ln2 ≤ 80 → ∀ (d i : Nat) (C1 : Nat → sp_Ln) (hp1 : mj_H), i + d = ln2 → hp1.1 M = some (mo_o M n ln2 col.length xs.length a b 0) → rows hp1 M C1 → (∀ j, j < ln2 → lv n (C1 j)) → mo_h hp1 M → fr hp0 hp1 M → sp_ph2 n ((List.range i).map C1) ((List.range' i d).map C1) = sp_ph2 n [] (sp_dl n (ls.length - 1) ls) → mj_wp 100 38 [some (.ref M), some (.int (nI i))] [] hp1 Q := by
      intro ln2 hln2 d
      induction d with
      | zero =>
        intro i C1 hp1 hi o1 r1 l1 h1 f1 he
        obtain rfl : i = ln2 := by omega
        have e1 : nI i ≤ nI i := nI_le (Nat.le_refl _) (by omega)
        rw [x_100_38]
        simp only [x_100_39, x_100_40, x_100_43, x_100_77, x_100_78, x_100_81, mw_nx, mw_no, mw_ite, mw_call, mw_ret, mw_cst, mw_ii, mw_i1, mw_ll, mw_l1, mw_li, mw_i2l, mw_l2i, mw_lcm, mw_if, mw_ic, mw_ifnN, mw_ifnR, mw_go, mw_dupi, mw_dupr, mw_popi, mw_popr, mw_nw, mw_rti, mw_rtl, mw_rtr, mw_rtn, mw_rtv, mw_rt0, mw_rt1, mj_ild, mj_lld, mj_ald, mj_ist, mj_lst, mj_ast, mj_inc, mj_iz, mj_get, mj_put, mj_len, mj_iar, mj_aar, mj_iaw, mj_aaw, mj_ivs, mj_ivv, mj_ivi, mj_ob, mj_tk, mj_cat, mj_st1, mj_st2, mj_clr, mj_nwi, mj_nwq, List.getElem?_cons_zero, List.getElem?_cons_succ, List.length_cons, List.length_nil, List.set_cons_zero, List.set_cons_succ, Value.category, decide_eq_true_eq, List.map_cons, List.map_nil, List.sum_cons, List.sum_nil, Option.toList, List.cons_append, List.nil_append, ite_true, ite_false, if_true, if_false, reduceCtorEq, true_and, and_true, narrow_i, narrow_l, narrow_r, narrow_n, fits_i, fits_l, fits_ro, fits_ra, fits_no, fits_na, Nat.reduceAdd, Nat.reduceLT, Nat.reduceLeDiff, Nat.reduceEqDiff, Nat.reduceSub, zero_add0, true_or, or_true, false_or, or_false, not_true_eq_false, not_false_eq_true, eq_self, i10, i01, im0, im1, o1, e1]
        have he2 : (List.range i).map C1 = sp_ph2 n [] (sp_dl n (ls.length - 1) ls) := by rw [← he]; simp [List.range', sp_ph2]
        have hlen : (sp_ph2 n [] (sp_dl n (ls.length - 1) ls)).length = i := by rw [← he2]; simp
        rw [hlen] at hQ
        refine hQ hp1 (hw1.fr f1 (by rw [hlen]; exact o1) r1 (by rw [hlen]; exact he2) (by rw [hlen]; exact hln2) (fun l hl => ?_) h1).at (s0.tr f1.sm)
        rw [← he2] at hl
        obtain ⟨j, hj, rfl⟩ := rm_mem.mp hl
        exact l1 j hj
      | succ d ih =>
        intro i C1 hp1 hi o1 r1 l1 h1 f1 he
        have r10 := r1
        obtain ⟨fk, fm, fl, k1, k2, k3, k4⟩ := r10
        obtain ⟨a1, a2, a3, a4, a5⟩ := k4 i (by omega)
        have e1 : ¬ nI ln2 ≤ nI i := nI_ge (by omega) (by omega)
        have z0 : ¬ nI i < 0 := nI_pos (by omega)
        have z1 : (nI i).toNatClampNeg = i := nI_clamp (by omega)
        have z2 : ¬ 160 ≤ i := by omega
        have ee1 : (nI (C1 i).1 = 1) = ((C1 i).1 = 1) := propext (nI_eq (b := 1) (by omega) (by omega))
        have ee2 : (nI (C1 i).1 = 2) = ((C1 i).1 = 2) := propext (nI_eq (b := 2) (by omega) (by omega))
        rw [List.range'_succ, List.map_cons, sp_ph2] at he
        have go : ∀ (C2 : Nat → sp_Ln) (hp2 : mj_H), (∀ j, j ≠ i → C2 j = C1 j) → C2 i = (if (C1 i).1 = 1 ∨ (C1 i).1 = 2 then ((C1 i).1, sp_lits n ((List.range i).map C1) (C1 i).1 [] (C1 i).2) else C1 i) → hp2.1 M = some (mo_o M n ln2 col.length xs.length a b 0) → rows hp2 M C2 → lv n (C2 i) → mo_h hp2 M → fr hp0 hp2 M → mj_wp 100 38 [some (.ref M), some (.int (nI (i + 1)))] [] hp2 Q := by
          intro C2 hp2 q1 q2 q3 q4 q5 q6 q7
          refine ih (i + 1) C2 hp2 (by omega) q3 q4 (fun j hj => ?_) q6 q7 ?_
          · by_cases hji : j = i
            · rw [hji]; exact q5
            · rw [q1 j hji]; exact l1 j hj
          · rw [← he, ← q2, List.range_succ, List.map_append]
            have m1 : (List.range i).map C2 = (List.range i).map C1 := List.map_congr_left (fun j hj => q1 j (by have := List.mem_range.mp hj; omega))
            have m2 : (List.range' (i + 1) d).map C2 = (List.range' (i + 1) d).map C1 := List.map_congr_left (fun j hj => q1 j (by have := (List.mem_range'_1.mp hj).1; omega))
            rw [m1, m2]
            rfl
        have short : (C1 i).1 = 1 ∨ (C1 i).1 = 2 → mj_wp 100 66 [some (.ref M), some (.int (nI i))] [] hp1 Q := by
          intro hd
          simp only [x_100_66, x_100_67, x_100_68, mw_nx, mw_no, mw_ite, mw_call, mw_ret, mw_cst, mw_ii, mw_i1, mw_ll, mw_l1, mw_li, mw_i2l, mw_l2i, mw_lcm, mw_if, mw_ic, mw_ifnN, mw_ifnR, mw_go, mw_dupi, mw_dupr, mw_popi, mw_popr, mw_nw, mw_rti, mw_rtl, mw_rtr, mw_rtn, mw_rtv, mw_rt0, mw_rt1, mj_ild, mj_lld, mj_ald, mj_ist, mj_lst, mj_ast, mj_inc, mj_iz, mj_get, mj_put, mj_len, mj_iar, mj_aar, mj_iaw, mj_aaw, mj_ivs, mj_ivv, mj_ivi, mj_ob, mj_tk, mj_cat, mj_st1, mj_st2, mj_clr, mj_nwi, mj_nwq, List.getElem?_cons_zero, List.getElem?_cons_succ, List.length_cons, List.length_nil, List.set_cons_zero, List.set_cons_succ, Value.category, decide_eq_true_eq, List.map_cons, List.map_nil, List.sum_cons, List.sum_nil, Option.toList, List.cons_append, List.nil_append, ite_true, ite_false, if_true, if_false, reduceCtorEq, true_and, and_true, narrow_i, narrow_l, narrow_r, narrow_n, fits_i, fits_l, fits_ro, fits_ra, fits_no, fits_na, Nat.reduceAdd, Nat.reduceLT, Nat.reduceLeDiff, Nat.reduceEqDiff, Nat.reduceSub, zero_add0, true_or, or_true, false_or, or_false, not_true_eq_false, not_false_eq_true, eq_self, i10, i01, im0, im1, o1]
          refine m_shortenLine o1 (s := (C1 i).1) (cs := (C1 i).2) r1 rfl hd hn.2 (show i < 80 by omega) (fun j hj => (l1 j (by omega)).1) h1 (fun hp2 o2 r2 h2 f2 => ?_)
          simp only [x_100_71, x_100_74, mw_nx, mw_no, mw_ite, mw_call, mw_ret, mw_cst, mw_ii, mw_i1, mw_ll, mw_l1, mw_li, mw_i2l, mw_l2i, mw_lcm, mw_if, mw_ic, mw_ifnN, mw_ifnR, mw_go, mw_dupi, mw_dupr, mw_popi, mw_popr, mw_nw, mw_rti, mw_rtl, mw_rtr, mw_rtn, mw_rtv, mw_rt0, mw_rt1, mj_ild, mj_lld, mj_ald, mj_ist, mj_lst, mj_ast, mj_inc, mj_iz, mj_get, mj_put, mj_len, mj_iar, mj_aar, mj_iaw, mj_aaw, mj_ivs, mj_ivv, mj_ivi, mj_ob, mj_tk, mj_cat, mj_st1, mj_st2, mj_clr, mj_nwi, mj_nwq, List.getElem?_cons_zero, List.getElem?_cons_succ, List.length_cons, List.length_nil, List.set_cons_zero, List.set_cons_succ, Value.category, decide_eq_true_eq, List.map_cons, List.map_nil, List.sum_cons, List.sum_nil, Option.toList, List.cons_append, List.nil_append, ite_true, ite_false, if_true, if_false, reduceCtorEq, true_and, and_true, narrow_i, narrow_l, narrow_r, narrow_n, fits_i, fits_l, fits_ro, fits_ra, fits_no, fits_na, Nat.reduceAdd, Nat.reduceLT, Nat.reduceLeDiff, Nat.reduceEqDiff, Nat.reduceSub, zero_add0, true_or, or_true, false_or, or_false, not_true_eq_false, not_false_eq_true, eq_self, i10, i01, im0, im1, nI_1]
          refine go _ hp2 (fun j hj => va_up_ne _ _ hj) (by rw [va_up_self, if_pos hd]) o2 r2 ?_ h2 (f1.tr f2)
          rw [va_up_self]
          refine ⟨fun c hc => (l1 i (by omega)).1 c ?_, fun q => ?_⟩
          · have := sp_lits_sub _ _ _ hc
            simpa using this
          · dsimp only at q; omega
        rw [x_100_38]
        by_cases w1 : (C1 i).1 = 1
        · have q1 := eq_true w1
          simp only [x_100_39, x_100_40, x_100_43, x_100_46, x_100_47, x_100_50, x_100_51, x_100_52, x_100_53, mw_nx, mw_no, mw_ite, mw_call, mw_ret, mw_cst, mw_ii, mw_i1, mw_ll, mw_l1, mw_li, mw_i2l, mw_l2i, mw_lcm, mw_if, mw_ic, mw_ifnN, mw_ifnR, mw_go, mw_dupi, mw_dupr, mw_popi, mw_popr, mw_nw, mw_rti, mw_rtl, mw_rtr, mw_rtn, mw_rtv, mw_rt0, mw_rt1, mj_ild, mj_lld, mj_ald, mj_ist, mj_lst, mj_ast, mj_inc, mj_iz, mj_get, mj_put, mj_len, mj_iar, mj_aar, mj_iaw, mj_aaw, mj_ivs, mj_ivv, mj_ivi, mj_ob, mj_tk, mj_cat, mj_st1, mj_st2, mj_clr, mj_nwi, mj_nwq, List.getElem?_cons_zero, List.getElem?_cons_succ, List.length_cons, List.length_nil, List.set_cons_zero, List.set_cons_succ, Value.category, decide_eq_true_eq, List.map_cons, List.map_nil, List.sum_cons, List.sum_nil, Option.toList, List.cons_append, List.nil_append, ite_true, ite_false, if_true, if_false, reduceCtorEq, true_and, and_true, narrow_i, narrow_l, narrow_r, narrow_n, fits_i, fits_l, fits_ro, fits_ra, fits_no, fits_na, Nat.reduceAdd, Nat.reduceLT, Nat.reduceLeDiff, Nat.reduceEqDiff, Nat.reduceSub, zero_add0, true_or, or_true, false_or, or_false, not_true_eq_false, not_false_eq_true, eq_self, i10, i01, im0, im1, o1, k1, at_0, z0, z1, z2, a1, e1, ee1, q1]
          exact short (Or.inl w1)
        · have q1 := eq_false w1
          by_cases w2 : (C1 i).1 = 2
          · have q2 := eq_true w2
            simp only [x_100_39, x_100_40, x_100_43, x_100_46, x_100_47, x_100_50, x_100_51, x_100_52, x_100_53, x_100_56, x_100_57, x_100_60, x_100_61, x_100_62, x_100_63, mw_nx, mw_no, mw_ite, mw_call, mw_ret, mw_cst, mw_ii, mw_i1, mw_ll, mw_l1, mw_li, mw_i2l, mw_l2i, mw_lcm, mw_if, mw_ic, mw_ifnN, mw_ifnR, mw_go, mw_dupi, mw_dupr, mw_popi, mw_popr, mw_nw, mw_rti, mw_rtl, mw_rtr, mw_rtn, mw_rtv, mw_rt0, mw_rt1, mj_ild, mj_lld, mj_ald, mj_ist, mj_lst, mj_ast, mj_inc, mj_iz, mj_get, mj_put, mj_len, mj_iar, mj_aar, mj_iaw, mj_aaw, mj_ivs, mj_ivv, mj_ivi, mj_ob, mj_tk, mj_cat, mj_st1, mj_st2, mj_clr, mj_nwi, mj_nwq, List.getElem?_cons_zero, List.getElem?_cons_succ, List.length_cons, List.length_nil, List.set_cons_zero, List.set_cons_succ, Value.category, decide_eq_true_eq, List.map_cons, List.map_nil, List.sum_cons, List.sum_nil, Option.toList, List.cons_append, List.nil_append, ite_true, ite_false, if_true, if_false, reduceCtorEq, true_and, and_true, narrow_i, narrow_l, narrow_r, narrow_n, fits_i, fits_l, fits_ro, fits_ra, fits_no, fits_na, Nat.reduceAdd, Nat.reduceLT, Nat.reduceLeDiff, Nat.reduceEqDiff, Nat.reduceSub, zero_add0, true_or, or_true, false_or, or_false, not_true_eq_false, not_false_eq_true, eq_self, i10, i01, im0, im1, o1, k1, at_0, z0, z1, z2, a1, e1, ee1, q1, ee2, q2]
            exact short (Or.inr w2)
          · have q2 := eq_false w2
            simp only [x_100_39, x_100_40, x_100_43, x_100_46, x_100_47, x_100_50, x_100_51, x_100_52, x_100_53, x_100_56, x_100_57, x_100_60, x_100_61, x_100_62, x_100_63, x_100_71, x_100_74, mw_nx, mw_no, mw_ite, mw_call, mw_ret, mw_cst, mw_ii, mw_i1, mw_ll, mw_l1, mw_li, mw_i2l, mw_l2i, mw_lcm, mw_if, mw_ic, mw_ifnN, mw_ifnR, mw_go, mw_dupi, mw_dupr, mw_popi, mw_popr, mw_nw, mw_rti, mw_rtl, mw_rtr, mw_rtn, mw_rtv, mw_rt0, mw_rt1, mj_ild, mj_lld, mj_ald, mj_ist, mj_lst, mj_ast, mj_inc, mj_iz, mj_get, mj_put, mj_len, mj_iar, mj_aar, mj_iaw, mj_aaw, mj_ivs, mj_ivv, mj_ivi, mj_ob, mj_tk, mj_cat, mj_st1, mj_st2, mj_clr, mj_nwi, mj_nwq, List.getElem?_cons_zero, List.getElem?_cons_succ, List.length_cons, List.length_nil, List.set_cons_zero, List.set_cons_succ, Value.category, decide_eq_true_eq, List.map_cons, List.map_nil, List.sum_cons, List.sum_nil, Option.toList, List.cons_append, List.nil_append, ite_true, ite_false, if_true, if_false, reduceCtorEq, true_and, and_true, narrow_i, narrow_l, narrow_r, narrow_n, fits_i, fits_l, fits_ro, fits_ra, fits_no, fits_na, Nat.reduceAdd, Nat.reduceLT, Nat.reduceLeDiff, Nat.reduceEqDiff, Nat.reduceSub, zero_add0, true_or, or_true, false_or, or_false, not_true_eq_false, not_false_eq_true, eq_self, i10, i01, im0, im1, o1, k1, at_0, z0, z1, z2, a1, e1, ee1, q1, ee2, q2, nI_1]
            exact go C1 hp1 (fun _ _ => rfl) (by rw [if_neg (by omega)]) o1 r1 (l1 i (by omega)) h1 f1
    have down : ∀ (j ln1 : Nat) (C1 : Nat → sp_Ln) (hp1 : mj_H) (x : Int32), (j = 0 ∧ x < 0) ∨ (∃ i, j = i + 1 ∧ x = nI i) → j ≤ ln1 → ln1 ≤ 80 → hp1.1 M = some (mo_o M n ln1 col.length xs.length a b 0) → rows hp1 M C1 → (∀ i, i < ln1 → lv n (C1 i)) → mo_h hp1 M → fr hp0 hp1 M → sp_dl n j ((List.range ln1).map C1) = sp_dl n (ls.length - 1) ls → mj_wp 100 12 [some (.ref M), some (.int x)] [] hp1 Q := by
      intro j
      induction j with
      | zero =>
        intro ln1 C1 hp1 x hx hj hl8 o1 r1 l1 h1 f1 he
        have hx0 : x < 0 := by
          rcases hx with ⟨-, q⟩ | ⟨i, q, -⟩
          · exact q
          · omega
        rw [x_100_12]
        simp only [x_100_13, x_100_36, x_100_37, mw_nx, mw_no, mw_ite, mw_call, mw_ret, mw_cst, mw_ii, mw_i1, mw_ll, mw_l1, mw_li, mw_i2l, mw_l2i, mw_lcm, mw_if, mw_ic, mw_ifnN, mw_ifnR, mw_go, mw_dupi, mw_dupr, mw_popi, mw_popr, mw_nw, mw_rti, mw_rtl, mw_rtr, mw_rtn, mw_rtv, mw_rt0, mw_rt1, mj_ild, mj_lld, mj_ald, mj_ist, mj_lst, mj_ast, mj_inc, mj_iz, mj_get, mj_put, mj_len, mj_iar, mj_aar, mj_iaw, mj_aaw, mj_ivs, mj_ivv, mj_ivi, mj_ob, mj_tk, mj_cat, mj_st1, mj_st2, mj_clr, mj_nwi, mj_nwq, List.getElem?_cons_zero, List.getElem?_cons_succ, List.length_cons, List.length_nil, List.set_cons_zero, List.set_cons_succ, Value.category, decide_eq_true_eq, List.map_cons, List.map_nil, List.sum_cons, List.sum_nil, Option.toList, List.cons_append, List.nil_append, ite_true, ite_false, if_true, if_false, reduceCtorEq, true_and, and_true, narrow_i, narrow_l, narrow_r, narrow_n, fits_i, fits_l, fits_ro, fits_ra, fits_no, fits_na, Nat.reduceAdd, Nat.reduceLT, Nat.reduceLeDiff, Nat.reduceEqDiff, Nat.reduceSub, zero_add0, true_or, or_true, false_or, or_false, not_true_eq_false, not_false_eq_true, eq_self, i10, i01, im0, im1, hx0]
        rw [sp_dl] at he
        refine phase2 ln1 hl8 ln1 0 C1 hp1 (by omega) o1 r1 l1 h1 f1 ?_
        rw [← List.range_eq_range', he]
        rfl
      | succ j ih =>
        intro ln1 C1 hp1 x hx hj hl8 o1 r1 l1 h1 f1 he
        obtain rfl : x = nI j := by
          rcases hx with ⟨q, -⟩ | ⟨i, q, q2⟩
          · omega
          · rw [q2]; congr 1; omega
        have r10 := r1
        obtain ⟨fk, fm, fl, k1, k2, k3, k4⟩ := r10
        obtain ⟨a1, a2, a3, a4, a5⟩ := k4 j (by omega)
        have z0 : ¬ nI j < 0 := nI_pos (by omega)
        have z1 : (nI j).toNatClampNeg = j := nI_clamp (by omega)
        have z2 : ¬ 160 ≤ j := by omega
        have ee0 : (nI (C1 j).1 = 0) = ((C1 j).1 = 0) := propext (nI_eq (b := 0) (by omega) (by omega))
        have hnx : (j = 0 ∧ nI j + -1 < 0) ∨ (∃ i, j = i + 1 ∧ nI j + -1 = nI i) := by
          cases j with
          | zero => exact Or.inl ⟨rfl, by decide⟩
          | succ i => exact Or.inr ⟨i, rfl, pk_m1 i⟩
        have hget : ((List.range ln1).map C1).getD j (0, []) = C1 j := by
          rw [List.getD_eq_getElem?_getD, get_map (by omega)]; rfl
        rw [sp_dl, hget] at he
        rw [x_100_12]
        by_cases w0 : (C1 j).1 = 0
        · have q0 := eq_true w0
          rw [sp_if_f (fun q => q.1 w0)] at he
          simp only [x_100_13, x_100_16, x_100_17, x_100_20, x_100_21, x_100_22, x_100_25, x_100_26, x_100_27, x_100_30, x_100_33, mw_nx, mw_no, mw_ite, mw_call, mw_ret, mw_cst, mw_ii, mw_i1, mw_ll, mw_l1, mw_li, mw_i2l, mw_l2i, mw_lcm, mw_if, mw_ic, mw_ifnN, mw_ifnR, mw_go, mw_dupi, mw_dupr, mw_popi, mw_popr, mw_nw, mw_rti, mw_rtl, mw_rtr, mw_rtn, mw_rtv, mw_rt0, mw_rt1, mj_ild, mj_lld, mj_ald, mj_ist, mj_lst, mj_ast, mj_inc, mj_iz, mj_get, mj_put, mj_len, mj_iar, mj_aar, mj_iaw, mj_aaw, mj_ivs, mj_ivv, mj_ivi, mj_ob, mj_tk, mj_cat, mj_st1, mj_st2, mj_clr, mj_nwi, mj_nwq, List.getElem?_cons_zero, List.getElem?_cons_succ, List.length_cons, List.length_nil, List.set_cons_zero, List.set_cons_succ, Value.category, decide_eq_true_eq, List.map_cons, List.map_nil, List.sum_cons, List.sum_nil, Option.toList, List.cons_append, List.nil_append, ite_true, ite_false, if_true, if_false, reduceCtorEq, true_and, and_true, narrow_i, narrow_l, narrow_r, narrow_n, fits_i, fits_l, fits_ro, fits_ra, fits_no, fits_na, Nat.reduceAdd, Nat.reduceLT, Nat.reduceLeDiff, Nat.reduceEqDiff, Nat.reduceSub, zero_add0, true_or, or_true, false_or, or_false, not_true_eq_false, not_false_eq_true, eq_self, i10, i01, im0, im1, o1, k1, at_0, z0, z1, z2, a1, ee0, q0]
          exact ih ln1 C1 hp1 _ hnx (by omega) hl8 o1 r1 l1 h1 f1 he
        · have q0 := eq_false w0
          simp only [x_100_13, x_100_16, x_100_17, x_100_20, x_100_21, x_100_22, x_100_25, x_100_26, x_100_27, mw_nx, mw_no, mw_ite, mw_call, mw_ret, mw_cst, mw_ii, mw_i1, mw_ll, mw_l1, mw_li, mw_i2l, mw_l2i, mw_lcm, mw_if, mw_ic, mw_ifnN, mw_ifnR, mw_go, mw_dupi, mw_dupr, mw_popi, mw_popr, mw_nw, mw_rti, mw_rtl, mw_rtr, mw_rtn, mw_rtv, mw_rt0, mw_rt1, mj_ild, mj_lld, mj_ald, mj_ist, mj_lst, mj_ast, mj_inc, mj_iz, mj_get, mj_put, mj_len, mj_iar, mj_aar, mj_iaw, mj_aaw, mj_ivs, mj_ivv, mj_ivi, mj_ob, mj_tk, mj_cat, mj_st1, mj_st2, mj_clr, mj_nwi, mj_nwq, List.getElem?_cons_zero, List.getElem?_cons_succ, List.length_cons, List.length_nil, List.set_cons_zero, List.set_cons_succ, Value.category, decide_eq_true_eq, List.map_cons, List.map_nil, List.sum_cons, List.sum_nil, Option.toList, List.cons_append, List.nil_append, ite_true, ite_false, if_true, if_false, reduceCtorEq, true_and, and_true, narrow_i, narrow_l, narrow_r, narrow_n, fits_i, fits_l, fits_ro, fits_ra, fits_no, fits_na, Nat.reduceAdd, Nat.reduceLT, Nat.reduceLeDiff, Nat.reduceEqDiff, Nat.reduceSub, zero_add0, true_or, or_true, false_or, or_false, not_true_eq_false, not_false_eq_true, eq_self, i10, i01, im0, im1, o1, k1, at_0, z0, z1, z2, a1, ee0, q0]
          refine m_tryWithout o1 r1 hn.2 hl8 (fun i hi => (l1 i hi).1) h1 (show j < ln1 by omega) (fun hp2 ln2 C2 o2 r2 m2 hl2 hl3 h2 f2 => ?_)
          simp only [x_100_30, x_100_33, mw_nx, mw_no, mw_ite, mw_call, mw_ret, mw_cst, mw_ii, mw_i1, mw_ll, mw_l1, mw_li, mw_i2l, mw_l2i, mw_lcm, mw_if, mw_ic, mw_ifnN, mw_ifnR, mw_go, mw_dupi, mw_dupr, mw_popi, mw_popr, mw_nw, mw_rti, mw_rtl, mw_rtr, mw_rtn, mw_rtv, mw_rt0, mw_rt1, mj_ild, mj_lld, mj_ald, mj_ist, mj_lst, mj_ast, mj_inc, mj_iz, mj_get, mj_put, mj_len, mj_iar, mj_aar, mj_iaw, mj_aaw, mj_ivs, mj_ivv, mj_ivi, mj_ob, mj_tk, mj_cat, mj_st1, mj_st2, mj_clr, mj_nwi, mj_nwq, List.getElem?_cons_zero, List.getElem?_cons_succ, List.length_cons, List.length_nil, List.set_cons_zero, List.set_cons_succ, Value.category, decide_eq_true_eq, List.map_cons, List.map_nil, List.sum_cons, List.sum_nil, Option.toList, List.cons_append, List.nil_append, ite_true, ite_false, if_true, if_false, reduceCtorEq, true_and, and_true, narrow_i, narrow_l, narrow_r, narrow_n, fits_i, fits_l, fits_ro, fits_ra, fits_no, fits_na, Nat.reduceAdd, Nat.reduceLT, Nat.reduceLeDiff, Nat.reduceEqDiff, Nat.reduceSub, zero_add0, true_or, or_true, false_or, or_false, not_true_eq_false, not_false_eq_true, eq_self, i10, i01, im0, im1]
          have he2 : sp_dl n j ((List.range ln2).map C2) = sp_dl n (ls.length - 1) ls := by
            rw [← he, m2]
            by_cases hsp : sp_spare n ((List.range ln1).map C1) j
            · rw [sp_if_t hsp, sp_if_t ⟨w0, hsp⟩]
            · rw [sp_if_f hsp, sp_if_f (fun q => hsp q.2)]
          refine ih ln2 C2 hp2 _ hnx (by omega) hl2 o2 r2 (fun i hi => ?_) h2 (f1.tr f2) he2
          have hm : C2 i ∈ (List.range ln2).map C2 := rm_mem.mpr ⟨i, hi, rfl⟩
          rw [m2] at hm
          have hm2 : C2 i ∈ (List.range ln1).map C1 := by
            by_cases hsp : sp_spare n ((List.range ln1).map C1) j
            · rw [sp_if_t hsp] at hm
              exact List.mem_of_mem_eraseIdx hm
            · rw [sp_if_f hsp] at hm
              exact hm
          obtain ⟨q, hq, hqe⟩ := rm_mem.mp hm2
          rw [hqe]
          exact l1 q hq
    simp only [x_100_5, x_100_6, x_100_9, x_100_10, x_100_11, mw_nx, mw_no, mw_ite, mw_call, mw_ret, mw_cst, mw_ii, mw_i1, mw_ll, mw_l1, mw_li, mw_i2l, mw_l2i, mw_lcm, mw_if, mw_ic, mw_ifnN, mw_ifnR, mw_go, mw_dupi, mw_dupr, mw_popi, mw_popr, mw_nw, mw_rti, mw_rtl, mw_rtr, mw_rtn, mw_rtv, mw_rt0, mw_rt1, mj_ild, mj_lld, mj_ald, mj_ist, mj_lst, mj_ast, mj_inc, mj_iz, mj_get, mj_put, mj_len, mj_iar, mj_aar, mj_iaw, mj_aaw, mj_ivs, mj_ivv, mj_ivi, mj_ob, mj_tk, mj_cat, mj_st1, mj_st2, mj_clr, mj_nwi, mj_nwq, List.getElem?_cons_zero, List.getElem?_cons_succ, List.length_cons, List.length_nil, List.set_cons_zero, List.set_cons_succ, Value.category, decide_eq_true_eq, List.map_cons, List.map_nil, List.sum_cons, List.sum_nil, Option.toList, List.cons_append, List.nil_append, ite_true, ite_false, if_true, if_false, reduceCtorEq, true_and, and_true, narrow_i, narrow_l, narrow_r, narrow_n, fits_i, fits_l, fits_ro, fits_ra, fits_no, fits_na, Nat.reduceAdd, Nat.reduceLT, Nat.reduceLeDiff, Nat.reduceEqDiff, Nat.reduceSub, zero_add0, true_or, or_true, false_or, or_false, not_true_eq_false, not_false_eq_true, eq_self, i10, i01, im0, im1, ho]
    refine down (ls.length - 1) ls.length C hp0 _ ?_ (by omega) hk ho hr (fun i hi => hlv _ (by rw [map_at hmap hi]; exact so_at_mem hi)) hh fr.rf (by rw [hmap])
    by_cases w : 2 ≤ ls.length
    · refine Or.inr ⟨ls.length - 2, by omega, ?_⟩
      exact pk_sub (b := 2) w
    · refine Or.inl ⟨by omega, ?_⟩
      rcases (show ls.length = 0 ∨ ls.length = 1 by omega) with q | q <;> rw [q] <;> decide
  rw [en_100]
  simp only [x_100_0, x_100_1, x_100_2, mw_nx, mw_no, mw_ite, mw_call, mw_ret, mw_cst, mw_ii, mw_i1, mw_ll, mw_l1, mw_li, mw_i2l, mw_l2i, mw_lcm, mw_if, mw_ic, mw_ifnN, mw_ifnR, mw_go, mw_dupi, mw_dupr, mw_popi, mw_popr, mw_nw, mw_rti, mw_rtl, mw_rtr, mw_rtn, mw_rtv, mw_rt0, mw_rt1, mj_ild, mj_lld, mj_ald, mj_ist, mj_lst, mj_ast, mj_inc, mj_iz, mj_get, mj_put, mj_len, mj_iar, mj_aar, mj_iaw, mj_aaw, mj_ivs, mj_ivv, mj_ivi, mj_ob, mj_tk, mj_cat, mj_st1, mj_st2, mj_clr, mj_nwi, mj_nwq, List.getElem?_cons_zero, List.getElem?_cons_succ, List.length_cons, List.length_nil, List.set_cons_zero, List.set_cons_succ, Value.category, decide_eq_true_eq, List.map_cons, List.map_nil, List.sum_cons, List.sum_nil, Option.toList, List.cons_append, List.nil_append, ite_true, ite_false, if_true, if_false, reduceCtorEq, true_and, and_true, narrow_i, narrow_l, narrow_r, narrow_n, fits_i, fits_l, fits_ro, fits_ra, fits_no, fits_na, Nat.reduceAdd, Nat.reduceLT, Nat.reduceLeDiff, Nat.reduceEqDiff, Nat.reduceSub, zero_add0, true_or, or_true, false_or, or_false, not_true_eq_false, not_false_eq_true, eq_self, i10, i01, im0, im1, ho]
  exact body _ hw.th (sm.up (by omega) (by omega))
end MU
