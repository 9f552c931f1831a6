/-! The class ProofLines: its object at o, what is collected at o + 1, its Reader at o + 3, its Proofs at o + 5 and o + 168 -/
abbrev cl_o (o n P S : Nat) : va_E := .inr (3, [.int (nI n), .ref (o + 1), .ref (o + 3), .ref P, .ref S])
def pr_at (hp : mj_H) (P n : Nat) (ls : List sp_Ln) : Prop := ∃ (ρ : Nat → Option Nat) (g : Nat → Int32) (π : Nat → Nat) (C : Nat → Nat × List Nat), pf_r hp P n ls.length ρ g ∧ pf_k hp P ρ π C ∧ (List.range ls.length).map C = ls ∧ ls.length ≤ 80 ∧ ∀ l ∈ ls, lv n l
def sr_at (hp : mj_H) (S n : Nat) : Prop := ∃ (ρ : Nat → Option Nat) (g : Nat → Int32) (π : Nat → Nat) (C : Nat → Nat × List Nat) (k : Nat), pf_r hp S n k ρ g ∧ pf_k hp S ρ π C ∧ k ≤ 80
def cl_w (hp : mj_H) (o P S : Nat) (s : sp_S) : Prop := ((P = o + 5 ∧ S = o + 168) ∨ (P = o + 168 ∧ S = o + 5)) ∧ (1 ≤ s.1 ∧ s.1 ≤ 64) ∧ hp.1 o = some (cl_o o s.1 P S) ∧ (∃ kc, kc ≤ 1 ∧ ln_at hp (o + 1) (kc, s.2.1)) ∧ (∀ c ∈ s.2.1, c < 2 * s.1) ∧ (∃ p, re_at hp (o + 3) s.1 s.2.2.2 p) ∧ pr_at hp P s.1 s.2.2.1 ∧ sr_at hp S s.1
def cl_at (hp : mj_H) (o : Nat) (s : sp_S) : Prop := ∃ P S, cl_w hp o P S s
theorem pr_at.sm {hp hp' : mj_H} {P n a b : Nat} {ls : List sp_Ln} (h : pr_at hp P n ls) (hs : sm hp hp' a b) (hd : P + 163 ≤ a ∨ b ≤ P) : pr_at hp' P n ls := by
  obtain ⟨ρ, g, π, C, a1, a2, a3⟩ := h
  obtain ⟨b1, b2⟩ := pf_keep a1 a2 hs hd
  exact ⟨ρ, g, π, C, b1, b2, a3⟩
theorem sr_at.sm {hp hp' : mj_H} {P n a b : Nat} (h : sr_at hp P n) (hs : sm hp hp' a b) (hd : P + 163 ≤ a ∨ b ≤ P) : sr_at hp' P n := by
  obtain ⟨ρ, g, π, C, k, a1, a2, a3⟩ := h
  obtain ⟨b1, b2⟩ := pf_keep a1 a2 hs hd
  exact ⟨ρ, g, π, C, k, b1, b2, a3⟩
theorem pr_at.sr {hp : mj_H} {P n : Nat} {ls : List sp_Ln} (h : pr_at hp P n ls) : sr_at hp P n := by
  obtain ⟨ρ, g, π, C, a1, a2, a3, a4, -⟩ := h
  exact ⟨ρ, g, π, C, _, a1, a2, a4⟩
section CW
variable {hp hp' : mj_H} {o P S n : Nat} {col : List Nat} {ls : List sp_Ln} {xs : List Nat}
/-- the lines changed -/
theorem cl_w.pf (h : cl_w hp o P S (n, col, ls, xs)) (hs : sm hp hp' P (P + 163)) {ls' : List sp_Ln} (hl : pr_at hp' P n ls') : cl_w hp' o P S (n, col, ls', xs) := by
  obtain ⟨h0, h1, h2, ⟨kc, h3, h4⟩, h5, ⟨p, h6⟩, h7, h8⟩ := h
  exact ⟨h0, h1, (hs.2 o (by omega)).trans h2, ⟨kc, h3, h4.sm hs (by omega)⟩, h5, ⟨p, h6.sm hs (by omega)⟩, hl, h8.sm hs (by omega)⟩
/-- what is collected changed -/
theorem cl_w.co (h : cl_w hp o P S (n, col, ls, xs)) (hs : sm hp hp' (o + 1) (o + 1 + 2)) {kc : Nat} {col' : List Nat} (hk : kc ≤ 1) (hl : ln_at hp' (o + 1) (kc, col')) (hc : ∀ c ∈ col', c < 2 * n) : cl_w hp' o P S (n, col', ls, xs) := by
  obtain ⟨h0, h1, h2, -, h5, ⟨p, h6⟩, h7, h8⟩ := h
  exact ⟨h0, h1, (hs.2 o (by omega)).trans h2, ⟨kc, hk, hl⟩, hc, ⟨p, h6.sm hs (by omega)⟩, h7.sm hs (by omega), h8.sm hs (by omega)⟩
/-- the text changed -/
theorem cl_w.rd (h : cl_w hp o P S (n, col, ls, xs)) (hs : sm hp hp' (o + 3) (o + 3 + 2)) {p : Nat} {xs' : List Nat} (hl : re_at hp' (o + 3) n xs' p) : cl_w hp' o P S (n, col, ls, xs') := by
  obtain ⟨h0, h1, h2, ⟨kc, h3, h4⟩, h5, -, h7, h8⟩ := h
  exact ⟨h0, h1, (hs.2 o (by omega)).trans h2, ⟨kc, h3, h4.sm hs (by omega)⟩, h5, ⟨p, hl⟩, h7.sm hs (by omega), h8.sm hs (by omega)⟩
end CW
theorem map_snoc {ls : List sp_Ln} {C : Nat → Nat × List Nat} {l : sp_Ln} (h : (List.range ls.length).map C = ls) : (List.range (ls ++ [l]).length).map (va_up C ls.length l) = ls ++ [l] := by
  rw [List.length_append, List.length_singleton, List.range_succ, List.map_append, map_up, h, List.map_singleton, va_up_self]
theorem map_set {k i : Nat} {C : Nat → Nat × List Nat} {l : sp_Ln} : (List.range k).map (va_up C i l) = ((List.range k).map C).set i l := by
  apply List.ext_getElem?
  intro j
  rw [List.getElem?_set]
  by_cases hj : j < k
  · by_cases hji : i = j
    · subst hji
      simp [hj, va_up_self]
    · rw [if_neg hji]
      simp [hj, va_up_ne _ _ (fun q => hji q.symm)]
  · by_cases hji : i = j
    · subst hji
      simp [hj]
    · rw [if_neg hji]
      simp [hj]
theorem map_at {ls : List sp_Ln} {C : Nat → Nat × List Nat} (h : (List.range ls.length).map C = ls) {i : Nat} (hi : i < ls.length) : C i = so_at ls i := by
  unfold so_at
  have : ((List.range ls.length).map C)[i]? = some (C i) := get_map hi
  rw [h] at this
  rw [List.getD_eq_getElem?_getD, this]
  rfl
theorem so_at_mem {ls : List sp_Ln} {i : Nat} (hi : i < ls.length) : so_at ls i ∈ ls := by
  unfold so_at
  rw [List.getD_eq_getElem?_getD, List.getElem?_eq_getElem hi]
  exact List.getElem_mem hi
theorem so_code_e {t z : Int32} {j : Nat} (hj : j < 2 ^ 31) (ht : t = nI j) : (2 : Int32) * t + (if z = 0 then 0 else 1) = nI (so_code t z) := by
  unfold so_code
  rw [ht, nI_clamp hj]
  show nI 2 * nI j + _ = _
  rw [pk_mul]
  split
  · rw [← nI_add]; rfl
  · rw [← nI_add]; rfl
theorem so_th_nat {n : Nat} {t : Int32} (hn : n ≤ 64) (h : so_th n t) : ∃ j, j < n ∧ t = nI j ∧ t.toNatClampNeg = j := by
  have h0 : ¬ t < 0 := by
    have := h.1
    rw [Int32.le_iff_toInt_le] at this; rw [Int32.lt_iff_toInt_lt]; omega
  obtain ⟨j, hj, rfl⟩ := nI_of h0
  have := h.2
  rw [nI_ltI hj (by omega)] at this
  exact ⟨j, this, rfl, nI_clamp hj⟩
section CL
variable {hp : mj_H} {Q : mj_Q} {o : Nat} {s : sp_S}
theorem d_given (h : cl_at hp o s) (hQ : ∀ hp' : mj_H, cl_at hp' o (so_open 0 s).1 → sm hp hp' o (o + 331) → Q (some (.int (so_open 0 s).2)) hp') : mj_call 4 [.ref o] hp Q := by
  have h0 := h
  obtain ⟨n, col, ls, xs⟩ := s
  obtain ⟨P, S, h⟩ := h
  have hw := h
  obtain ⟨hPS, hn, ho, ⟨kc, hkc, hcol⟩, hcb, ⟨p, hre⟩, ⟨ρ, g, π, C, hr, hpk, hmap, hk, hlv⟩, hsp⟩ := h
  dsimp only at *
  unfold so_open at hQ
  dsimp only at hQ
  rw [en_4]
  simp only [x_4_0, x_4_1, x_4_4, x_4_5, mw_nx, mw_no, mw_ite, mw_call, mw_ret, mw_cst, mw_ii, mw_i1, mw_ll, mw_l1, mw_li, mw_i2l, mw_l2i, mw_lcm, mw_if, mw_ic, mw_ifnN, mw_ifnR, mw_go, mw_dupi, mw_dupr, mw_popi, mw_popr, mw_nw, mw_rti, mw_rtl, mw_rtr, mw_rtn, mw_rtv, mw_rt0, mw_rt1, mj_ild, mj_lld, mj_ald, mj_ist, mj_lst, mj_ast, mj_inc, mj_iz, mj_get, mj_put, mj_len, mj_iar, mj_aar, mj_iaw, mj_aaw, mj_ivs, mj_ivv, mj_ivi, mj_ob, mj_tk, mj_cat, mj_st1, mj_st2, mj_clr, mj_nwi, mj_nwq, List.getElem?_cons_zero, List.getElem?_cons_succ, List.length_cons, List.length_nil, List.set_cons_zero, List.set_cons_succ, Value.category, decide_eq_true_eq, List.map_cons, List.map_nil, List.sum_cons, List.sum_nil, Option.toList, List.cons_append, List.nil_append, ite_true, ite_false, if_true, if_false, reduceCtorEq, true_and, and_true, narrow_i, narrow_l, narrow_r, narrow_n, fits_i, fits_l, fits_ro, fits_ra, fits_no, fits_na, Nat.reduceAdd, Nat.reduceLT, Nat.reduceLeDiff, Nat.reduceEqDiff, Nat.reduceSub, zero_add0, true_or, or_true, false_or, or_false, not_true_eq_false, not_false_eq_true, eq_self, i10, i01, im0, im1, ho, hr.1]
  refine c_open (s := 0) hr hk hpk (by omega) (fun h8 => ?_) (fun h8 hp1 r1 k1 s1 => ?_)
  · rw [sp_if_f (by omega)] at hQ
    simp only [x_4_8, x_4_11, x_4_12, x_4_15, x_4_16, x_4_19, x_4_22, x_4_23, x_4_24, mw_nx, mw_no, mw_ite, mw_call, mw_ret, mw_cst, mw_ii, mw_i1, mw_ll, mw_l1, mw_li, mw_i2l, mw_l2i, mw_lcm, mw_if, mw_ic, mw_ifnN, mw_ifnR, mw_go, mw_dupi, mw_dupr, mw_popi, mw_popr, mw_nw, mw_rti, mw_rtl, mw_rtr, mw_rtn, mw_rtv, mw_rt0, mw_rt1, mj_ild, mj_lld, mj_ald, mj_ist, mj_lst, mj_ast, mj_inc, mj_iz, mj_get, mj_put, mj_len, mj_iar, mj_aar, mj_iaw, mj_aaw, mj_ivs, mj_ivv, mj_ivi, mj_ob, mj_tk, mj_cat, mj_st1, mj_st2, mj_clr, mj_nwi, mj_nwq, List.getElem?_cons_zero, List.getElem?_cons_succ, List.length_cons, List.length_nil, List.set_cons_zero, List.set_cons_succ, Value.category, decide_eq_true_eq, List.map_cons, List.map_nil, List.sum_cons, List.sum_nil, Option.toList, List.cons_append, List.nil_append, ite_true, ite_false, if_true, if_false, reduceCtorEq, true_and, and_true, narrow_i, narrow_l, narrow_r, narrow_n, fits_i, fits_l, fits_ro, fits_ra, fits_no, fits_na, Nat.reduceAdd, Nat.reduceLT, Nat.reduceLeDiff, Nat.reduceEqDiff, Nat.reduceSub, zero_add0, true_or, or_true, false_or, or_false, not_true_eq_false, not_false_eq_true, eq_self, i10, i01, im0, im1]
    exact hQ hp ⟨P, S, hw⟩ sm.rf
  · rw [sp_if_t h8] at hQ
    have ho1 := (s1.2 o (by omega)).trans ho
    simp only [x_4_8, x_4_11, x_4_12, x_4_15, x_4_16, x_4_19, x_4_22, x_4_23, x_4_24, mw_nx, mw_no, mw_ite, mw_call, mw_ret, mw_cst, mw_ii, mw_i1, mw_ll, mw_l1, mw_li, mw_i2l, mw_l2i, mw_lcm, mw_if, mw_ic, mw_ifnN, mw_ifnR, mw_go, mw_dupi, mw_dupr, mw_popi, mw_popr, mw_nw, mw_rti, mw_rtl, mw_rtr, mw_rtn, mw_rtv, mw_rt0, mw_rt1, mj_ild, mj_lld, mj_ald, mj_ist, mj_lst, mj_ast, mj_inc, mj_iz, mj_get, mj_put, mj_len, mj_iar, mj_aar, mj_iaw, mj_aaw, mj_ivs, mj_ivv, mj_ivi, mj_ob, mj_tk, mj_cat, mj_st1, mj_st2, mj_clr, mj_nwi, mj_nwq, List.getElem?_cons_zero, List.getElem?_cons_succ, List.length_cons, List.length_nil, List.set_cons_zero, List.set_cons_succ, Value.category, decide_eq_true_eq, List.map_cons, List.map_nil, List.sum_cons, List.sum_nil, Option.toList, List.cons_append, List.nil_append, ite_true, ite_false, if_true, if_false, reduceCtorEq, true_and, and_true, narrow_i, narrow_l, narrow_r, narrow_n, fits_i, fits_l, fits_ro, fits_ra, fits_no, fits_na, Nat.reduceAdd, Nat.reduceLT, Nat.reduceLeDiff, Nat.reduceEqDiff, Nat.reduceSub, zero_add0, true_or, or_true, false_or, or_false, not_true_eq_false, not_false_eq_true, eq_self, i10, i01, im0, im1, ho1, r1.1, c_count r1, nI_pred]
    refine hQ hp1 ⟨P, S, hw.pf s1 ⟨ρ, g, π, _, ?_, k1, map_snoc hmap, ?_, fun l hl => ?_⟩⟩ (s1.mono (by omega) (by omega))
    · rw [List.length_append]; exact r1
    · rw [List.length_append, List.length_singleton]; omega
    · rcases List.mem_append.mp hl with q | q
      · exact hlv l q
      · rw [List.mem_singleton] at q; subst q
        exact ⟨fun c hc => absurd hc List.not_mem_nil, fun _ c hc => absurd hc List.not_mem_nil⟩
theorem d_answer (h : cl_at hp o s) (hQ : ∀ hp' : mj_H, cl_at hp' o (so_open 3 s).1 → sm hp hp' o (o + 331) → Q (some (.int (so_open 3 s).2)) hp') : mj_call 9 [.ref o] hp Q := by
  have h0 := h
  obtain ⟨n, col, ls, xs⟩ := s
  obtain ⟨P, S, h⟩ := h
  have hw := h
  obtain ⟨hPS, hn, ho, ⟨kc, hkc, hcol⟩, hcb, ⟨p, hre⟩, ⟨ρ, g, π, C, hr, hpk, hmap, hk, hlv⟩, hsp⟩ := h
  dsimp only at *
  unfold so_open at hQ
  dsimp only at hQ
  rw [en_9]
  simp only [x_9_0, x_9_1, x_9_4, x_9_5, mw_nx, mw_no, mw_ite, mw_call, mw_ret, mw_cst, mw_ii, mw_i1, mw_ll, mw_l1, mw_li, mw_i2l, mw_l2i, mw_lcm, mw_if, mw_ic, mw_ifnN, mw_ifnR, mw_go, mw_dupi, mw_dupr, mw_popi, mw_popr, mw_nw, mw_rti, mw_rtl, mw_rtr, mw_rtn, mw_rtv, mw_rt0, mw_rt1, mj_ild, mj_lld, mj_ald, mj_ist, mj_lst, mj_ast, mj_inc, mj_iz, mj_get, mj_put, mj_len, mj_iar, mj_aar, mj_iaw, mj_aaw, mj_ivs, mj_ivv, mj_ivi, mj_ob, mj_tk, mj_cat, mj_st1, mj_st2, mj_clr, mj_nwi, mj_nwq, List.getElem?_cons_zero, List.getElem?_cons_succ, List.length_cons, List.length_nil, List.set_cons_zero, List.set_cons_succ, Value.category, decide_eq_true_eq, List.map_cons, List.map_nil, List.sum_cons, List.sum_nil, Option.toList, List.cons_append, List.nil_append, ite_true, ite_false, if_true, if_false, reduceCtorEq, true_and, and_true, narrow_i, narrow_l, narrow_r, narrow_n, fits_i, fits_l, fits_ro, fits_ra, fits_no, fits_na, Nat.reduceAdd, Nat.reduceLT, Nat.reduceLeDiff, Nat.reduceEqDiff, Nat.reduceSub, zero_add0, true_or, or_true, false_or, or_false, not_true_eq_false, not_false_eq_true, eq_self, i10, i01, im0, im1, ho, hr.1]
  refine c_open (s := 3) hr hk hpk (by omega) (fun h8 => ?_) (fun h8 hp1 r1 k1 s1 => ?_)
  · rw [sp_if_f (by omega)] at hQ
    simp only [x_9_8, x_9_11, x_9_12, x_9_15, x_9_16, x_9_19, x_9_22, x_9_23, x_9_24, mw_nx, mw_no, mw_ite, mw_call, mw_ret, mw_cst, mw_ii, mw_i1, mw_ll, mw_l1, mw_li, mw_i2l, mw_l2i, mw_lcm, mw_if, mw_ic, mw_ifnN, mw_ifnR, mw_go, mw_dupi, mw_dupr, mw_popi, mw_popr, mw_nw, mw_rti, mw_rtl, mw_rtr, mw_rtn, mw_rtv, mw_rt0, mw_rt1, mj_ild, mj_lld, mj_ald, mj_ist, mj_lst, mj_ast, mj_inc, mj_iz, mj_get, mj_put, mj_len, mj_iar, mj_aar, mj_iaw, mj_aaw, mj_ivs, mj_ivv, mj_ivi, mj_ob, mj_tk, mj_cat, mj_st1, mj_st2, mj_clr, mj_nwi, mj_nwq, List.getElem?_cons_zero, List.getElem?_cons_succ, List.length_cons, List.length_nil, List.set_cons_zero, List.set_cons_succ, Value.category, decide_eq_true_eq, List.map_cons, List.map_nil, List.sum_cons, List.sum_nil, Option.toList, List.cons_append, List.nil_append, ite_true, ite_false, if_true, if_false, reduceCtorEq, true_and, and_true, narrow_i, narrow_l, narrow_r, narrow_n, fits_i, fits_l, fits_ro, fits_ra, fits_no, fits_na, Nat.reduceAdd, Nat.reduceLT, Nat.reduceLeDiff, Nat.reduceEqDiff, Nat.reduceSub, zero_add0, true_or, or_true, false_or, or_false, not_true_eq_false, not_false_eq_true, eq_self, i10, i01, im0, im1]
    exact hQ hp ⟨P, S, hw⟩ sm.rf
  · rw [sp_if_t h8] at hQ
    have ho1 := (s1.2 o (by omega)).trans ho
    simp only [x_9_8, x_9_11, x_9_12, x_9_15, x_9_16, x_9_19, x_9_22, x_9_23, x_9_24, mw_nx, mw_no, mw_ite, mw_call, mw_ret, mw_cst, mw_ii, mw_i1, mw_ll, mw_l1, mw_li, mw_i2l, mw_l2i, mw_lcm, mw_if, mw_ic, mw_ifnN, mw_ifnR, mw_go, mw_dupi, mw_dupr, mw_popi, mw_popr, mw_nw, mw_rti, mw_rtl, mw_rtr, mw_rtn, mw_rtv, mw_rt0, mw_rt1, mj_ild, mj_lld, mj_ald, mj_ist, mj_lst, mj_ast, mj_inc, mj_iz, mj_get, mj_put, mj_len, mj_iar, mj_aar, mj_iaw, mj_aaw, mj_ivs, mj_ivv, mj_ivi, mj_ob, mj_tk, mj_cat, mj_st1, mj_st2, mj_clr, mj_nwi, mj_nwq, List.getElem?_cons_zero, List.getElem?_cons_succ, List.length_cons, List.length_nil, List.set_cons_zero, List.set_cons_succ, Value.category, decide_eq_true_eq, List.map_cons, List.map_nil, List.sum_cons, List.sum_nil, Option.toList, List.cons_append, List.nil_append, ite_true, ite_false, if_true, if_false, reduceCtorEq, true_and, and_true, narrow_i, narrow_l, narrow_r, narrow_n, fits_i, fits_l, fits_ro, fits_ra, fits_no, fits_na, Nat.reduceAdd, Nat.reduceLT, Nat.reduceLeDiff, Nat.reduceEqDiff, Nat.reduceSub, zero_add0, true_or, or_true, false_or, or_false, not_true_eq_false, not_false_eq_true, eq_self, i10, i01, im0, im1, ho1, r1.1, c_count r1, nI_pred]
    refine hQ hp1 ⟨P, S, hw.pf s1 ⟨ρ, g, π, _, ?_, k1, map_snoc hmap, ?_, fun l hl => ?_⟩⟩ (s1.mono (by omega) (by omega))
    · rw [List.length_append]; exact r1
    · rw [List.length_append, List.length_singleton]; omega
    · rcases List.mem_append.mp hl with q | q
      · exact hlv l q
      · rw [List.mem_singleton] at q; subst q
        exact ⟨fun c hc => absurd hc List.not_mem_nil, fun _ c hc => absurd hc List.not_mem_nil⟩
theorem d_literal (x t z : Int32) (h : cl_at hp o s) (hQ : ∀ hp' : mj_H, cl_at hp' o (so_add 0 x t z s).1 → sm hp hp' o (o + 331) → Q (some (.int (so_add 0 x t z s).2)) hp') : mj_call 5 [.ref o, .int x, .int t, .int z] hp Q := by
  obtain ⟨n, col, ls, xs⟩ := s
  obtain ⟨P, S, h⟩ := h
  have hw := h
  obtain ⟨hPS, hn, ho, ⟨kc, hkc, hcol⟩, hcb, ⟨p, hre⟩, ⟨ρ, g, π, C, hr, hpk, hmap, hk, hlv⟩, hsp⟩ := h
  dsimp only at *
  unfold so_add at hQ
  dsimp only at hQ
  have l0 : ∀ (Q : mj_Q), mj_call 51 [.ref P, .int x, .int 0] hp Q = Q (some (if 0 < ls.length ∧ x = nI (ls.length - 1) ∧ (C (ls.length - 1)).1 = 0 then .ref (P + 3 + 2 * π (ls.length - 1)) else .null)) hp := fun Q => c_lastOf (s := 0) hr hk hpk x (by omega)
  rw [en_5]
  by_cases w : 0 < ls.length ∧ x = nI (ls.length - 1) ∧ (C (ls.length - 1)).1 = 0
  · have hlt : ls.length - 1 < ls.length := by omega
    have hat := map_at hmap hlt
    have w2 := w
    rw [hat] at w2
    obtain ⟨p1, p2, p3⟩ := hpk.1 (ls.length - 1) (by omega)
    have p4 := p3
    obtain ⟨f, t1, u1, b1, -⟩ := p4
    have e0 := fun Q => (l0 Q).trans (by rw [if_pos w])
    by_cases wt : so_th n t
    · have wt' : (0 ≤ t ∧ t < nI n) = True := eq_true wt
      obtain ⟨j, hj, hje, hjc⟩ := so_th_nat hn.2 wt
      have hc : so_code t z < 2 * n := by unfold so_code; rw [hjc]; split <;> omega
      simp only [x_5_0, x_5_1, x_5_4, x_5_5, x_5_6, x_5_9, x_5_11, x_5_13, x_5_16, x_5_17, x_5_18, x_5_21, x_5_24, x_5_26, x_5_27, x_5_28, x_5_31, mw_nx, mw_no, mw_ite, mw_call, mw_ret, mw_cst, mw_ii, mw_i1, mw_ll, mw_l1, mw_li, mw_i2l, mw_l2i, mw_lcm, mw_if, mw_ic, mw_ifnN, mw_ifnR, mw_go, mw_dupi, mw_dupr, mw_popi, mw_popr, mw_nw, mw_rti, mw_rtl, mw_rtr, mw_rtn, mw_rtv, mw_rt0, mw_rt1, mj_ild, mj_lld, mj_ald, mj_ist, mj_lst, mj_ast, mj_inc, mj_iz, mj_get, mj_put, mj_len, mj_iar, mj_aar, mj_iaw, mj_aaw, mj_ivs, mj_ivv, mj_ivi, mj_ob, mj_tk, mj_cat, mj_st1, mj_st2, mj_clr, mj_nwi, mj_nwq, List.getElem?_cons_zero, List.getElem?_cons_succ, List.length_cons, List.length_nil, List.set_cons_zero, List.set_cons_succ, Value.category, decide_eq_true_eq, List.map_cons, List.map_nil, List.sum_cons, List.sum_nil, Option.toList, List.cons_append, List.nil_append, ite_true, ite_false, if_true, if_false, reduceCtorEq, true_and, and_true, narrow_i, narrow_l, narrow_r, narrow_n, fits_i, fits_l, fits_ro, fits_ra, fits_no, fits_na, Nat.reduceAdd, Nat.reduceLT, Nat.reduceLeDiff, Nat.reduceEqDiff, Nat.reduceSub, zero_add0, true_or, or_true, false_or, or_false, not_true_eq_false, not_false_eq_true, eq_self, i10, i01, im0, im1, ho, hr.1, e0, c_isThing o t (nI n) _ hp _ ho, wt', b1, c_codeOf, so_code_e (show j < 2 ^ 31 by omega) hje]
      refine c_add p3 (show so_code t z < 128 by omega) (fun htk hp1 h1 s1 => ?_) (fun hno => ?_)
      · rw [sp_if_t ⟨w2.1, w2.2.1, w2.2.2, wt, by rw [← hat]; exact htk⟩] at hQ
        simp only [x_5_34, x_5_37, x_5_38, x_5_41, x_5_42, mw_nx, mw_no, mw_ite, mw_call, mw_ret, mw_cst, mw_ii, mw_i1, mw_ll, mw_l1, mw_li, mw_i2l, mw_l2i, mw_lcm, mw_if, mw_ic, mw_ifnN, mw_ifnR, mw_go, mw_dupi, mw_dupr, mw_popi, mw_popr, mw_nw, mw_rti, mw_rtl, mw_rtr, mw_rtn, mw_rtv, mw_rt0, mw_rt1, mj_ild, mj_lld, mj_ald, mj_ist, mj_lst, mj_ast, mj_inc, mj_iz, mj_get, mj_put, mj_len, mj_iar, mj_aar, mj_iaw, mj_aaw, mj_ivs, mj_ivv, mj_ivi, mj_ob, mj_tk, mj_cat, mj_st1, mj_st2, mj_clr, mj_nwi, mj_nwq, List.getElem?_cons_zero, List.getElem?_cons_succ, List.length_cons, List.length_nil, List.set_cons_zero, List.set_cons_succ, Value.category, decide_eq_true_eq, List.map_cons, List.map_nil, List.sum_cons, List.sum_nil, Option.toList, List.cons_append, List.nil_append, ite_true, ite_false, if_true, if_false, reduceCtorEq, true_and, and_true, narrow_i, narrow_l, narrow_r, narrow_n, fits_i, fits_l, fits_ro, fits_ra, fits_no, fits_na, Nat.reduceAdd, Nat.reduceLT, Nat.reduceLeDiff, Nat.reduceEqDiff, Nat.reduceSub, zero_add0, true_or, or_true, false_or, or_false, not_true_eq_false, not_false_eq_true, eq_self, i10, i01, im0, im1]
        obtain ⟨r2, k2⟩ := pf_set hr hpk (show ls.length - 1 < 80 by omega) h1 s1
        have s2 : sm hp hp1 P (P + 163) := s1.mono (by omega) (by omega)
        refine hQ hp1 ⟨P, S, hw.pf s2 ⟨ρ, g, π, _, ?_, k2, ?_, ?_, fun l hl => ?_⟩⟩ (s2.mono (by omega) (by omega))
        · unfold so_app; rw [List.length_set]; exact r2
        · unfold so_app; rw [List.length_set, map_set, hmap, hat]
        · unfold so_app; rw [List.length_set]; exact hk
        · unfold so_app at hl
          rcases List.mem_or_eq_of_mem_set hl with q | q
          · exact hlv l q
          · rw [q]
            have hlvl := hlv _ (so_at_mem hlt)
            exact lv_add hlvl hc (by rw [← hat]; exact htk)
      · rw [sp_if_f (fun q => hno (by rw [hat]; exact q.2.2.2.2))] at hQ
        simp only [x_5_34, x_5_37, x_5_38, x_5_41, x_5_42, mw_nx, mw_no, mw_ite, mw_call, mw_ret, mw_cst, mw_ii, mw_i1, mw_ll, mw_l1, mw_li, mw_i2l, mw_l2i, mw_lcm, mw_if, mw_ic, mw_ifnN, mw_ifnR, mw_go, mw_dupi, mw_dupr, mw_popi, mw_popr, mw_nw, mw_rti, mw_rtl, mw_rtr, mw_rtn, mw_rtv, mw_rt0, mw_rt1, mj_ild, mj_lld, mj_ald, mj_ist, mj_lst, mj_ast, mj_inc, mj_iz, mj_get, mj_put, mj_len, mj_iar, mj_aar, mj_iaw, mj_aaw, mj_ivs, mj_ivv, mj_ivi, mj_ob, mj_tk, mj_cat, mj_st1, mj_st2, mj_clr, mj_nwi, mj_nwq, List.getElem?_cons_zero, List.getElem?_cons_succ, List.length_cons, List.length_nil, List.set_cons_zero, List.set_cons_succ, Value.category, decide_eq_true_eq, List.map_cons, List.map_nil, List.sum_cons, List.sum_nil, Option.toList, List.cons_append, List.nil_append, ite_true, ite_false, if_true, if_false, reduceCtorEq, true_and, and_true, narrow_i, narrow_l, narrow_r, narrow_n, fits_i, fits_l, fits_ro, fits_ra, fits_no, fits_na, Nat.reduceAdd, Nat.reduceLT, Nat.reduceLeDiff, Nat.reduceEqDiff, Nat.reduceSub, zero_add0, true_or, or_true, false_or, or_false, not_true_eq_false, not_false_eq_true, eq_self, i10, i01, im0, im1]
        exact hQ hp ⟨P, S, hw⟩ sm.rf
    · have wt' : (0 ≤ t ∧ t < nI n) = False := eq_false wt
      rw [sp_if_f (fun q => wt q.2.2.2.1)] at hQ
      simp only [x_5_0, x_5_1, x_5_4, x_5_5, x_5_6, x_5_9, x_5_11, x_5_13, x_5_16, x_5_17, x_5_18, x_5_21, x_5_24, x_5_26, x_5_27, x_5_28, x_5_31, x_5_34, x_5_37, x_5_38, x_5_41, x_5_42, mw_nx, mw_no, mw_ite, mw_call, mw_ret, mw_cst, mw_ii, mw_i1, mw_ll, mw_l1, mw_li, mw_i2l, mw_l2i, mw_lcm, mw_if, mw_ic, mw_ifnN, mw_ifnR, mw_go, mw_dupi, mw_dupr, mw_popi, mw_popr, mw_nw, mw_rti, mw_rtl, mw_rtr, mw_rtn, mw_rtv, mw_rt0, mw_rt1, mj_ild, mj_lld, mj_ald, mj_ist, mj_lst, mj_ast, mj_inc, mj_iz, mj_get, mj_put, mj_len, mj_iar, mj_aar, mj_iaw, mj_aaw, mj_ivs, mj_ivv, mj_ivi, mj_ob, mj_tk, mj_cat, mj_st1, mj_st2, mj_clr, mj_nwi, mj_nwq, List.getElem?_cons_zero, List.getElem?_cons_succ, List.length_cons, List.length_nil, List.set_cons_zero, List.set_cons_succ, Value.category, decide_eq_true_eq, List.map_cons, List.map_nil, List.sum_cons, List.sum_nil, Option.toList, List.cons_append, List.nil_append, ite_true, ite_false, if_true, if_false, reduceCtorEq, true_and, and_true, narrow_i, narrow_l, narrow_r, narrow_n, fits_i, fits_l, fits_ro, fits_ra, fits_no, fits_na, Nat.reduceAdd, Nat.reduceLT, Nat.reduceLeDiff, Nat.reduceEqDiff, Nat.reduceSub, zero_add0, true_or, or_true, false_or, or_false, not_true_eq_false, not_false_eq_true, eq_self, i10, i01, im0, im1, ho, hr.1, e0, c_isThing o t (nI n) _ hp _ ho, wt']
      exact hQ hp ⟨P, S, hw⟩ sm.rf
  · have e0 := fun Q => (l0 Q).trans (by rw [if_neg w])
    rw [sp_if_f (fun q => w ⟨q.1, q.2.1, by rw [map_at hmap (by omega)]; exact q.2.2.1⟩)] at hQ
    simp only [x_5_0, x_5_1, x_5_4, x_5_5, x_5_6, x_5_9, x_5_11, x_5_13, x_5_16, x_5_17, x_5_18, x_5_21, x_5_24, x_5_26, x_5_27, x_5_28, x_5_31, x_5_34, x_5_37, x_5_38, x_5_41, x_5_42, mw_nx, mw_no, mw_ite, mw_call, mw_ret, mw_cst, mw_ii, mw_i1, mw_ll, mw_l1, mw_li, mw_i2l, mw_l2i, mw_lcm, mw_if, mw_ic, mw_ifnN, mw_ifnR, mw_go, mw_dupi, mw_dupr, mw_popi, mw_popr, mw_nw, mw_rti, mw_rtl, mw_rtr, mw_rtn, mw_rtv, mw_rt0, mw_rt1, mj_ild, mj_lld, mj_ald, mj_ist, mj_lst, mj_ast, mj_inc, mj_iz, mj_get, mj_put, mj_len, mj_iar, mj_aar, mj_iaw, mj_aaw, mj_ivs, mj_ivv, mj_ivi, mj_ob, mj_tk, mj_cat, mj_st1, mj_st2, mj_clr, mj_nwi, mj_nwq, List.getElem?_cons_zero, List.getElem?_cons_succ, List.length_cons, List.length_nil, List.set_cons_zero, List.set_cons_succ, Value.category, decide_eq_true_eq, List.map_cons, List.map_nil, List.sum_cons, List.sum_nil, Option.toList, List.cons_append, List.nil_append, ite_true, ite_false, if_true, if_false, reduceCtorEq, true_and, and_true, narrow_i, narrow_l, narrow_r, narrow_n, fits_i, fits_l, fits_ro, fits_ra, fits_no, fits_na, Nat.reduceAdd, Nat.reduceLT, Nat.reduceLeDiff, Nat.reduceEqDiff, Nat.reduceSub, zero_add0, true_or, or_true, false_or, or_false, not_true_eq_false, not_false_eq_true, eq_self, i10, i01, im0, im1, ho, hr.1, e0]
    exact hQ hp ⟨P, S, hw⟩ sm.rf
theorem d_value (x t z : Int32) (h : cl_at hp o s) (hQ : ∀ hp' : mj_H, cl_at hp' o (so_add 3 x t z s).1 → sm hp hp' o (o + 331) → Q (some (.int (so_add 3 x t z s).2)) hp') : mj_call 10 [.ref o, .int x, .int t, .int z] hp Q := by
  obtain ⟨n, col, ls, xs⟩ := s
  obtain ⟨P, S, h⟩ := h
  have hw := h
  obtain ⟨hPS, hn, ho, ⟨kc, hkc, hcol⟩, hcb, ⟨p, hre⟩, ⟨ρ, g, π, C, hr, hpk, hmap, hk, hlv⟩, hsp⟩ := h
  dsimp only at *
  unfold so_add at hQ
  dsimp only at hQ
  have l0 : ∀ (Q : mj_Q), mj_call 51 [.ref P, .int x, .int 3] hp Q = Q (some (if 0 < ls.length ∧ x = nI (ls.length - 1) ∧ (C (ls.length - 1)).1 = 3 then .ref (P + 3 + 2 * π (ls.length - 1)) else .null)) hp := fun Q => c_lastOf (s := 3) hr hk hpk x (by omega)
  rw [en_10]
  by_cases w : 0 < ls.length ∧ x = nI (ls.length - 1) ∧ (C (ls.length - 1)).1 = 3
  · have hlt : ls.length - 1 < ls.length := by omega
    have hat := map_at hmap hlt
    have w2 := w
    rw [hat] at w2
    obtain ⟨p1, p2, p3⟩ := hpk.1 (ls.length - 1) (by omega)
    have p4 := p3
    obtain ⟨f, t1, u1, b1, -⟩ := p4
    have e0 := fun Q => (l0 Q).trans (by rw [if_pos w])
    by_cases wt : so_th n t
    · have wt' : (0 ≤ t ∧ t < nI n) = True := eq_true wt
      obtain ⟨j, hj, hje, hjc⟩ := so_th_nat hn.2 wt
      have hc : so_code t z < 2 * n := by unfold so_code; rw [hjc]; split <;> omega
      simp only [x_10_0, x_10_1, x_10_4, x_10_5, x_10_6, x_10_9, x_10_11, x_10_13, x_10_16, x_10_17, x_10_18, x_10_21, x_10_24, x_10_26, x_10_27, x_10_28, x_10_31, mw_nx, mw_no, mw_ite, mw_call, mw_ret, mw_cst, mw_ii, mw_i1, mw_ll, mw_l1, mw_li, mw_i2l, mw_l2i, mw_lcm, mw_if, mw_ic, mw_ifnN, mw_ifnR, mw_go, mw_dupi, mw_dupr, mw_popi, mw_popr, mw_nw, mw_rti, mw_rtl, mw_rtr, mw_rtn, mw_rtv, mw_rt0, mw_rt1, mj_ild, mj_lld, mj_ald, mj_ist, mj_lst, mj_ast, mj_inc, mj_iz, mj_get, mj_put, mj_len, mj_iar, mj_aar, mj_iaw, mj_aaw, mj_ivs, mj_ivv, mj_ivi, mj_ob, mj_tk, mj_cat, mj_st1, mj_st2, mj_clr, mj_nwi, mj_nwq, List.getElem?_cons_zero, List.getElem?_cons_succ, List.length_cons, List.length_nil, List.set_cons_zero, List.set_cons_succ, Value.category, decide_eq_true_eq, List.map_cons, List.map_nil, List.sum_cons, List.sum_nil, Option.toList, List.cons_append, List.nil_append, ite_true, ite_false, if_true, if_false, reduceCtorEq, true_and, and_true, narrow_i, narrow_l, narrow_r, narrow_n, fits_i, fits_l, fits_ro, fits_ra, fits_no, fits_na, Nat.reduceAdd, Nat.reduceLT, Nat.reduceLeDiff, Nat.reduceEqDiff, Nat.reduceSub, zero_add0, true_or, or_true, false_or, or_false, not_true_eq_false, not_false_eq_true, eq_self, i10, i01, im0, im1, ho, hr.1, e0, c_isThing o t (nI n) _ hp _ ho, wt', b1, c_codeOf, so_code_e (show j < 2 ^ 31 by omega) hje]
      refine c_add p3 (show so_code t z < 128 by omega) (fun htk hp1 h1 s1 => ?_) (fun hno => ?_)
      · rw [sp_if_t ⟨w2.1, w2.2.1, w2.2.2, wt, by rw [← hat]; exact htk⟩] at hQ
        simp only [x_10_34, x_10_37, x_10_38, x_10_41, x_10_42, mw_nx, mw_no, mw_ite, mw_call, mw_ret, mw_cst, mw_ii, mw_i1, mw_ll, mw_l1, mw_li, mw_i2l, mw_l2i, mw_lcm, mw_if, mw_ic, mw_ifnN, mw_ifnR, mw_go, mw_dupi, mw_dupr, mw_popi, mw_popr, mw_nw, mw_rti, mw_rtl, mw_rtr, mw_rtn, mw_rtv, mw_rt0, mw_rt1, mj_ild, mj_lld, mj_ald, mj_ist, mj_lst, mj_ast, mj_inc, mj_iz, mj_get, mj_put, mj_len, mj_iar, mj_aar, mj_iaw, mj_aaw, mj_ivs, mj_ivv, mj_ivi, mj_ob, mj_tk, mj_cat, mj_st1, mj_st2, mj_clr, mj_nwi, mj_nwq, List.getElem?_cons_zero, List.getElem?_cons_succ, List.length_cons, List.length_nil, List.set_cons_zero, List.set_cons_succ, Value.category, decide_eq_true_eq, List.map_cons, List.map_nil, List.sum_cons, List.sum_nil, Option.toList, List.cons_append, List.nil_append, ite_true, ite_false, if_true, if_false, reduceCtorEq, true_and, and_true, narrow_i, narrow_l, narrow_r, narrow_n, fits_i, fits_l, fits_ro, fits_ra, fits_no, fits_na, Nat.reduceAdd, Nat.reduceLT, Nat.reduceLeDiff, Nat.reduceEqDiff, Nat.reduceSub, zero_add0, true_or, or_true, false_or, or_false, not_true_eq_false, not_false_eq_true, eq_self, i10, i01, im0, im1]
        obtain ⟨r2, k2⟩ := pf_set hr hpk (show ls.length - 1 < 80 by omega) h1 s1
        have s2 : sm hp hp1 P (P + 163) := s1.mono (by omega) (by omega)
        refine hQ hp1 ⟨P, S, hw.pf s2 ⟨ρ, g, π, _, ?_, k2, ?_, ?_, fun l hl => ?_⟩⟩ (s2.mono (by omega) (by omega))
        · unfold so_app; rw [List.length_set]; exact r2
        · unfold so_app; rw [List.length_set, map_set, hmap, hat]
        · unfold so_app; rw [List.length_set]; exact hk
        · unfold so_app at hl
          rcases List.mem_or_eq_of_mem_set hl with q | q
          · exact hlv l q
          · rw [q]
            have hlvl := hlv _ (so_at_mem hlt)
            exact lv_add hlvl hc (by rw [← hat]; exact htk)
      · rw [sp_if_f (fun q => hno (by rw [hat]; exact q.2.2.2.2))] at hQ
        simp only [x_10_34, x_10_37, x_10_38, x_10_41, x_10_42, mw_nx, mw_no, mw_ite, mw_call, mw_ret, mw_cst, mw_ii, mw_i1, mw_ll, mw_l1, mw_li, mw_i2l, mw_l2i, mw_lcm, mw_if, mw_ic, mw_ifnN, mw_ifnR, mw_go, mw_dupi, mw_dupr, mw_popi, mw_popr, mw_nw, mw_rti, mw_rtl, mw_rtr, mw_rtn, mw_rtv, mw_rt0, mw_rt1, mj_ild, mj_lld, mj_ald, mj_ist, mj_lst, mj_ast, mj_inc, mj_iz, mj_get, mj_put, mj_len, mj_iar, mj_aar, mj_iaw, mj_aaw, mj_ivs, mj_ivv, mj_ivi, mj_ob, mj_tk, mj_cat, mj_st1, mj_st2, mj_clr, mj_nwi, mj_nwq, List.getElem?_cons_zero, List.getElem?_cons_succ, List.length_cons, List.length_nil, List.set_cons_zero, List.set_cons_succ, Value.category, decide_eq_true_eq, List.map_cons, List.map_nil, List.sum_cons, List.sum_nil, Option.toList, List.cons_append, List.nil_append, ite_true, ite_false, if_true, if_false, reduceCtorEq, true_and, and_true, narrow_i, narrow_l, narrow_r, narrow_n, fits_i, fits_l, fits_ro, fits_ra, fits_no, fits_na, Nat.reduceAdd, Nat.reduceLT, Nat.reduceLeDiff, Nat.reduceEqDiff, Nat.reduceSub, zero_add0, true_or, or_true, false_or, or_false, not_true_eq_false, not_false_eq_true, eq_self, i10, i01, im0, im1]
        exact hQ hp ⟨P, S, hw⟩ sm.rf
    · have wt' : (0 ≤ t ∧ t < nI n) = False := eq_false wt
      rw [sp_if_f (fun q => wt q.2.2.2.1)] at hQ
      simp only [x_10_0, x_10_1, x_10_4, x_10_5, x_10_6, x_10_9, x_10_11, x_10_13, x_10_16, x_10_17, x_10_18, x_10_21, x_10_24, x_10_26, x_10_27, x_10_28, x_10_31, x_10_34, x_10_37, x_10_38, x_10_41, x_10_42, mw_nx, mw_no, mw_ite, mw_call, mw_ret, mw_cst, mw_ii, mw_i1, mw_ll, mw_l1, mw_li, mw_i2l, mw_l2i, mw_lcm, mw_if, mw_ic, mw_ifnN, mw_ifnR, mw_go, mw_dupi, mw_dupr, mw_popi, mw_popr, mw_nw, mw_rti, mw_rtl, mw_rtr, mw_rtn, mw_rtv, mw_rt0, mw_rt1, mj_ild, mj_lld, mj_ald, mj_ist, mj_lst, mj_ast, mj_inc, mj_iz, mj_get, mj_put, mj_len, mj_iar, mj_aar, mj_iaw, mj_aaw, mj_ivs, mj_ivv, mj_ivi, mj_ob, mj_tk, mj_cat, mj_st1, mj_st2, mj_clr, mj_nwi, mj_nwq, List.getElem?_cons_zero, List.getElem?_cons_succ, List.length_cons, List.length_nil, List.set_cons_zero, List.set_cons_succ, Value.category, decide_eq_true_eq, List.map_cons, List.map_nil, List.sum_cons, List.sum_nil, Option.toList, List.cons_append, List.nil_append, ite_true, ite_false, if_true, if_false, reduceCtorEq, true_and, and_true, narrow_i, narrow_l, narrow_r, narrow_n, fits_i, fits_l, fits_ro, fits_ra, fits_no, fits_na, Nat.reduceAdd, Nat.reduceLT, Nat.reduceLeDiff, Nat.reduceEqDiff, Nat.reduceSub, zero_add0, true_or, or_true, false_or, or_false, not_true_eq_false, not_false_eq_true, eq_self, i10, i01, im0, im1, ho, hr.1, e0, c_isThing o t (nI n) _ hp _ ho, wt']
      exact hQ hp ⟨P, S, hw⟩ sm.rf
  · have e0 := fun Q => (l0 Q).trans (by rw [if_neg w])
    rw [sp_if_f (fun q => w ⟨q.1, q.2.1, by rw [map_at hmap (by omega)]; exact q.2.2.1⟩)] at hQ
    simp only [x_10_0, x_10_1, x_10_4, x_10_5, x_10_6, x_10_9, x_10_11, x_10_13, x_10_16, x_10_17, x_10_18, x_10_21, x_10_24, x_10_26, x_10_27, x_10_28, x_10_31, x_10_34, x_10_37, x_10_38, x_10_41, x_10_42, mw_nx, mw_no, mw_ite, mw_call, mw_ret, mw_cst, mw_ii, mw_i1, mw_ll, mw_l1, mw_li, mw_i2l, mw_l2i, mw_lcm, mw_if, mw_ic, mw_ifnN, mw_ifnR, mw_go, mw_dupi, mw_dupr, mw_popi, mw_popr, mw_nw, mw_rti, mw_rtl, mw_rtr, mw_rtn, mw_rtv, mw_rt0, mw_rt1, mj_ild, mj_lld, mj_ald, mj_ist, mj_lst, mj_ast, mj_inc, mj_iz, mj_get, mj_put, mj_len, mj_iar, mj_aar, mj_iaw, mj_aaw, mj_ivs, mj_ivv, mj_ivi, mj_ob, mj_tk, mj_cat, mj_st1, mj_st2, mj_clr, mj_nwi, mj_nwq, List.getElem?_cons_zero, List.getElem?_cons_succ, List.length_cons, List.length_nil, List.set_cons_zero, List.set_cons_succ, Value.category, decide_eq_true_eq, List.map_cons, List.map_nil, List.sum_cons, List.sum_nil, Option.toList, List.cons_append, List.nil_append, ite_true, ite_false, if_true, if_false, reduceCtorEq, true_and, and_true, narrow_i, narrow_l, narrow_r, narrow_n, fits_i, fits_l, fits_ro, fits_ra, fits_no, fits_na, Nat.reduceAdd, Nat.reduceLT, Nat.reduceLeDiff, Nat.reduceEqDiff, Nat.reduceSub, zero_add0, true_or, or_true, false_or, or_false, not_true_eq_false, not_false_eq_true, eq_self, i10, i01, im0, im1, ho, hr.1, e0]
    exact hQ hp ⟨P, S, hw⟩ sm.rf
theorem d_lines (h : cl_at hp o s) (hQ : ∀ hp' : mj_H, cl_at hp' o (so_lines s).1 → sm hp hp' o (o + 331) → Q (some (.int (so_lines s).2)) hp') : mj_call 14 [.ref o] hp Q := by
  have h0 := h
  obtain ⟨n, col, ls, xs⟩ := s
  obtain ⟨P, S, h⟩ := h
  obtain ⟨hPS, hn, ho, ⟨kc, hkc, hcol⟩, hcb, ⟨p, hre⟩, ⟨ρ, g, π, C, hr, hpk, hmap, hk, hlv⟩, hsp⟩ := h
  dsimp only at *
  rw [en_14]
  simp only [x_14_0, x_14_1, x_14_4, x_14_7, mw_nx, mw_no, mw_ite, mw_call, mw_ret, mw_cst, mw_ii, mw_i1, mw_ll, mw_l1, mw_li, mw_i2l, mw_l2i, mw_lcm, mw_if, mw_ic, mw_ifnN, mw_ifnR, mw_go, mw_dupi, mw_dupr, mw_popi, mw_popr, mw_nw, mw_rti, mw_rtl, mw_rtr, mw_rtn, mw_rtv, mw_rt0, mw_rt1, mj_ild, mj_lld, mj_ald, mj_ist, mj_lst, mj_ast, mj_inc, mj_iz, mj_get, mj_put, mj_len, mj_iar, mj_aar, mj_iaw, mj_aaw, mj_ivs, mj_ivv, mj_ivi, mj_ob, mj_tk, mj_cat, mj_st1, mj_st2, mj_clr, mj_nwi, mj_nwq, List.getElem?_cons_zero, List.getElem?_cons_succ, List.length_cons, List.length_nil, List.set_cons_zero, List.set_cons_succ, Value.category, decide_eq_true_eq, List.map_cons, List.map_nil, List.sum_cons, List.sum_nil, Option.toList, List.cons_append, List.nil_append, ite_true, ite_false, if_true, if_false, reduceCtorEq, true_and, and_true, narrow_i, narrow_l, narrow_r, narrow_n, fits_i, fits_l, fits_ro, fits_ra, fits_no, fits_na, Nat.reduceAdd, Nat.reduceLT, Nat.reduceLeDiff, Nat.reduceEqDiff, Nat.reduceSub, zero_add0, true_or, or_true, false_or, or_false, not_true_eq_false, not_false_eq_true, eq_self, i10, i01, im0, im1, ho, hr.1, c_count hr]
  exact hQ hp h0 sm.rf
theorem d_kind (x : Int32) (h : cl_at hp o s) (hQ : ∀ hp' : mj_H, cl_at hp' o (so_kind x s).1 → sm hp hp' o (o + 331) → Q (some (.int (so_kind x s).2)) hp') : mj_call 15 [.ref o, .int x] hp Q := by
  have h0 := h
  obtain ⟨n, col, ls, xs⟩ := s
  obtain ⟨P, S, h⟩ := h
  obtain ⟨hPS, hn, ho, ⟨kc, hkc, hcol⟩, hcb, ⟨p, hre⟩, ⟨ρ, g, π, C, hr, hpk, hmap, hk, hlv⟩, hsp⟩ := h
  dsimp only at *
  have hfin := hQ hp h0 sm.rf
  unfold so_kind at hfin
  dsimp only at hfin
  rw [en_15]
  by_cases w : 0 ≤ x ∧ x < nI ls.length
  · rw [sp_if_t w] at hfin
    have x0 : ¬ x < 0 := by
      have := w.1
      rw [Int32.le_iff_toInt_le] at this; rw [Int32.lt_iff_toInt_lt]; omega
    obtain ⟨j, hj, rfl⟩ := nI_of x0
    have hjl : j < ls.length := by
      have := w.2
      rw [nI_ltI hj (by omega)] at this
      exact this
    obtain ⟨p1, p2, f, t, u, b1, -⟩ := hpk.1 j (by omega)
    rw [nI_clamp hj, ← map_at hmap hjl] at hfin
    simp only [x_15_0, x_15_1, x_15_4, x_15_5, x_15_8, x_15_9, x_15_10, x_15_13, x_15_14, x_15_17, x_15_18, x_15_21, mw_nx, mw_no, mw_ite, mw_call, mw_ret, mw_cst, mw_ii, mw_i1, mw_ll, mw_l1, mw_li, mw_i2l, mw_l2i, mw_lcm, mw_if, mw_ic, mw_ifnN, mw_ifnR, mw_go, mw_dupi, mw_dupr, mw_popi, mw_popr, mw_nw, mw_rti, mw_rtl, mw_rtr, mw_rtn, mw_rtv, mw_rt0, mw_rt1, mj_ild, mj_lld, mj_ald, mj_ist, mj_lst, mj_ast, mj_inc, mj_iz, mj_get, mj_put, mj_len, mj_iar, mj_aar, mj_iaw, mj_aaw, mj_ivs, mj_ivv, mj_ivi, mj_ob, mj_tk, mj_cat, mj_st1, mj_st2, mj_clr, mj_nwi, mj_nwq, List.getElem?_cons_zero, List.getElem?_cons_succ, List.length_cons, List.length_nil, List.set_cons_zero, List.set_cons_succ, Value.category, decide_eq_true_eq, List.map_cons, List.map_nil, List.sum_cons, List.sum_nil, Option.toList, List.cons_append, List.nil_append, ite_true, ite_false, if_true, if_false, reduceCtorEq, true_and, and_true, narrow_i, narrow_l, narrow_r, narrow_n, fits_i, fits_l, fits_ro, fits_ra, fits_no, fits_na, Nat.reduceAdd, Nat.reduceLT, Nat.reduceLeDiff, Nat.reduceEqDiff, Nat.reduceSub, zero_add0, true_or, or_true, false_or, or_false, not_true_eq_false, not_false_eq_true, eq_self, i10, i01, im0, im1, ho, hr.1, c_at hr hk hjl hpk, b1, c_sort b1]
    exact hfin
  · rw [sp_if_f w] at hfin
    simp only [x_15_0, x_15_1, x_15_4, x_15_5, x_15_8, x_15_9, x_15_10, x_15_13, x_15_14, x_15_17, x_15_18, x_15_21, mw_nx, mw_no, mw_ite, mw_call, mw_ret, mw_cst, mw_ii, mw_i1, mw_ll, mw_l1, mw_li, mw_i2l, mw_l2i, mw_lcm, mw_if, mw_ic, mw_ifnN, mw_ifnR, mw_go, mw_dupi, mw_dupr, mw_popi, mw_popr, mw_nw, mw_rti, mw_rtl, mw_rtr, mw_rtn, mw_rtv, mw_rt0, mw_rt1, mj_ild, mj_lld, mj_ald, mj_ist, mj_lst, mj_ast, mj_inc, mj_iz, mj_get, mj_put, mj_len, mj_iar, mj_aar, mj_iaw, mj_aaw, mj_ivs, mj_ivv, mj_ivi, mj_ob, mj_tk, mj_cat, mj_st1, mj_st2, mj_clr, mj_nwi, mj_nwq, List.getElem?_cons_zero, List.getElem?_cons_succ, List.length_cons, List.length_nil, List.set_cons_zero, List.set_cons_succ, Value.category, decide_eq_true_eq, List.map_cons, List.map_nil, List.sum_cons, List.sum_nil, Option.toList, List.cons_append, List.nil_append, ite_true, ite_false, if_true, if_false, reduceCtorEq, true_and, and_true, narrow_i, narrow_l, narrow_r, narrow_n, fits_i, fits_l, fits_ro, fits_ra, fits_no, fits_na, Nat.reduceAdd, Nat.reduceLT, Nat.reduceLeDiff, Nat.reduceEqDiff, Nat.reduceSub, zero_add0, true_or, or_true, false_or, or_false, not_true_eq_false, not_false_eq_true, eq_self, i10, i01, im0, im1, ho, hr.1, c_atN hr hk w]
    exact hfin
theorem d_member (x i : Int32) (h : cl_at hp o s) (hQ : ∀ hp' : mj_H, cl_at hp' o (so_member x i s).1 → sm hp hp' o (o + 331) → Q (some (.int (so_member x i s).2)) hp') : mj_call 16 [.ref o, .int x, .int i] hp Q := by
  have h0 := h
  obtain ⟨n, col, ls, xs⟩ := s
  obtain ⟨P, S, h⟩ := h
  obtain ⟨hPS, hn, ho, ⟨kc, hkc, hcol⟩, hcb, ⟨p, hre⟩, ⟨ρ, g, π, C, hr, hpk, hmap, hk, hlv⟩, hsp⟩ := h
  dsimp only at *
  have hfin := hQ hp h0 sm.rf
  unfold so_member at hfin
  dsimp only at hfin
  rw [en_16]
  by_cases w : 0 ≤ x ∧ x < nI ls.length
  · have x0 : ¬ x < 0 := by
      have := w.1
      rw [Int32.le_iff_toInt_le] at this; rw [Int32.lt_iff_toInt_lt]; omega
    obtain ⟨j, hj, rfl⟩ := nI_of x0
    have hjl : j < ls.length := by
      have := w.2
      rw [nI_ltI hj (by omega)] at this
      exact this
    obtain ⟨p1, p2, f, t, u, b1, b2, hv, hok, hs3⟩ := hpk.1 j (by omega)
    rw [nI_clamp hj, ← map_at hmap hjl] at hfin
    have hlen := ln_len hok
    simp only [x_16_0, x_16_1, x_16_4, x_16_5, x_16_8, x_16_9, x_16_10, x_16_13, x_16_14, x_16_17, x_16_18, x_16_19, x_16_22, mw_nx, mw_no, mw_ite, mw_call, mw_ret, mw_cst, mw_ii, mw_i1, mw_ll, mw_l1, mw_li, mw_i2l, mw_l2i, mw_lcm, mw_if, mw_ic, mw_ifnN, mw_ifnR, mw_go, mw_dupi, mw_dupr, mw_popi, mw_popr, mw_nw, mw_rti, mw_rtl, mw_rtr, mw_rtn, mw_rtv, mw_rt0, mw_rt1, mj_ild, mj_lld, mj_ald, mj_ist, mj_lst, mj_ast, mj_inc, mj_iz, mj_get, mj_put, mj_len, mj_iar, mj_aar, mj_iaw, mj_aaw, mj_ivs, mj_ivv, mj_ivi, mj_ob, mj_tk, mj_cat, mj_st1, mj_st2, mj_clr, mj_nwi, mj_nwq, List.getElem?_cons_zero, List.getElem?_cons_succ, List.length_cons, List.length_nil, List.set_cons_zero, List.set_cons_succ, Value.category, decide_eq_true_eq, List.map_cons, List.map_nil, List.sum_cons, List.sum_nil, Option.toList, List.cons_append, List.nil_append, ite_true, ite_false, if_true, if_false, reduceCtorEq, true_and, and_true, narrow_i, narrow_l, narrow_r, narrow_n, fits_i, fits_l, fits_ro, fits_ra, fits_no, fits_na, Nat.reduceAdd, Nat.reduceLT, Nat.reduceLeDiff, Nat.reduceEqDiff, Nat.reduceSub, zero_add0, true_or, or_true, false_or, or_false, not_true_eq_false, not_false_eq_true, eq_self, i10, i01, im0, im1, ho, hr.1, c_at hr hk hjl hpk, b1, c_codeAt b1 b2 hlen]
    by_cases w2 : 0 ≤ i ∧ i < nI (C j).2.length
    · rw [sp_if_t ⟨w, w2⟩] at hfin
      rw [if_pos w2]
      have i0 : ¬ i < 0 := by
        have := w2.1
        rw [Int32.le_iff_toInt_le] at this; rw [Int32.lt_iff_toInt_lt]; omega
      obtain ⟨q, hq, rfl⟩ := nI_of i0
      have hql : q < (C j).2.length := by
        have := w2.2
        rw [nI_ltI hq (by omega)] at this
        exact this
      rw [nI_clamp hq] at hfin ⊢
      rw [hv.1 q hql]
      exact hfin
    · rw [sp_if_f (fun q => w2 q.2)] at hfin
      rw [if_neg w2]
      exact hfin
  · rw [sp_if_f (fun q => w q.1)] at hfin
    simp only [x_16_0, x_16_1, x_16_4, x_16_5, x_16_8, x_16_9, x_16_10, x_16_13, x_16_14, x_16_17, x_16_18, x_16_19, x_16_22, mw_nx, mw_no, mw_ite, mw_call, mw_ret, mw_cst, mw_ii, mw_i1, mw_ll, mw_l1, mw_li, mw_i2l, mw_l2i, mw_lcm, mw_if, mw_ic, mw_ifnN, mw_ifnR, mw_go, mw_dupi, mw_dupr, mw_popi, mw_popr, mw_nw, mw_rti, mw_rtl, mw_rtr, mw_rtn, mw_rtv, mw_rt0, mw_rt1, mj_ild, mj_lld, mj_ald, mj_ist, mj_lst, mj_ast, mj_inc, mj_iz, mj_get, mj_put, mj_len, mj_iar, mj_aar, mj_iaw, mj_aaw, mj_ivs, mj_ivv, mj_ivi, mj_ob, mj_tk, mj_cat, mj_st1, mj_st2, mj_clr, mj_nwi, mj_nwq, List.getElem?_cons_zero, List.getElem?_cons_succ, List.length_cons, List.length_nil, List.set_cons_zero, List.set_cons_succ, Value.category, decide_eq_true_eq, List.map_cons, List.map_nil, List.sum_cons, List.sum_nil, Option.toList, List.cons_append, List.nil_append, ite_true, ite_false, if_true, if_false, reduceCtorEq, true_and, and_true, narrow_i, narrow_l, narrow_r, narrow_n, fits_i, fits_l, fits_ro, fits_ra, fits_no, fits_na, Nat.reduceAdd, Nat.reduceLT, Nat.reduceLeDiff, Nat.reduceEqDiff, Nat.reduceSub, zero_add0, true_or, or_true, false_or, or_false, not_true_eq_false, not_false_eq_true, eq_self, i10, i01, im0, im1, ho, hr.1, c_atN hr hk w]
    exact hfin
theorem pf_tl_text {C : Nat → Nat × List Nat} : ∀ (d i : Nat), pf_tl C i d = sp_text ((List.range' i d).map C) := by
  intro d
  induction d with
  | zero => intro i; rfl
  | succ d ih =>
    intro i
    rw [pf_tl, ih (i + 1), List.range'_succ, List.map_cons]
    unfold sp_text
    rw [List.flatMap_cons]
theorem d_text (i : Int32) (h : cl_at hp o s) (hQ : ∀ hp' : mj_H, cl_at hp' o (so_text i s).1 → sm hp hp' o (o + 331) → Q (some (.int (so_text i s).2)) hp') : mj_call 17 [.ref o, .int i] hp Q := by
  have h0 := h
  obtain ⟨n, col, ls, xs⟩ := s
  obtain ⟨P, S, h⟩ := h
  obtain ⟨hPS, hn, ho, ⟨kc, hkc, hcol⟩, hcb, ⟨p, hre⟩, ⟨ρ, g, π, C, hr, hpk, hmap, hk, hlv⟩, hsp⟩ := h
  dsimp only at *
  have hfin := hQ hp h0 sm.rf
  unfold so_text at hfin
  dsimp only at hfin
  rw [en_17]
  by_cases i0 : i < 0
  · have i1 : ¬ 0 ≤ i := by rw [Int32.le_iff_toInt_le]; rw [Int32.lt_iff_toInt_lt] at i0; omega
    rw [sp_if_f (fun q => i1 q.1)] at hfin
    simp only [x_17_0, x_17_1, x_17_4, x_17_5, x_17_8, x_17_9, x_17_12, x_17_13, x_17_16, mw_nx, mw_no, mw_ite, mw_call, mw_ret, mw_cst, mw_ii, mw_i1, mw_ll, mw_l1, mw_li, mw_i2l, mw_l2i, mw_lcm, mw_if, mw_ic, mw_ifnN, mw_ifnR, mw_go, mw_dupi, mw_dupr, mw_popi, mw_popr, mw_nw, mw_rti, mw_rtl, mw_rtr, mw_rtn, mw_rtv, mw_rt0, mw_rt1, mj_ild, mj_lld, mj_ald, mj_ist, mj_lst, mj_ast, mj_inc, mj_iz, mj_get, mj_put, mj_len, mj_iar, mj_aar, mj_iaw, mj_aaw, mj_ivs, mj_ivv, mj_ivi, mj_ob, mj_tk, mj_cat, mj_st1, mj_st2, mj_clr, mj_nwi, mj_nwq, List.getElem?_cons_zero, List.getElem?_cons_succ, List.length_cons, List.length_nil, List.set_cons_zero, List.set_cons_succ, Value.category, decide_eq_true_eq, List.map_cons, List.map_nil, List.sum_cons, List.sum_nil, Option.toList, List.cons_append, List.nil_append, ite_true, ite_false, if_true, if_false, reduceCtorEq, true_and, and_true, narrow_i, narrow_l, narrow_r, narrow_n, fits_i, fits_l, fits_ro, fits_ra, fits_no, fits_na, Nat.reduceAdd, Nat.reduceLT, Nat.reduceLeDiff, Nat.reduceEqDiff, Nat.reduceSub, zero_add0, true_or, or_true, false_or, or_false, not_true_eq_false, not_false_eq_true, eq_self, i10, i01, im0, im1, i1]
    exact hfin
  · have i1 : 0 ≤ i := by rw [Int32.le_iff_toInt_le]; rw [Int32.lt_iff_toInt_lt] at i0; omega
    obtain ⟨q, hq, rfl⟩ := nI_of i0
    simp only [x_17_0, x_17_1, x_17_4, x_17_5, x_17_8, x_17_9, x_17_12, x_17_13, mw_nx, mw_no, mw_ite, mw_call, mw_ret, mw_cst, mw_ii, mw_i1, mw_ll, mw_l1, mw_li, mw_i2l, mw_l2i, mw_lcm, mw_if, mw_ic, mw_ifnN, mw_ifnR, mw_go, mw_dupi, mw_dupr, mw_popi, mw_popr, mw_nw, mw_rti, mw_rtl, mw_rtr, mw_rtn, mw_rtv, mw_rt0, mw_rt1, mj_ild, mj_lld, mj_ald, mj_ist, mj_lst, mj_ast, mj_inc, mj_iz, mj_get, mj_put, mj_len, mj_iar, mj_aar, mj_iaw, mj_aaw, mj_ivs, mj_ivv, mj_ivi, mj_ob, mj_tk, mj_cat, mj_st1, mj_st2, mj_clr, mj_nwi, mj_nwq, List.getElem?_cons_zero, List.getElem?_cons_succ, List.length_cons, List.length_nil, List.set_cons_zero, List.set_cons_succ, Value.category, decide_eq_true_eq, List.map_cons, List.map_nil, List.sum_cons, List.sum_nil, Option.toList, List.cons_append, List.nil_append, ite_true, ite_false, if_true, if_false, reduceCtorEq, true_and, and_true, narrow_i, narrow_l, narrow_r, narrow_n, fits_i, fits_l, fits_ro, fits_ra, fits_no, fits_na, Nat.reduceAdd, Nat.reduceLT, Nat.reduceLeDiff, Nat.reduceEqDiff, Nat.reduceSub, zero_add0, true_or, or_true, false_or, or_false, not_true_eq_false, not_false_eq_true, eq_self, i10, i01, im0, im1, ho, hr.1, i1]
    refine c_pByteI hr hk hpk hq ?_
    have ht : pf_tl C 0 ls.length = sp_text ls := by rw [pf_tl_text, ← List.range_eq_range', hmap]
    rw [ht]
    simp only [x_17_16, mw_nx, mw_no, mw_ite, mw_call, mw_ret, mw_cst, mw_ii, mw_i1, mw_ll, mw_l1, mw_li, mw_i2l, mw_l2i, mw_lcm, mw_if, mw_ic, mw_ifnN, mw_ifnR, mw_go, mw_dupi, mw_dupr, mw_popi, mw_popr, mw_nw, mw_rti, mw_rtl, mw_rtr, mw_rtn, mw_rtv, mw_rt0, mw_rt1, mj_ild, mj_lld, mj_ald, mj_ist, mj_lst, mj_ast, mj_inc, mj_iz, mj_get, mj_put, mj_len, mj_iar, mj_aar, mj_iaw, mj_aaw, mj_ivs, mj_ivv, mj_ivi, mj_ob, mj_tk, mj_cat, mj_st1, mj_st2, mj_clr, mj_nwi, mj_nwq, List.getElem?_cons_zero, List.getElem?_cons_succ, List.length_cons, List.length_nil, List.set_cons_zero, List.set_cons_succ, Value.category, decide_eq_true_eq, List.map_cons, List.map_nil, List.sum_cons, List.sum_nil, Option.toList, List.cons_append, List.nil_append, ite_true, ite_false, if_true, if_false, reduceCtorEq, true_and, and_true, narrow_i, narrow_l, narrow_r, narrow_n, fits_i, fits_l, fits_ro, fits_ra, fits_no, fits_na, Nat.reduceAdd, Nat.reduceLT, Nat.reduceLeDiff, Nat.reduceEqDiff, Nat.reduceSub, zero_add0, true_or, or_true, false_or, or_false, not_true_eq_false, not_false_eq_true, eq_self, i10, i01, im0, im1]
    rw [nI_clamp hq] at hfin
    by_cases w : q < (sp_text ls).length
    · rw [sp_if_t ⟨i1, w⟩] at hfin
      rw [if_pos w]
      exact hfin
    · rw [sp_if_f (fun q => w q.2)] at hfin
      rw [if_neg w]
      exact hfin
theorem d_unit (u : Int32) (h : cl_at hp o s) (hQ : ∀ hp' : mj_H, cl_at hp' o (so_unit u s).1 → sm hp hp' o (o + 331) → Q (some (.int (so_unit u s).2)) hp') : mj_call 18 [.ref o, .int u] hp Q := by
  obtain ⟨n, col, ls, xs⟩ := s
  obtain ⟨P, S, h⟩ := h
  have hw := h
  obtain ⟨hPS, hn, ho, ⟨kc, hkc, hcol⟩, hcb, ⟨p, hre⟩, -, -⟩ := h
  dsimp only at *
  unfold so_unit at hQ
  dsimp only at hQ
  rw [en_18]
  simp only [x_18_0, x_18_1, x_18_4, x_18_5, mw_nx, mw_no, mw_ite, mw_call, mw_ret, mw_cst, mw_ii, mw_i1, mw_ll, mw_l1, mw_li, mw_i2l, mw_l2i, mw_lcm, mw_if, mw_ic, mw_ifnN, mw_ifnR, mw_go, mw_dupi, mw_dupr, mw_popi, mw_popr, mw_nw, mw_rti, mw_rtl, mw_rtr, mw_rtn, mw_rtv, mw_rt0, mw_rt1, mj_ild, mj_lld, mj_ald, mj_ist, mj_lst, mj_ast, mj_inc, mj_iz, mj_get, mj_put, mj_len, mj_iar, mj_aar, mj_iaw, mj_aaw, mj_ivs, mj_ivv, mj_ivi, mj_ob, mj_tk, mj_cat, mj_st1, mj_st2, mj_clr, mj_nwi, mj_nwq, List.getElem?_cons_zero, List.getElem?_cons_succ, List.length_cons, List.length_nil, List.set_cons_zero, List.set_cons_succ, Value.category, decide_eq_true_eq, List.map_cons, List.map_nil, List.sum_cons, List.sum_nil, Option.toList, List.cons_append, List.nil_append, ite_true, ite_false, if_true, if_false, reduceCtorEq, true_and, and_true, narrow_i, narrow_l, narrow_r, narrow_n, fits_i, fits_l, fits_ro, fits_ra, fits_no, fits_na, Nat.reduceAdd, Nat.reduceLT, Nat.reduceLeDiff, Nat.reduceEqDiff, Nat.reduceSub, zero_add0, true_or, or_true, false_or, or_false, not_true_eq_false, not_false_eq_true, eq_self, i10, i01, im0, im1, ho, hre.1]
  refine c_take hre u (fun u0 u1 u2 hp1 h1 s1 => ?_) (fun hno => ?_)
  · rw [sp_if_t ⟨u0, u1, u2⟩] at hQ
    simp only [x_18_8, mw_nx, mw_no, mw_ite, mw_call, mw_ret, mw_cst, mw_ii, mw_i1, mw_ll, mw_l1, mw_li, mw_i2l, mw_l2i, mw_lcm, mw_if, mw_ic, mw_ifnN, mw_ifnR, mw_go, mw_dupi, mw_dupr, mw_popi, mw_popr, mw_nw, mw_rti, mw_rtl, mw_rtr, mw_rtn, mw_rtv, mw_rt0, mw_rt1, mj_ild, mj_lld, mj_ald, mj_ist, mj_lst, mj_ast, mj_inc, mj_iz, mj_get, mj_put, mj_len, mj_iar, mj_aar, mj_iaw, mj_aaw, mj_ivs, mj_ivv, mj_ivi, mj_ob, mj_tk, mj_cat, mj_st1, mj_st2, mj_clr, mj_nwi, mj_nwq, List.getElem?_cons_zero, List.getElem?_cons_succ, List.length_cons, List.length_nil, List.set_cons_zero, List.set_cons_succ, Value.category, decide_eq_true_eq, List.map_cons, List.map_nil, List.sum_cons, List.sum_nil, Option.toList, List.cons_append, List.nil_append, ite_true, ite_false, if_true, if_false, reduceCtorEq, true_and, and_true, narrow_i, narrow_l, narrow_r, narrow_n, fits_i, fits_l, fits_ro, fits_ra, fits_no, fits_na, Nat.reduceAdd, Nat.reduceLT, Nat.reduceLeDiff, Nat.reduceEqDiff, Nat.reduceSub, zero_add0, true_or, or_true, false_or, or_false, not_true_eq_false, not_false_eq_true, eq_self, i10, i01, im0, im1]
    exact hQ hp1 ⟨P, S, hw.rd s1 h1⟩ (s1.mono (by omega) (by omega))
  · rw [sp_if_f hno] at hQ
    simp only [x_18_8, mw_nx, mw_no, mw_ite, mw_call, mw_ret, mw_cst, mw_ii, mw_i1, mw_ll, mw_l1, mw_li, mw_i2l, mw_l2i, mw_lcm, mw_if, mw_ic, mw_ifnN, mw_ifnR, mw_go, mw_dupi, mw_dupr, mw_popi, mw_popr, mw_nw, mw_rti, mw_rtl, mw_rtr, mw_rtn, mw_rtv, mw_rt0, mw_rt1, mj_ild, mj_lld, mj_ald, mj_ist, mj_lst, mj_ast, mj_inc, mj_iz, mj_get, mj_put, mj_len, mj_iar, mj_aar, mj_iaw, mj_aaw, mj_ivs, mj_ivv, mj_ivi, mj_ob, mj_tk, mj_cat, mj_st1, mj_st2, mj_clr, mj_nwi, mj_nwq, List.getElem?_cons_zero, List.getElem?_cons_succ, List.length_cons, List.length_nil, List.set_cons_zero, List.set_cons_succ, Value.category, decide_eq_true_eq, List.map_cons, List.map_nil, List.sum_cons, List.sum_nil, Option.toList, List.cons_append, List.nil_append, ite_true, ite_false, if_true, if_false, reduceCtorEq, true_and, and_true, narrow_i, narrow_l, narrow_r, narrow_n, fits_i, fits_l, fits_ro, fits_ra, fits_no, fits_na, Nat.reduceAdd, Nat.reduceLT, Nat.reduceLeDiff, Nat.reduceEqDiff, Nat.reduceSub, zero_add0, true_or, or_true, false_or, or_false, not_true_eq_false, not_false_eq_true, eq_self, i10, i01, im0, im1]
    exact hQ hp ⟨P, S, hw⟩ sm.rf
theorem d_collect (t z : Int32) (h : cl_at hp o s) (hQ : ∀ hp' : mj_H, cl_at hp' o (so_collect t z s).1 → sm hp hp' o (o + 331) → Q (some (.int (so_collect t z s).2)) hp') : mj_call 6 [.ref o, .int t, .int z] hp Q := by
  obtain ⟨n, col, ls, xs⟩ := s
  obtain ⟨P, S, h⟩ := h
  have hw := h
  obtain ⟨hPS, hn, ho, ⟨kc, hkc, hcol⟩, hcb, ⟨p, hre⟩, -, -⟩ := h
  dsimp only at *
  unfold so_collect at hQ
  dsimp only at hQ
  have hcol' := hcol
  obtain ⟨f, t1, u1, b1, -⟩ := hcol'
  rw [en_6]
  by_cases w : so_th n t
  · have w' : (0 ≤ t ∧ t < nI n) = True := eq_true w
    obtain ⟨j, hj, hje, hjc⟩ := so_th_nat hn.2 w
    have hc : so_code t z < 2 * n := by unfold so_code; rw [hjc]; split <;> omega
    simp only [x_6_0, x_6_1, x_6_2, x_6_5, x_6_8, x_6_9, x_6_12, x_6_13, x_6_14, x_6_17, mw_nx, mw_no, mw_ite, mw_call, mw_ret, mw_cst, mw_ii, mw_i1, mw_ll, mw_l1, mw_li, mw_i2l, mw_l2i, mw_lcm, mw_if, mw_ic, mw_ifnN, mw_ifnR, mw_go, mw_dupi, mw_dupr, mw_popi, mw_popr, mw_nw, mw_rti, mw_rtl, mw_rtr, mw_rtn, mw_rtv, mw_rt0, mw_rt1, mj_ild, mj_lld, mj_ald, mj_ist, mj_lst, mj_ast, mj_inc, mj_iz, mj_get, mj_put, mj_len, mj_iar, mj_aar, mj_iaw, mj_aaw, mj_ivs, mj_ivv, mj_ivi, mj_ob, mj_tk, mj_cat, mj_st1, mj_st2, mj_clr, mj_nwi, mj_nwq, List.getElem?_cons_zero, List.getElem?_cons_succ, List.length_cons, List.length_nil, List.set_cons_zero, List.set_cons_succ, Value.category, decide_eq_true_eq, List.map_cons, List.map_nil, List.sum_cons, List.sum_nil, Option.toList, List.cons_append, List.nil_append, ite_true, ite_false, if_true, if_false, reduceCtorEq, true_and, and_true, narrow_i, narrow_l, narrow_r, narrow_n, fits_i, fits_l, fits_ro, fits_ra, fits_no, fits_na, Nat.reduceAdd, Nat.reduceLT, Nat.reduceLeDiff, Nat.reduceEqDiff, Nat.reduceSub, zero_add0, true_or, or_true, false_or, or_false, not_true_eq_false, not_false_eq_true, eq_self, i10, i01, im0, im1, ho, c_isThing o t (nI n) _ hp _ ho, w', b1, c_codeOf, so_code_e (show j < 2 ^ 31 by omega) hje]
    refine c_add hcol (show so_code t z < 128 by omega) (fun htk hp1 h1 s1 => ?_) (fun hno => ?_)
    · rw [sp_if_t ⟨w, htk.1⟩] at hQ
      simp only [x_6_20, x_6_23, x_6_24, x_6_27, x_6_28, mw_nx, mw_no, mw_ite, mw_call, mw_ret, mw_cst, mw_ii, mw_i1, mw_ll, mw_l1, mw_li, mw_i2l, mw_l2i, mw_lcm, mw_if, mw_ic, mw_ifnN, mw_ifnR, mw_go, mw_dupi, mw_dupr, mw_popi, mw_popr, mw_nw, mw_rti, mw_rtl, mw_rtr, mw_rtn, mw_rtv, mw_rt0, mw_rt1, mj_ild, mj_lld, mj_ald, mj_ist, mj_lst, mj_ast, mj_inc, mj_iz, mj_get, mj_put, mj_len, mj_iar, mj_aar, mj_iaw, mj_aaw, mj_ivs, mj_ivv, mj_ivi, mj_ob, mj_tk, mj_cat, mj_st1, mj_st2, mj_clr, mj_nwi, mj_nwq, List.getElem?_cons_zero, List.getElem?_cons_succ, List.length_cons, List.length_nil, List.set_cons_zero, List.set_cons_succ, Value.category, decide_eq_true_eq, List.map_cons, List.map_nil, List.sum_cons, List.sum_nil, Option.toList, List.cons_append, List.nil_append, ite_true, ite_false, if_true, if_false, reduceCtorEq, true_and, and_true, narrow_i, narrow_l, narrow_r, narrow_n, fits_i, fits_l, fits_ro, fits_ra, fits_no, fits_na, Nat.reduceAdd, Nat.reduceLT, Nat.reduceLeDiff, Nat.reduceEqDiff, Nat.reduceSub, zero_add0, true_or, or_true, false_or, or_false, not_true_eq_false, not_false_eq_true, eq_self, i10, i01, im0, im1]
      refine hQ hp1 ⟨P, S, hw.co s1 hkc h1 (fun c hc2 => ?_)⟩ (s1.mono (by omega) (by omega))
      rcases List.mem_append.mp hc2 with q | q
      · exact hcb c q
      · rw [List.mem_singleton] at q; rw [q]; exact hc
    · rw [sp_if_f (fun q => hno ⟨q.2, Or.inl (by dsimp only; omega)⟩)] at hQ
      simp only [x_6_20, x_6_23, x_6_24, x_6_27, x_6_28, mw_nx, mw_no, mw_ite, mw_call, mw_ret, mw_cst, mw_ii, mw_i1, mw_ll, mw_l1, mw_li, mw_i2l, mw_l2i, mw_lcm, mw_if, mw_ic, mw_ifnN, mw_ifnR, mw_go, mw_dupi, mw_dupr, mw_popi, mw_popr, mw_nw, mw_rti, mw_rtl, mw_rtr, mw_rtn, mw_rtv, mw_rt0, mw_rt1, mj_ild, mj_lld, mj_ald, mj_ist, mj_lst, mj_ast, mj_inc, mj_iz, mj_get, mj_put, mj_len, mj_iar, mj_aar, mj_iaw, mj_aaw, mj_ivs, mj_ivv, mj_ivi, mj_ob, mj_tk, mj_cat, mj_st1, mj_st2, mj_clr, mj_nwi, mj_nwq, List.getElem?_cons_zero, List.getElem?_cons_succ, List.length_cons, List.length_nil, List.set_cons_zero, List.set_cons_succ, Value.category, decide_eq_true_eq, List.map_cons, List.map_nil, List.sum_cons, List.sum_nil, Option.toList, List.cons_append, List.nil_append, ite_true, ite_false, if_true, if_false, reduceCtorEq, true_and, and_true, narrow_i, narrow_l, narrow_r, narrow_n, fits_i, fits_l, fits_ro, fits_ra, fits_no, fits_na, Nat.reduceAdd, Nat.reduceLT, Nat.reduceLeDiff, Nat.reduceEqDiff, Nat.reduceSub, zero_add0, true_or, or_true, false_or, or_false, not_true_eq_false, not_false_eq_true, eq_self, i10, i01, im0, im1]
      exact hQ hp ⟨P, S, hw⟩ sm.rf
  · have w' : (0 ≤ t ∧ t < nI n) = False := eq_false w
    rw [sp_if_f (fun q => w q.1)] at hQ
    simp only [x_6_0, x_6_1, x_6_2, x_6_5, x_6_8, x_6_9, x_6_12, x_6_13, x_6_14, x_6_17, x_6_20, x_6_23, x_6_24, x_6_27, x_6_28, mw_nx, mw_no, mw_ite, mw_call, mw_ret, mw_cst, mw_ii, mw_i1, mw_ll, mw_l1, mw_li, mw_i2l, mw_l2i, mw_lcm, mw_if, mw_ic, mw_ifnN, mw_ifnR, mw_go, mw_dupi, mw_dupr, mw_popi, mw_popr, mw_nw, mw_rti, mw_rtl, mw_rtr, mw_rtn, mw_rtv, mw_rt0, mw_rt1, mj_ild, mj_lld, mj_ald, mj_ist, mj_lst, mj_ast, mj_inc, mj_iz, mj_get, mj_put, mj_len, mj_iar, mj_aar, mj_iaw, mj_aaw, mj_ivs, mj_ivv, mj_ivi, mj_ob, mj_tk, mj_cat, mj_st1, mj_st2, mj_clr, mj_nwi, mj_nwq, List.getElem?_cons_zero, List.getElem?_cons_succ, List.length_cons, List.length_nil, List.set_cons_zero, List.set_cons_succ, Value.category, decide_eq_true_eq, List.map_cons, List.map_nil, List.sum_cons, List.sum_nil, Option.toList, List.cons_append, List.nil_append, ite_true, ite_false, if_true, if_false, reduceCtorEq, true_and, and_true, narrow_i, narrow_l, narrow_r, narrow_n, fits_i, fits_l, fits_ro, fits_ra, fits_no, fits_na, Nat.reduceAdd, Nat.reduceLT, Nat.reduceLeDiff, Nat.reduceEqDiff, Nat.reduceSub, zero_add0, true_or, or_true, false_or, or_false, not_true_eq_false, not_false_eq_true, eq_self, i10, i01, im0, im1, ho, c_isThing o t (nI n) _ hp _ ho, w']
    exact hQ hp ⟨P, S, hw⟩ sm.rf
end CL
