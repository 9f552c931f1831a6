/-! A Proof: dropLiterals -/
theorem ln_w_del {p r : List Nat} {c : Nat} {t u : Int64} (hw : ln_w (p ++ c :: r) t u) (hok : ln_ok (p ++ c :: r)) : ln_w (p ++ r) (t &&& (tb c ^^^ (-1))) (u &&& (fb c ^^^ (-1))) := by
  obtain ⟨hok2, hcm, hc⟩ := ln_nodup hok
  refine ⟨fun j => ?_, fun j => ?_⟩
  · by_cases hj : j < 64
    · rw [lb_and, lb_not _ hj, lb_tb hc, hw.1]
      by_cases e : c = 2 * j + 1
      · rw [← e]; simp at hcm; simp [hcm]
      · have e' : ¬ 2 * j + 1 = c := fun q => e q.symm
        simp [e, e']
    · rw [lb_and, lb_big (by omega), Bool.false_and, eq_comm, decide_eq_false_iff_not]
      intro q; have := hok2.2 _ q; omega
  · by_cases hj : j < 64
    · rw [lb_and, lb_not _ hj, lb_fb hc, hw.2]
      by_cases e : c = 2 * j
      · rw [← e]; simp at hcm; simp [hcm]
      · have e' : ¬ 2 * j = c := fun q => e q.symm
        simp [e, e']
    · rw [lb_and, lb_big (by omega), Bool.false_and, eq_comm, decide_eq_false_iff_not]
      intro q; have := hok2.2 _ q; omega
theorem sp_right_der {n s : Nat} {ah : List sp_Ln} {cs : List Nat} (hs : s = 1 ∨ s = 2) : sp_right n ah (s, cs) ↔ un_clash (sp_cls ah) (fun x => un_neg x ∈ cs) := by
  constructor
  · rintro (q | ⟨-, q⟩ | ⟨q, -⟩)
    · dsimp only at q; omega
    · exact q
    · dsimp only at q; omega
  · exact fun q => Or.inr (Or.inl ⟨hs, q⟩)
theorem sp_lits_not {n s : Nat} {ah : List sp_Ln} : ∀ (rest kept : List Nat), ¬ sp_right n ah (s, kept ++ rest) → sp_lits n ah s kept rest = kept ++ rest := by
  intro rest
  induction rest with
  | nil => intro kept _; rw [sp_lits, List.append_nil]
  | cons c r ih =>
    intro kept h
    rw [sp_lits, sp_if_f (fun q => h q.1), ih (kept ++ [c]) (by rw [List.append_assoc]; exact h), List.append_assoc]
    rfl
theorem sp_lits_sub {n s : Nat} {ah : List sp_Ln} : ∀ (rest kept : List Nat) (c : Nat), c ∈ sp_lits n ah s kept rest → c ∈ kept ++ rest := by
  intro rest
  induction rest with
  | nil => intro kept c h; rw [sp_lits] at h; simpa using h
  | cons d r ih =>
    intro kept c h
    rw [sp_lits] at h
    by_cases hp : sp_right n ah (s, kept ++ d :: r) ∧ sp_right n ah (s, kept ++ r)
    · rw [sp_if_t hp] at h
      have := ih kept c h
      rcases List.mem_append.mp this with q | q
      · exact List.mem_append.mpr (Or.inl q)
      · exact List.mem_append.mpr (Or.inr (List.mem_cons_of_mem _ q))
    · rw [sp_if_f hp] at h
      have := ih (kept ++ [d]) c h
      rw [List.append_assoc] at this
      exact this
theorem cls_up {C : Nat → Nat × List Nat} {i : Nat} {l : Nat × List Nat} {w : Int32} : pf_cls (va_up C i l) i w = pf_cls C i w := by
  unfold pf_cls
  have h1 : (List.range i).filter (fun j => !(decide (nI j = w)) && !(decide ((va_up C i l j).1 = 3))) = (List.range i).filter (fun j => !(decide (nI j = w)) && !(decide ((C j).1 = 3))) := by
    apply List.filter_congr
    intro j hj
    rw [va_up_ne _ _ (by have := List.mem_range.mp hj; omega)]
  rw [h1]
  apply List.map_congr_left
  intro j hj
  rw [va_up_ne _ _ (by have := List.mem_range.mp (List.mem_filter.mp hj).1; omega)]
theorem map_up {C : Nat → Nat × List Nat} {i : Nat} {l : Nat × List Nat} : (List.range i).map (va_up C i l) = (List.range i).map C := by
  apply List.map_congr_left
  intro j hj
  rw [va_up_ne _ _ (by have := List.mem_range.mp hj; omega)]
section DT
variable {hp : mj_H} {Q : mj_Q} {P n k : Nat} {ρ : Nat → Option Nat} {g : Nat → Int32} {π : Nat → Nat} {C : Nat → Nat × List Nat}
theorem c_dropLitsOf (hr : pf_r hp P n k ρ g) (hk : k ≤ 80) (hpk : pf_k hp P ρ π C) {i s : Nat} {cs : List Nat} (hi : i < k) (hc : C i = (s, cs)) (hs : s = 1 ∨ s = 2) (hR : sp_right n ((List.range i).map C) (s, cs)) (hQ : ∀ hp' : mj_H, pf_r hp' P n k ρ g → pf_k hp' P ρ π (va_up C i (s, sp_lits n ((List.range i).map C) s [] cs)) → sm hp hp' P (P + 163) → Q none hp') : mj_call 63 [.ref P, .ref (P + 3 + 2 * π i), .int (nI i)] hp Q := by
  generalize hah : (List.range i).map C = ah at hR hQ
  have hcl : ∀ X, X ∈ pf_cls C i (-1) ↔ X ∈ sp_cls ah := by
    intro X
    rw [pf_cls_ah, sp_cls_mem, sp_cls_mem, ← hah]
    constructor
    · rintro ⟨l, h1, h2⟩; exact ⟨l, (ah_m1 (by omega) l).mp h1, h2⟩
    · rintro ⟨l, h1, h2⟩; exact ⟨l, (ah_m1 (by omega) l).mpr h1, h2⟩
  have key : ∀ (rest kept : List Nat) (hp1 : mj_H) (o5 o6 o7 o8 o9 : Option Value), pf_r hp1 P n k ρ g → pf_k hp1 P ρ π (va_up C i (s, kept ++ rest)) → sm hp hp1 P (P + 163) → sp_right n ah (s, kept ++ rest) → sp_lits n ah s kept rest = sp_lits n ah s [] cs → mj_wp 63 8 [some (.ref P), some (.ref (P + 3 + 2 * π i)), some (.int (nI i)), some (.int (nI kept.length)), some (.int (nI rest.length)), o5, o6, o7, o8, o9] [] hp1 Q := by
    intro rest
    induction rest with
    | nil =>
      intro kept hp1 o5 o6 o7 o8 o9 a1 a2 a3 a4 a5
      rw [x_63_8]
      have e1 : nI ([] : List Nat).length ≤ 0 := by decide
      simp only [x_63_10, x_63_13, x_63_14, x_63_15, x_63_18, x_63_20, x_63_21, x_63_24, x_63_26, x_63_29, x_63_32, x_63_33, x_63_34, x_63_36, x_63_37, x_63_40, x_63_42, x_63_45, x_63_48, x_63_49, x_63_50, x_63_52, x_63_53, x_63_55, x_63_57, x_63_58, x_63_59, x_63_62, x_63_65, x_63_66, x_63_67, x_63_70, x_63_73, x_63_76, x_63_79, x_63_82, mw_nx, mw_no, mw_ite, mw_call, mw_ret, mw_cst, mw_ii, mw_i1, mw_ll, mw_l1, mw_li, mw_i2l, mw_l2i, mw_lcm, mw_if, mw_ic, mw_ifnN, mw_ifnR, mw_go, mw_dupi, mw_dupr, mw_popi, mw_popr, mw_nw, mw_rti, mw_rtl, mw_rtr, mw_rtn, mw_rtv, mw_rt0, mw_rt1, mj_ild, mj_lld, mj_ald, mj_ist, mj_lst, mj_ast, mj_inc, mj_iz, mj_get, mj_put, mj_len, mj_iar, mj_aar, mj_iaw, mj_aaw, mj_ivs, mj_ivv, mj_ivi, mj_ob, mj_tk, mj_cat, mj_st1, mj_st2, mj_clr, mj_nwi, mj_nwq, List.getElem?_cons_zero, List.getElem?_cons_succ, List.length_cons, List.length_nil, List.set_cons_zero, List.set_cons_succ, Value.category, decide_eq_true_eq, List.map_cons, List.map_nil, List.sum_cons, List.sum_nil, Option.toList, List.cons_append, List.nil_append, ite_true, ite_false, if_true, if_false, reduceCtorEq, true_and, and_true, narrow_i, narrow_l, narrow_r, narrow_n, fits_i, fits_l, fits_ro, fits_ra, fits_no, fits_na, Nat.reduceAdd, Nat.reduceLT, Nat.reduceLeDiff, Nat.reduceEqDiff, Nat.reduceSub, zero_add0, true_or, or_true, false_or, or_false, not_true_eq_false, not_false_eq_true, eq_self, i10, i01, im0, im1, e1]
      rw [sp_lits] at a5
      rw [List.append_nil, a5] at a2
      exact hQ hp1 a1 a2 a3
    | cons c r ih =>
      intro kept hp1 o5 o6 o7 o8 o9 a1 a2 a3 a4 a5
      obtain ⟨p1, p2, p3⟩ := a2.1 i (by omega)
      rw [va_up_self] at p3
      have p4 := p3
      obtain ⟨f, t, u, b1, b2, hv, hok, hs3⟩ := p4
      dsimp only at b1 hv hok hs3
      have hlen := ln_len hok
      have hl1 : kept.length < (kept ++ c :: r).length := by simp
      have hget : (kept ++ c :: r).getD kept.length 0 = c := by simp [List.getD_eq_getElem?_getD]
      obtain ⟨hok2, hcm, hc128⟩ := ln_nodup hok
      rw [List.length_append, List.length_cons] at hlen
      have e1 : ¬ nI (r.length + 1) ≤ 0 := nI_nle (by omega) (by omega)
      have e2 : nI (r.length + 1) + -1 = nI r.length := pk_m1 _
      rw [x_63_8]
      simp only [x_63_10, x_63_13, x_63_14, x_63_15, x_63_18, x_63_20, x_63_21, x_63_24, x_63_26, x_63_29, x_63_32, x_63_33, x_63_34, x_63_36, x_63_37, x_63_40, x_63_42, x_63_45, x_63_48, x_63_49, x_63_50, x_63_52, x_63_53, x_63_55, x_63_57, x_63_58, x_63_59, mw_nx, mw_no, mw_ite, mw_call, mw_ret, mw_cst, mw_ii, mw_i1, mw_ll, mw_l1, mw_li, mw_i2l, mw_l2i, mw_lcm, mw_if, mw_ic, mw_ifnN, mw_ifnR, mw_go, mw_dupi, mw_dupr, mw_popi, mw_popr, mw_nw, mw_rti, mw_rtl, mw_rtr, mw_rtn, mw_rtv, mw_rt0, mw_rt1, mj_ild, mj_lld, mj_ald, mj_ist, mj_lst, mj_ast, mj_inc, mj_iz, mj_get, mj_put, mj_len, mj_iar, mj_aar, mj_iaw, mj_aaw, mj_ivs, mj_ivv, mj_ivi, mj_ob, mj_tk, mj_cat, mj_st1, mj_st2, mj_clr, mj_nwi, mj_nwq, List.getElem?_cons_zero, List.getElem?_cons_succ, List.length_cons, List.length_nil, List.set_cons_zero, List.set_cons_succ, Value.category, decide_eq_true_eq, List.map_cons, List.map_nil, List.sum_cons, List.sum_nil, Option.toList, List.cons_append, List.nil_append, ite_true, ite_false, if_true, if_false, reduceCtorEq, true_and, and_true, narrow_i, narrow_l, narrow_r, narrow_n, fits_i, fits_l, fits_ro, fits_ra, fits_no, fits_na, Nat.reduceAdd, Nat.reduceLT, Nat.reduceLeDiff, Nat.reduceEqDiff, Nat.reduceSub, zero_add0, true_or, or_true, false_or, or_false, not_true_eq_false, not_false_eq_true, eq_self, i10, i01, im0, im1, e1, a1.1, b1, c_codeAtN p3 hl1, hget, c_trues b1, c_falses b1, c_tb (show c < 2 ^ 31 by omega), c_fb (show c < 2 ^ 31 by omega)]
      have hclu : ∀ X, X ∈ pf_cls (va_up C i (s, kept ++ c :: r)) i (-1) ↔ X ∈ sp_cls ah := by intro X; rw [cls_up]; exact hcl X
      rw [sp_lits] at a5
      refine c_clashes a1 a2.l (by omega) (ln_w_del ⟨hv.2.1, hv.2.2⟩ hok) (fun hx => ?_) (fun hx => ?_)
      · have hR2 : sp_right n ah (s, kept ++ r) := (sp_right_der hs).mpr ((un_ext hclu (fun _ => Iff.rfl)).mp hx)
        rw [sp_if_t ⟨a4, hR2⟩] at a5
        simp only [x_63_62, x_63_65, x_63_66, x_63_67, mw_nx, mw_no, mw_ite, mw_call, mw_ret, mw_cst, mw_ii, mw_i1, mw_ll, mw_l1, mw_li, mw_i2l, mw_l2i, mw_lcm, mw_if, mw_ic, mw_ifnN, mw_ifnR, mw_go, mw_dupi, mw_dupr, mw_popi, mw_popr, mw_nw, mw_rti, mw_rtl, mw_rtr, mw_rtn, mw_rtv, mw_rt0, mw_rt1, mj_ild, mj_lld, mj_ald, mj_ist, mj_lst, mj_ast, mj_inc, mj_iz, mj_get, mj_put, mj_len, mj_iar, mj_aar, mj_iaw, mj_aaw, mj_ivs, mj_ivv, mj_ivi, mj_ob, mj_tk, mj_cat, mj_st1, mj_st2, mj_clr, mj_nwi, mj_nwq, List.getElem?_cons_zero, List.getElem?_cons_succ, List.length_cons, List.length_nil, List.set_cons_zero, List.set_cons_succ, Value.category, decide_eq_true_eq, List.map_cons, List.map_nil, List.sum_cons, List.sum_nil, Option.toList, List.cons_append, List.nil_append, ite_true, ite_false, if_true, if_false, reduceCtorEq, true_and, and_true, narrow_i, narrow_l, narrow_r, narrow_n, fits_i, fits_l, fits_ro, fits_ra, fits_no, fits_na, Nat.reduceAdd, Nat.reduceLT, Nat.reduceLeDiff, Nat.reduceEqDiff, Nat.reduceSub, zero_add0, true_or, or_true, false_or, or_false, not_true_eq_false, not_false_eq_true, eq_self, i10, i01, im0, im1, b1]
        refine c_drop (s := s) p3 (fun hp2 h2 s2 => ?_)
        simp only [x_63_70, x_63_73, x_63_76, x_63_79, mw_nx, mw_no, mw_ite, mw_call, mw_ret, mw_cst, mw_ii, mw_i1, mw_ll, mw_l1, mw_li, mw_i2l, mw_l2i, mw_lcm, mw_if, mw_ic, mw_ifnN, mw_ifnR, mw_go, mw_dupi, mw_dupr, mw_popi, mw_popr, mw_nw, mw_rti, mw_rtl, mw_rtr, mw_rtn, mw_rtv, mw_rt0, mw_rt1, mj_ild, mj_lld, mj_ald, mj_ist, mj_lst, mj_ast, mj_inc, mj_iz, mj_get, mj_put, mj_len, mj_iar, mj_aar, mj_iaw, mj_aaw, mj_ivs, mj_ivv, mj_ivi, mj_ob, mj_tk, mj_cat, mj_st1, mj_st2, mj_clr, mj_nwi, mj_nwq, List.getElem?_cons_zero, List.getElem?_cons_succ, List.length_cons, List.length_nil, List.set_cons_zero, List.set_cons_succ, Value.category, decide_eq_true_eq, List.map_cons, List.map_nil, List.sum_cons, List.sum_nil, Option.toList, List.cons_append, List.nil_append, ite_true, ite_false, if_true, if_false, reduceCtorEq, true_and, and_true, narrow_i, narrow_l, narrow_r, narrow_n, fits_i, fits_l, fits_ro, fits_ra, fits_no, fits_na, Nat.reduceAdd, Nat.reduceLT, Nat.reduceLeDiff, Nat.reduceEqDiff, Nat.reduceSub, zero_add0, true_or, or_true, false_or, or_false, not_true_eq_false, not_false_eq_true, eq_self, i10, i01, im0, im1, e2]
        obtain ⟨r2, k2⟩ := pf_set a1 a2 (show i < 80 by omega) h2 s2
        have e3 : va_up (va_up C i (s, kept ++ c :: r)) i (s, kept ++ r) = va_up C i (s, kept ++ r) := by
          funext j
          by_cases hj : j = i
          · subst hj; rw [va_up_self, va_up_self]
          · rw [va_up_ne _ _ hj, va_up_ne _ _ hj, va_up_ne _ _ hj]
        rw [e3] at k2
        exact ih kept hp2 _ _ _ _ _ r2 k2 (a3.tr (s2.mono (by omega) (by omega))) hR2 a5
      · have hR2 : ¬ sp_right n ah (s, kept ++ r) := fun q => hx ((un_ext hclu (fun _ => Iff.rfl)).mpr ((sp_right_der hs).mp q))
        rw [sp_if_f (fun q => hR2 q.2)] at a5
        simp only [x_63_62, x_63_65, x_63_66, x_63_67, x_63_70, x_63_73, x_63_76, x_63_79, mw_nx, mw_no, mw_ite, mw_call, mw_ret, mw_cst, mw_ii, mw_i1, mw_ll, mw_l1, mw_li, mw_i2l, mw_l2i, mw_lcm, mw_if, mw_ic, mw_ifnN, mw_ifnR, mw_go, mw_dupi, mw_dupr, mw_popi, mw_popr, mw_nw, mw_rti, mw_rtl, mw_rtr, mw_rtn, mw_rtv, mw_rt0, mw_rt1, mj_ild, mj_lld, mj_ald, mj_ist, mj_lst, mj_ast, mj_inc, mj_iz, mj_get, mj_put, mj_len, mj_iar, mj_aar, mj_iaw, mj_aaw, mj_ivs, mj_ivv, mj_ivi, mj_ob, mj_tk, mj_cat, mj_st1, mj_st2, mj_clr, mj_nwi, mj_nwq, List.getElem?_cons_zero, List.getElem?_cons_succ, List.length_cons, List.length_nil, List.set_cons_zero, List.set_cons_succ, Value.category, decide_eq_true_eq, List.map_cons, List.map_nil, List.sum_cons, List.sum_nil, Option.toList, List.cons_append, List.nil_append, ite_true, ite_false, if_true, if_false, reduceCtorEq, true_and, and_true, narrow_i, narrow_l, narrow_r, narrow_n, fits_i, fits_l, fits_ro, fits_ra, fits_no, fits_na, Nat.reduceAdd, Nat.reduceLT, Nat.reduceLeDiff, Nat.reduceEqDiff, Nat.reduceSub, zero_add0, true_or, or_true, false_or, or_false, not_true_eq_false, not_false_eq_true, eq_self, i10, i01, im0, im1, e2, nI_1]
        have := ih (kept ++ [c]) hp1 (some (.int (nI c))) (some (.long (t &&& (tb c ^^^ (-1))))) none (some (.long (u &&& (fb c ^^^ (-1))))) none a1 (by rw [List.append_assoc]; exact a2) a3 (by rw [List.append_assoc]; exact a4) a5
        rw [List.length_append] at this
        exact this
  obtain ⟨p1, p2, p3⟩ := hpk.1 i (by omega)
  have p4 := p3
  rw [hc] at p4
  obtain ⟨f, t, u, b1, -⟩ := p4
  rw [en_63]
  simp only [x_63_0, x_63_1, x_63_2, x_63_3, x_63_6, mw_nx, mw_no, mw_ite, mw_call, mw_ret, mw_cst, mw_ii, mw_i1, mw_ll, mw_l1, mw_li, mw_i2l, mw_l2i, mw_lcm, mw_if, mw_ic, mw_ifnN, mw_ifnR, mw_go, mw_dupi, mw_dupr, mw_popi, mw_popr, mw_nw, mw_rti, mw_rtl, mw_rtr, mw_rtn, mw_rtv, mw_rt0, mw_rt1, mj_ild, mj_lld, mj_ald, mj_ist, mj_lst, mj_ast, mj_inc, mj_iz, mj_get, mj_put, mj_len, mj_iar, mj_aar, mj_iaw, mj_aaw, mj_ivs, mj_ivv, mj_ivi, mj_ob, mj_tk, mj_cat, mj_st1, mj_st2, mj_clr, mj_nwi, mj_nwq, List.getElem?_cons_zero, List.getElem?_cons_succ, List.length_cons, List.length_nil, List.set_cons_zero, List.set_cons_succ, Value.category, decide_eq_true_eq, List.map_cons, List.map_nil, List.sum_cons, List.sum_nil, Option.toList, List.cons_append, List.nil_append, ite_true, ite_false, if_true, if_false, reduceCtorEq, true_and, and_true, narrow_i, narrow_l, narrow_r, narrow_n, fits_i, fits_l, fits_ro, fits_ra, fits_no, fits_na, Nat.reduceAdd, Nat.reduceLT, Nat.reduceLeDiff, Nat.reduceEqDiff, Nat.reduceSub, zero_add0, true_or, or_true, false_or, or_false, not_true_eq_false, not_false_eq_true, eq_self, i10, i01, im0, im1, b1, c_size b1]
  have e4 : va_up C i (s, cs) = C := by
    funext j
    by_cases hj : j = i
    · subst hj; rw [va_up_self, hc]
    · rw [va_up_ne _ _ hj]
  exact key cs [] hp none none none none none hr (by rw [List.nil_append, e4]; exact hpk) sm.rf hR rfl
theorem c_dropLits (hr : pf_r hp P n k ρ g) (hk : k ≤ 80) (hpk : pf_k hp P ρ π C) (hn : n ≤ 64) (hlv : ∀ j, j < k → lv n (C j)) (hQ : ∀ (hp' : mj_H) (C' : Nat → Nat × List Nat), pf_r hp' P n k ρ g → pf_k hp' P ρ π C' → (∀ j, j < k → lv n (C' j)) → (List.range k).map C' = sp_ph2 n [] ((List.range k).map C) → sm hp hp' P (P + 163) → Q none hp') : mj_call 55 [.ref P] hp Q := by
  have key : ∀ (d i : Nat) (C1 : Nat → Nat × List Nat) (hp1 : mj_H), i + d = k → pf_r hp1 P n k ρ g → pf_k hp1 P ρ π C1 → (∀ j, j < k → lv n (C1 j)) → sm hp hp1 P (P + 163) → sp_ph2 n ((List.range i).map C1) ((List.range' i d).map C1) = sp_ph2 n [] ((List.range k).map C) → mj_wp 55 2 [some (.ref P), some (.int (nI i))] [] hp1 Q := by
    intro d
    induction d with
    | zero =>
      intro i C1 hp1 hi a1 a2 a3 a4 a5
      obtain rfl : i = k := by omega
      have e1 : nI i ≤ nI i := nI_le (Nat.le_refl _) (by omega)
      rw [x_55_2]
      simp only [x_55_3, x_55_4, x_55_7, x_55_48, mw_nx, mw_no, mw_ite, mw_call, mw_ret, mw_cst, mw_ii, mw_i1, mw_ll, mw_l1, mw_li, mw_i2l, mw_l2i, mw_lcm, mw_if, mw_ic, mw_ifnN, mw_ifnR, mw_go, mw_dupi, mw_dupr, mw_popi, mw_popr, mw_nw, mw_rti, mw_rtl, mw_rtr, mw_rtn, mw_rtv, mw_rt0, mw_rt1, mj_ild, mj_lld, mj_ald, mj_ist, mj_lst, mj_ast, mj_inc, mj_iz, mj_get, mj_put, mj_len, mj_iar, mj_aar, mj_iaw, mj_aaw, mj_ivs, mj_ivv, mj_ivi, mj_ob, mj_tk, mj_cat, mj_st1, mj_st2, mj_clr, mj_nwi, mj_nwq, List.getElem?_cons_zero, List.getElem?_cons_succ, List.length_cons, List.length_nil, List.set_cons_zero, List.set_cons_succ, Value.category, decide_eq_true_eq, List.map_cons, List.map_nil, List.sum_cons, List.sum_nil, Option.toList, List.cons_append, List.nil_append, ite_true, ite_false, if_true, if_false, reduceCtorEq, true_and, and_true, narrow_i, narrow_l, narrow_r, narrow_n, fits_i, fits_l, fits_ro, fits_ra, fits_no, fits_na, Nat.reduceAdd, Nat.reduceLT, Nat.reduceLeDiff, Nat.reduceEqDiff, Nat.reduceSub, zero_add0, true_or, or_true, false_or, or_false, not_true_eq_false, not_false_eq_true, eq_self, i10, i01, im0, im1, a1.1, e1]
      refine hQ hp1 C1 a1 a2 a3 ?_ a4
      rw [← a5]
      simp [List.range', sp_ph2]
    | succ d ih =>
      intro i C1 hp1 hi a1 a2 a3 a4 a5
      obtain ⟨p1, p2, p3⟩ := a2.1 i (by omega)
      have p4 := p3
      obtain ⟨f, t, u, b1, b2, hv, hok, hs3⟩ := p4
      have e1 : ¬ nI k ≤ nI i := nI_ge (by omega) (by omega)
      have z0 : ¬ nI i < 0 := nI_pos (by omega)
      have z1 : (nI i).toNatClampNeg = i := nI_clamp (by omega)
      have z2 : ¬ 80 ≤ i := by omega
      rw [List.range'_succ, List.map_cons, sp_ph2] at a5
      have go : ∀ (C2 : Nat → Nat × List Nat) (hp2 : mj_H), (∀ j, j ≠ i → C2 j = C1 j) → C2 i = (if (C1 i).1 = 1 ∨ (C1 i).1 = 2 then ((C1 i).1, sp_lits n ((List.range i).map C1) (C1 i).1 [] (C1 i).2) else C1 i) → pf_r hp2 P n k ρ g → pf_k hp2 P ρ π C2 → lv n (C2 i) → sm hp hp2 P (P + 163) → mj_wp 55 2 [some (.ref P), some (.int (nI (i + 1)))] [] hp2 Q := by
        intro C2 hp2 h1 h2 h3 h4 h5 h6
        refine ih (i + 1) C2 hp2 (by omega) h3 h4 (fun j hj => ?_) h6 ?_
        · by_cases hji : j = i
          · rw [hji]; exact h5
          · rw [h1 j hji]; exact a3 j hj
        · rw [← a5, ← h2, List.range_succ, List.map_append]
          have m1 : (List.range i).map C2 = (List.range i).map C1 := List.map_congr_left (fun j hj => h1 j (by have := List.mem_range.mp hj; omega))
          have m2 : (List.range' (i + 1) d).map C2 = (List.range' (i + 1) d).map C1 := List.map_congr_left (fun j hj => h1 j (by have := (List.mem_range'_1.mp hj).1; omega))
          rw [m1, m2]
          rfl
      rw [x_55_2]
      by_cases hd : (C1 i).1 = 1 ∨ (C1 i).1 = 2
      · have q0 := eq_true hd
        simp only [x_55_3, x_55_4, x_55_7, x_55_10, x_55_11, x_55_14, x_55_15, x_55_16, x_55_19, x_55_22, x_55_23, x_55_24, x_55_25, mw_nx, mw_no, mw_ite, mw_call, mw_ret, mw_cst, mw_ii, mw_i1, mw_ll, mw_l1, mw_li, mw_i2l, mw_l2i, mw_lcm, mw_if, mw_ic, mw_ifnN, mw_ifnR, mw_go, mw_dupi, mw_dupr, mw_popi, mw_popr, mw_nw, mw_rti, mw_rtl, mw_rtr, mw_rtn, mw_rtv, mw_rt0, mw_rt1, mj_ild, mj_lld, mj_ald, mj_ist, mj_lst, mj_ast, mj_inc, mj_iz, mj_get, mj_put, mj_len, mj_iar, mj_aar, mj_iaw, mj_aaw, mj_ivs, mj_ivv, mj_ivi, mj_ob, mj_tk, mj_cat, mj_st1, mj_st2, mj_clr, mj_nwi, mj_nwq, List.getElem?_cons_zero, List.getElem?_cons_succ, List.length_cons, List.length_nil, List.set_cons_zero, List.set_cons_succ, Value.category, decide_eq_true_eq, List.map_cons, List.map_nil, List.sum_cons, List.sum_nil, Option.toList, List.cons_append, List.nil_append, ite_true, ite_false, if_true, if_false, reduceCtorEq, true_and, and_true, narrow_i, narrow_l, narrow_r, narrow_n, fits_i, fits_l, fits_ro, fits_ra, fits_no, fits_na, Nat.reduceAdd, Nat.reduceLT, Nat.reduceLeDiff, Nat.reduceEqDiff, Nat.reduceSub, zero_add0, true_or, or_true, false_or, or_false, not_true_eq_false, not_false_eq_true, eq_self, i10, i01, im0, im1, a1.1, a1.2.1, e1, at_2, z0, z1, z2, p2, rf_some, b1, c_isDerived b1 hs3, q0]
        refine c_isRight a1 hk a2 (show i < k by omega) hn (a3 i (by omega)) (fun v hv hvw => absurd hvw (fun q => nI_pos (n := v) (by omega) (by rw [q]; decide))) (fun hR => ?_) (fun hR => ?_)
        · have hR2 := (sp_right_ext (ah_m1 (by omega)) _).mp hR
          simp only [x_55_28, x_55_31, x_55_32, x_55_33, x_55_36, x_55_37, x_55_38, x_55_39, mw_nx, mw_no, mw_ite, mw_call, mw_ret, mw_cst, mw_ii, mw_i1, mw_ll, mw_l1, mw_li, mw_i2l, mw_l2i, mw_lcm, mw_if, mw_ic, mw_ifnN, mw_ifnR, mw_go, mw_dupi, mw_dupr, mw_popi, mw_popr, mw_nw, mw_rti, mw_rtl, mw_rtr, mw_rtn, mw_rtv, mw_rt0, mw_rt1, mj_ild, mj_lld, mj_ald, mj_ist, mj_lst, mj_ast, mj_inc, mj_iz, mj_get, mj_put, mj_len, mj_iar, mj_aar, mj_iaw, mj_aaw, mj_ivs, mj_ivv, mj_ivi, mj_ob, mj_tk, mj_cat, mj_st1, mj_st2, mj_clr, mj_nwi, mj_nwq, List.getElem?_cons_zero, List.getElem?_cons_succ, List.length_cons, List.length_nil, List.set_cons_zero, List.set_cons_succ, Value.category, decide_eq_true_eq, List.map_cons, List.map_nil, List.sum_cons, List.sum_nil, Option.toList, List.cons_append, List.nil_append, ite_true, ite_false, if_true, if_false, reduceCtorEq, true_and, and_true, narrow_i, narrow_l, narrow_r, narrow_n, fits_i, fits_l, fits_ro, fits_ra, fits_no, fits_na, Nat.reduceAdd, Nat.reduceLT, Nat.reduceLeDiff, Nat.reduceEqDiff, Nat.reduceSub, zero_add0, true_or, or_true, false_or, or_false, not_true_eq_false, not_false_eq_true, eq_self, i10, i01, im0, im1, a1.1, a1.2.1, at_2, z0, z1, z2, p2, rf_some]
          refine c_dropLitsOf a1 hk a2 (show i < k by omega) (s := (C1 i).1) (cs := (C1 i).2) rfl hd hR2 (fun hp2 r2 k2 s2 => ?_)
          simp only [x_55_42, x_55_45, mw_nx, mw_no, mw_ite, mw_call, mw_ret, mw_cst, mw_ii, mw_i1, mw_ll, mw_l1, mw_li, mw_i2l, mw_l2i, mw_lcm, mw_if, mw_ic, mw_ifnN, mw_ifnR, mw_go, mw_dupi, mw_dupr, mw_popi, mw_popr, mw_nw, mw_rti, mw_rtl, mw_rtr, mw_rtn, mw_rtv, mw_rt0, mw_rt1, mj_ild, mj_lld, mj_ald, mj_ist, mj_lst, mj_ast, mj_inc, mj_iz, mj_get, mj_put, mj_len, mj_iar, mj_aar, mj_iaw, mj_aaw, mj_ivs, mj_ivv, mj_ivi, mj_ob, mj_tk, mj_cat, mj_st1, mj_st2, mj_clr, mj_nwi, mj_nwq, List.getElem?_cons_zero, List.getElem?_cons_succ, List.length_cons, List.length_nil, List.set_cons_zero, List.set_cons_succ, Value.category, decide_eq_true_eq, List.map_cons, List.map_nil, List.sum_cons, List.sum_nil, Option.toList, List.cons_append, List.nil_append, ite_true, ite_false, if_true, if_false, reduceCtorEq, true_and, and_true, narrow_i, narrow_l, narrow_r, narrow_n, fits_i, fits_l, fits_ro, fits_ra, fits_no, fits_na, Nat.reduceAdd, Nat.reduceLT, Nat.reduceLeDiff, Nat.reduceEqDiff, Nat.reduceSub, zero_add0, true_or, or_true, false_or, or_false, not_true_eq_false, not_false_eq_true, eq_self, i10, i01, im0, im1, nI_1]
          refine go _ hp2 (fun j hj => va_up_ne _ _ hj) (by rw [va_up_self, if_pos hd]) r2 k2 ?_ (a4.tr s2)
          rw [va_up_self]
          refine ⟨fun c hc => (a3 i (by omega)).1 c ?_, fun q => ?_⟩
          · have := sp_lits_sub _ _ _ hc
            simpa using this
          · dsimp only at q; omega
        · have hR2 : ¬ sp_right n ((List.range i).map C1) (C1 i) := fun q => hR ((sp_right_ext (ah_m1 (by omega)) _).mpr q)
          simp only [x_55_28, x_55_31, x_55_32, x_55_33, x_55_36, x_55_37, x_55_38, x_55_39, x_55_42, x_55_45, mw_nx, mw_no, mw_ite, mw_call, mw_ret, mw_cst, mw_ii, mw_i1, mw_ll, mw_l1, mw_li, mw_i2l, mw_l2i, mw_lcm, mw_if, mw_ic, mw_ifnN, mw_ifnR, mw_go, mw_dupi, mw_dupr, mw_popi, mw_popr, mw_nw, mw_rti, mw_rtl, mw_rtr, mw_rtn, mw_rtv, mw_rt0, mw_rt1, mj_ild, mj_lld, mj_ald, mj_ist, mj_lst, mj_ast, mj_inc, mj_iz, mj_get, mj_put, mj_len, mj_iar, mj_aar, mj_iaw, mj_aaw, mj_ivs, mj_ivv, mj_ivi, mj_ob, mj_tk, mj_cat, mj_st1, mj_st2, mj_clr, mj_nwi, mj_nwq, List.getElem?_cons_zero, List.getElem?_cons_succ, List.length_cons, List.length_nil, List.set_cons_zero, List.set_cons_succ, Value.category, decide_eq_true_eq, List.map_cons, List.map_nil, List.sum_cons, List.sum_nil, Option.toList, List.cons_append, List.nil_append, ite_true, ite_false, if_true, if_false, reduceCtorEq, true_and, and_true, narrow_i, narrow_l, narrow_r, narrow_n, fits_i, fits_l, fits_ro, fits_ra, fits_no, fits_na, Nat.reduceAdd, Nat.reduceLT, Nat.reduceLeDiff, Nat.reduceEqDiff, Nat.reduceSub, zero_add0, true_or, or_true, false_or, or_false, not_true_eq_false, not_false_eq_true, eq_self, i10, i01, im0, im1, nI_1]
          refine go C1 hp1 (fun _ _ => rfl) ?_ a1 a2 (a3 i (by omega)) a4
          rw [if_pos hd, sp_lits_not (C1 i).2 [] hR2]
          rfl
      · have q0 := eq_false hd
        simp only [x_55_3, x_55_4, x_55_7, x_55_10, x_55_11, x_55_14, x_55_15, x_55_16, x_55_19, x_55_22, x_55_23, x_55_24, x_55_25, x_55_28, x_55_31, x_55_32, x_55_33, x_55_36, x_55_37, x_55_38, x_55_39, x_55_42, x_55_45, mw_nx, mw_no, mw_ite, mw_call, mw_ret, mw_cst, mw_ii, mw_i1, mw_ll, mw_l1, mw_li, mw_i2l, mw_l2i, mw_lcm, mw_if, mw_ic, mw_ifnN, mw_ifnR, mw_go, mw_dupi, mw_dupr, mw_popi, mw_popr, mw_nw, mw_rti, mw_rtl, mw_rtr, mw_rtn, mw_rtv, mw_rt0, mw_rt1, mj_ild, mj_lld, mj_ald, mj_ist, mj_lst, mj_ast, mj_inc, mj_iz, mj_get, mj_put, mj_len, mj_iar, mj_aar, mj_iaw, mj_aaw, mj_ivs, mj_ivv, mj_ivi, mj_ob, mj_tk, mj_cat, mj_st1, mj_st2, mj_clr, mj_nwi, mj_nwq, List.getElem?_cons_zero, List.getElem?_cons_succ, List.length_cons, List.length_nil, List.set_cons_zero, List.set_cons_succ, Value.category, decide_eq_true_eq, List.map_cons, List.map_nil, List.sum_cons, List.sum_nil, Option.toList, List.cons_append, List.nil_append, ite_true, ite_false, if_true, if_false, reduceCtorEq, true_and, and_true, narrow_i, narrow_l, narrow_r, narrow_n, fits_i, fits_l, fits_ro, fits_ra, fits_no, fits_na, Nat.reduceAdd, Nat.reduceLT, Nat.reduceLeDiff, Nat.reduceEqDiff, Nat.reduceSub, zero_add0, true_or, or_true, false_or, or_false, not_true_eq_false, not_false_eq_true, eq_self, i10, i01, im0, im1, a1.1, a1.2.1, e1, at_2, z0, z1, z2, p2, rf_some, b1, c_isDerived b1 hs3, q0, nI_1]
        exact go C1 hp1 (fun _ _ => rfl) (by rw [if_neg hd]) a1 a2 (a3 i (by omega)) a4
  rw [en_55]
  simp only [x_55_0, x_55_1, mw_nx, mw_no, mw_ite, mw_call, mw_ret, mw_cst, mw_ii, mw_i1, mw_ll, mw_l1, mw_li, mw_i2l, mw_l2i, mw_lcm, mw_if, mw_ic, mw_ifnN, mw_ifnR, mw_go, mw_dupi, mw_dupr, mw_popi, mw_popr, mw_nw, mw_rti, mw_rtl, mw_rtr, mw_rtn, mw_rtv, mw_rt0, mw_rt1, mj_ild, mj_lld, mj_ald, mj_ist, mj_lst, mj_ast, mj_inc, mj_iz, mj_get, mj_put, mj_len, mj_iar, mj_aar, mj_iaw, mj_aaw, mj_ivs, mj_ivv, mj_ivi, mj_ob, mj_tk, mj_cat, mj_st1, mj_st2, mj_clr, mj_nwi, mj_nwq, List.getElem?_cons_zero, List.getElem?_cons_succ, List.length_cons, List.length_nil, List.set_cons_zero, List.set_cons_succ, Value.category, decide_eq_true_eq, List.map_cons, List.map_nil, List.sum_cons, List.sum_nil, Option.toList, List.cons_append, List.nil_append, ite_true, ite_false, if_true, if_false, reduceCtorEq, true_and, and_true, narrow_i, narrow_l, narrow_r, narrow_n, fits_i, fits_l, fits_ro, fits_ra, fits_no, fits_na, Nat.reduceAdd, Nat.reduceLT, Nat.reduceLeDiff, Nat.reduceEqDiff, Nat.reduceSub, zero_add0, true_or, or_true, false_or, or_false, not_true_eq_false, not_false_eq_true, eq_self, i10, i01, im0, im1]
  exact key k 0 C hp (by omega) hr hpk hlv sm.rf (by rw [show List.range k = List.range' 0 k from List.range_eq_range']; rfl)
end DT
