/-! A Proof: its object at P, its rows at P + 1, its marks at P + 2, its lines behind; and clashes by units -/
abbrev pf_o (P n k : Nat) : va_E := .inr (1, [.int (nI n), .ref (P + 1), .ref (P + 2), .int (nI k)])
abbrev pf_q (ρ : Nat → Option Nat) : va_E := .inl (2, 80, .inr (.inr (.inr (.inr ρ))))
abbrev pf_z (g : Nat → Int32) : va_E := .inl (1, 80, .inl g)
def pf_r (hp : mj_H) (P n k : Nat) (ρ : Nat → Option Nat) (g : Nat → Int32) : Prop := hp.1 P = some (pf_o P n k) ∧ hp.1 (P + 1) = some (pf_q ρ) ∧ hp.1 (P + 2) = some (pf_z g)
def pf_l (hp : mj_H) (P : Nat) (ρ : Nat → Option Nat) (C : Nat → Nat × List Nat) : Prop := ∃ π : Nat → Nat, (∀ i, i < 80 → π i < 80 ∧ ρ i = some (P + 3 + 2 * π i) ∧ ln_at hp (P + 3 + 2 * π i) (C i)) ∧ ∀ i j, i < 80 → j < 80 → π i = π j → i = j
def pf_cls (C : Nat → Nat × List Nat) (ah : Nat) (w : Int32) : List (List Nat) := ((List.range ah).filter (fun j => !(decide (nI j = w)) && !(decide ((C j).1 = 3)))).map (fun j => (C j).2)
theorem pf_cls_mem {C : Nat → Nat × List Nat} {ah : Nat} {w : Int32} {X : List Nat} : X ∈ pf_cls C ah w ↔ ∃ j, j < ah ∧ ¬ nI j = w ∧ ¬ (C j).1 = 3 ∧ X = (C j).2 := by
  unfold pf_cls
  simp only [List.mem_map, List.mem_filter, List.mem_range, Bool.and_eq_true, Bool.not_eq_true', decide_eq_false_iff_not]
  constructor
  · rintro ⟨j, ⟨h1, h2, h3⟩, rfl⟩
    exact ⟨j, h1, h2, h3, rfl⟩
  · rintro ⟨j, h1, h2, h3, rfl⟩
    exact ⟨j, ⟨h1, h2, h3⟩, rfl⟩
theorem rf_some (a : Nat) : va_rf (some a) = .ref a := rfl
theorem rf_none : va_rf none = .null := rfl
theorem c_clashes {hp : mj_H} {Q : mj_Q} {P n k ah : Nat} {ρ : Nat → Option Nat} {g : Nat → Int32} {C : Nat → Nat × List Nat} {t u : Int64} {w : Int32} {cs : List Nat} (hr : pf_r hp P n k ρ g) (hl : pf_l hp P ρ C) (hah : ah ≤ 80) (hw : ln_w cs t u)
    (h1 : un_clash (pf_cls C ah w) (fun x => un_neg x ∈ cs) → Q (some (.int 1)) hp) (h0 : ¬ un_clash (pf_cls C ah w) (fun x => un_neg x ∈ cs) → Q (some (.int 0)) hp) : mj_call 60 [.ref P, .long t, .long u, .int (nI ah), .int w] hp Q := by
  obtain ⟨r1, r2, r3⟩ := hr
  obtain ⟨π, hπ, -⟩ := hl
  generalize hCs : pf_cls C ah w = Cs at h1 h0
  generalize hA : (fun x => un_neg x ∈ cs) = A at h1 h0
  have inner : ∀ (a0 b0 : Int64) (rd : Nat), (∀ (a b : Int64) (more : Int32) (o14 o15 o16 o17 o18 o19 : Option Value), (∀ x, A x → hm a b x) → (∀ x, hm a b x → un_cl Cs A x) → a &&& b = 0 → (more = 0 ∨ more = 1) → (more = 0 → ∀ j, j < ah → ¬ nI j = w → ¬ (C j).1 = 3 → st_quiet (hm a b) (C j).2) → (more = 1 → lc (a0 ||| b0) + 1 ≤ lc (a ||| b)) → mj_wp 60 169 [some (.ref P), some (.long t), none, some (.long u), none, some (.int (nI ah)), some (.int w), some (.long a), none, some (.long b), none, some (.int more), some (.int (nI rd)), some (.int (nI ah)), o14, o15, o16, o17, o18, o19] [] hp Q) →
      ∀ (d i : Nat) (a b : Int64) (more : Int32) (o14 o15 o16 o17 o18 o19 : Option Value), i + d = ah → (∀ x, A x → hm a b x) → (∀ x, hm a b x → un_cl Cs A x) → a &&& b = 0 → (more = 0 ∨ more = 1) → (more = 0 → (a = a0 ∧ b = b0) ∧ ∀ j, j < i → ¬ nI j = w → ¬ (C j).1 = 3 → st_quiet (hm a0 b0) (C j).2) → (more = 1 → lc (a0 ||| b0) + 1 ≤ lc (a ||| b)) → lc (a0 ||| b0) ≤ lc (a ||| b) → mj_wp 60 42 [some (.ref P), some (.long t), none, some (.long u), none, some (.int (nI ah)), some (.int w), some (.long a), none, some (.long b), none, some (.int more), some (.int (nI rd)), some (.int (nI i)), o14, o15, o16, o17, o18, o19] [] hp Q := by
    intro a0 b0 rd kont d
    induction d with
    | zero =>
      intro i a b more o14 o15 o16 o17 o18 o19 hi i1 i2 i3 i4 i5 i6 i7
      obtain rfl : i = ah := by omega
      have e1 : nI i ≤ nI i := nI_le (Nat.le_refl _) (by omega)
      rw [x_60_42]
      simp only [x_60_44, x_60_46, mw_nx, mw_no, mw_ite, mw_call, mw_ret, mw_cst, mw_ii, mw_i1, mw_ll, mw_l1, mw_li, mw_i2l, mw_l2i, mw_lcm, mw_if, mw_ic, mw_ifnN, mw_ifnR, mw_go, mw_dupi, mw_dupr, mw_popi, mw_popr, mw_nw, mw_rti, mw_rtl, mw_rtr, mw_rtn, mw_rtv, mw_rt0, mw_rt1, mj_ild, mj_lld, mj_ald, mj_ist, mj_lst, mj_ast, mj_inc, mj_iz, mj_get, mj_put, mj_len, mj_iar, mj_aar, mj_iaw, mj_aaw, mj_ivs, mj_ivv, mj_ivi, mj_ob, mj_tk, mj_cat, mj_st1, mj_st2, mj_clr, mj_nwi, mj_nwq, List.getElem?_cons_zero, List.getElem?_cons_succ, List.length_cons, List.length_nil, List.set_cons_zero, List.set_cons_succ, Value.category, decide_eq_true_eq, List.map_cons, List.map_nil, List.sum_cons, List.sum_nil, Option.toList, List.cons_append, List.nil_append, ite_true, ite_false, if_true, if_false, reduceCtorEq, true_and, and_true, narrow_i, narrow_l, narrow_r, narrow_n, fits_i, fits_l, fits_ro, fits_ra, fits_no, fits_na, Nat.reduceAdd, Nat.reduceLT, Nat.reduceLeDiff, Nat.reduceEqDiff, Nat.reduceSub, zero_add0, true_or, or_true, false_or, or_false, not_true_eq_false, not_false_eq_true, eq_self, i10, i01, im0, im1, e1]
      refine kont a b more o14 o15 o16 o17 o18 o19 i1 i2 i3 i4 (fun hm0 => ?_) i6
      obtain ⟨⟨rfl, rfl⟩, hq⟩ := i5 hm0
      exact hq
    | succ d ih =>
      intro i a b more o14 o15 o16 o17 o18 o19 hi i1 i2 i3 i4 i5 i6 i7
      obtain ⟨p1, p2, p3⟩ := hπ i (by omega)
      obtain ⟨f, ti, ui, b1, b2, hv, hok, hs⟩ := p3
      have hwi : ln_w (C i).2 ti ui := ⟨hv.2.1, hv.2.2⟩
      have e1 : ¬ nI ah ≤ nI i := nI_ge (by omega) (by omega)
      have z0 : ¬ nI i < 0 := nI_pos (by omega)
      have z1 : (nI i).toNatClampNeg = i := nI_clamp (by omega)
      have z2 : ¬ 80 ≤ i := by omega
      have skip : ∀ (o15 o16 o17 o18 o19 : Option Value), (nI i = w ∨ (C i).1 = 3 ∨ st_quiet (hm a b) (C i).2) → mj_wp 60 42 [some (.ref P), some (.long t), none, some (.long u), none, some (.int (nI ah)), some (.int w), some (.long a), none, some (.long b), none, some (.int more), some (.int (nI rd)), some (.int (nI (i + 1))), some (.ref (P + 3 + 2 * π i)), o15, o16, o17, o18, o19] [] hp Q := by
        intro o15 o16 o17 o18 o19 hsk
        refine ih (i + 1) a b more _ o15 o16 o17 o18 o19 (by omega) i1 i2 i3 i4 (fun hm0 => ?_) i6 i7
        obtain ⟨⟨rfl, rfl⟩, hq⟩ := i5 hm0
        refine ⟨⟨rfl, rfl⟩, fun j hj hjw hj3 => ?_⟩
        by_cases hji : j = i
        · subst hji
          rcases hsk with q | q | q
          · exact absurd q hjw
          · exact absurd q hj3
          · exact q
        · exact hq j (by omega) hjw hj3
      rw [x_60_42]
      by_cases hiw : nI i = w
      · have q1 := eq_true hiw
        simp only [x_60_44, x_60_46, x_60_49, x_60_50, x_60_53, x_60_55, x_60_56, x_60_58, x_60_60, x_60_62, x_60_65, x_60_67, x_60_70, x_60_73, x_60_76, x_60_78, x_60_81, x_60_83, x_60_86, x_60_87, x_60_88, x_60_90, x_60_92, x_60_95, x_60_97, x_60_100, x_60_101, x_60_102, x_60_104, x_60_106, x_60_109, x_60_111, x_60_114, x_60_115, x_60_117, x_60_119, x_60_122, x_60_123, x_60_124, x_60_126, x_60_127, x_60_130, x_60_132, x_60_134, x_60_135, x_60_137, x_60_139, x_60_140, x_60_141, x_60_142, x_60_143, x_60_146, x_60_148, x_60_150, x_60_151, x_60_153, x_60_155, x_60_157, x_60_158, x_60_160, x_60_161, x_60_163, x_60_166, mw_nx, mw_no, mw_ite, mw_call, mw_ret, mw_cst, mw_ii, mw_i1, mw_ll, mw_l1, mw_li, mw_i2l, mw_l2i, mw_lcm, mw_if, mw_ic, mw_ifnN, mw_ifnR, mw_go, mw_dupi, mw_dupr, mw_popi, mw_popr, mw_nw, mw_rti, mw_rtl, mw_rtr, mw_rtn, mw_rtv, mw_rt0, mw_rt1, mj_ild, mj_lld, mj_ald, mj_ist, mj_lst, mj_ast, mj_inc, mj_iz, mj_get, mj_put, mj_len, mj_iar, mj_aar, mj_iaw, mj_aaw, mj_ivs, mj_ivv, mj_ivi, mj_ob, mj_tk, mj_cat, mj_st1, mj_st2, mj_clr, mj_nwi, mj_nwq, List.getElem?_cons_zero, List.getElem?_cons_succ, List.length_cons, List.length_nil, List.set_cons_zero, List.set_cons_succ, Value.category, decide_eq_true_eq, List.map_cons, List.map_nil, List.sum_cons, List.sum_nil, Option.toList, List.cons_append, List.nil_append, ite_true, ite_false, if_true, if_false, reduceCtorEq, true_and, and_true, narrow_i, narrow_l, narrow_r, narrow_n, fits_i, fits_l, fits_ro, fits_ra, fits_no, fits_na, Nat.reduceAdd, Nat.reduceLT, Nat.reduceLeDiff, Nat.reduceEqDiff, Nat.reduceSub, zero_add0, true_or, or_true, false_or, or_false, not_true_eq_false, not_false_eq_true, eq_self, i10, i01, im0, im1, e1, r1, r2, at_2, z0, z1, z2, p2, rf_some, q1, nI_1]
        exact skip _ _ _ _ _ (Or.inl hiw)
      · have q1 := eq_false hiw
        by_cases hk3 : (C i).1 = 3
        · have q3 := eq_true hk3
          simp only [x_60_44, x_60_46, x_60_49, x_60_50, x_60_53, x_60_55, x_60_56, x_60_58, x_60_60, x_60_62, x_60_65, x_60_67, x_60_70, x_60_73, x_60_76, x_60_78, x_60_81, x_60_83, x_60_86, x_60_87, x_60_88, x_60_90, x_60_92, x_60_95, x_60_97, x_60_100, x_60_101, x_60_102, x_60_104, x_60_106, x_60_109, x_60_111, x_60_114, x_60_115, x_60_117, x_60_119, x_60_122, x_60_123, x_60_124, x_60_126, x_60_127, x_60_130, x_60_132, x_60_134, x_60_135, x_60_137, x_60_139, x_60_140, x_60_141, x_60_142, x_60_143, x_60_146, x_60_148, x_60_150, x_60_151, x_60_153, x_60_155, x_60_157, x_60_158, x_60_160, x_60_161, x_60_163, x_60_166, mw_nx, mw_no, mw_ite, mw_call, mw_ret, mw_cst, mw_ii, mw_i1, mw_ll, mw_l1, mw_li, mw_i2l, mw_l2i, mw_lcm, mw_if, mw_ic, mw_ifnN, mw_ifnR, mw_go, mw_dupi, mw_dupr, mw_popi, mw_popr, mw_nw, mw_rti, mw_rtl, mw_rtr, mw_rtn, mw_rtv, mw_rt0, mw_rt1, mj_ild, mj_lld, mj_ald, mj_ist, mj_lst, mj_ast, mj_inc, mj_iz, mj_get, mj_put, mj_len, mj_iar, mj_aar, mj_iaw, mj_aaw, mj_ivs, mj_ivv, mj_ivi, mj_ob, mj_tk, mj_cat, mj_st1, mj_st2, mj_clr, mj_nwi, mj_nwq, List.getElem?_cons_zero, List.getElem?_cons_succ, List.length_cons, List.length_nil, List.set_cons_zero, List.set_cons_succ, Value.category, decide_eq_true_eq, List.map_cons, List.map_nil, List.sum_cons, List.sum_nil, Option.toList, List.cons_append, List.nil_append, ite_true, ite_false, if_true, if_false, reduceCtorEq, true_and, and_true, narrow_i, narrow_l, narrow_r, narrow_n, fits_i, fits_l, fits_ro, fits_ra, fits_no, fits_na, Nat.reduceAdd, Nat.reduceLT, Nat.reduceLeDiff, Nat.reduceEqDiff, Nat.reduceSub, zero_add0, true_or, or_true, false_or, or_false, not_true_eq_false, not_false_eq_true, eq_self, i10, i01, im0, im1, e1, r1, r2, at_2, z0, z1, z2, p2, rf_some, q1, nI_1, b1, c_isClause b1 hs, q3]
          exact skip _ _ _ _ _ (Or.inr (Or.inl hk3))
        · have q3 := eq_false hk3
          have hop := st_count (a := a) (b := b) hwi hok
          have hmem : (C i).2 ∈ Cs := by rw [← hCs]; exact pf_cls_mem.mpr ⟨i, by omega, hiw, hk3, rfl⟩
          cases hfl : (C i).2.filter (st_o a b) with
          | nil =>
            rw [hfl] at hop
            have e3 : nI (lc (ti &&& (b ^^^ (-1)))) + nI (lc (ui &&& (a ^^^ (-1)))) = 0 := by rw [nI_add, hop]; rfl
            simp only [x_60_44, x_60_46, x_60_49, x_60_50, x_60_53, x_60_55, x_60_56, x_60_58, x_60_60, x_60_62, x_60_65, x_60_67, x_60_70, x_60_73, x_60_76, x_60_78, x_60_81, x_60_83, x_60_86, x_60_87, x_60_88, x_60_90, x_60_92, x_60_95, x_60_97, x_60_100, x_60_101, x_60_102, x_60_104, x_60_106, x_60_109, x_60_111, x_60_114, x_60_115, x_60_117, x_60_119, x_60_122, x_60_123, mw_nx, mw_no, mw_ite, mw_call, mw_ret, mw_cst, mw_ii, mw_i1, mw_ll, mw_l1, mw_li, mw_i2l, mw_l2i, mw_lcm, mw_if, mw_ic, mw_ifnN, mw_ifnR, mw_go, mw_dupi, mw_dupr, mw_popi, mw_popr, mw_nw, mw_rti, mw_rtl, mw_rtr, mw_rtn, mw_rtv, mw_rt0, mw_rt1, mj_ild, mj_lld, mj_ald, mj_ist, mj_lst, mj_ast, mj_inc, mj_iz, mj_get, mj_put, mj_len, mj_iar, mj_aar, mj_iaw, mj_aaw, mj_ivs, mj_ivv, mj_ivi, mj_ob, mj_tk, mj_cat, mj_st1, mj_st2, mj_clr, mj_nwi, mj_nwq, List.getElem?_cons_zero, List.getElem?_cons_succ, List.length_cons, List.length_nil, List.set_cons_zero, List.set_cons_succ, Value.category, decide_eq_true_eq, List.map_cons, List.map_nil, List.sum_cons, List.sum_nil, Option.toList, List.cons_append, List.nil_append, ite_true, ite_false, if_true, if_false, reduceCtorEq, true_and, and_true, narrow_i, narrow_l, narrow_r, narrow_n, fits_i, fits_l, fits_ro, fits_ra, fits_no, fits_na, Nat.reduceAdd, Nat.reduceLT, Nat.reduceLeDiff, Nat.reduceEqDiff, Nat.reduceSub, zero_add0, true_or, or_true, false_or, or_false, not_true_eq_false, not_false_eq_true, eq_self, i10, i01, im0, im1, e1, r1, r2, at_2, z0, z1, z2, p2, rf_some, q1, b1, c_isClause b1 hs, q3, c_trues b1, c_falses b1, c_bitCount, e3]
            exact h1 (un_dead i2 hmem (st_dead hfl))
          | cons x r =>
            cases r with
            | nil =>
              rw [hfl] at hop
              have e3 : nI (lc (ti &&& (b ^^^ (-1)))) + nI (lc (ui &&& (a ^^^ (-1)))) = 1 := by rw [nI_add, hop]; rfl
              have hh := st_hold hwi hok hfl
              by_cases hxh : hm a b x
              · have q4 : (((ti &&& (b ^^^ (-1))) &&& a) ||| ((ui &&& (a ^^^ (-1))) &&& b) = 0) = False := eq_false (fun q => hh.mp q hxh)
                simp only [x_60_44, x_60_46, x_60_49, x_60_50, x_60_53, x_60_55, x_60_56, x_60_58, x_60_60, x_60_62, x_60_65, x_60_67, x_60_70, x_60_73, x_60_76, x_60_78, x_60_81, x_60_83, x_60_86, x_60_87, x_60_88, x_60_90, x_60_92, x_60_95, x_60_97, x_60_100, x_60_101, x_60_102, x_60_104, x_60_106, x_60_109, x_60_111, x_60_114, x_60_115, x_60_117, x_60_119, x_60_122, x_60_123, x_60_124, x_60_126, x_60_127, x_60_130, x_60_132, x_60_134, x_60_135, x_60_137, x_60_139, x_60_140, x_60_141, x_60_142, x_60_143, x_60_146, x_60_148, x_60_150, x_60_151, x_60_153, x_60_155, x_60_157, x_60_158, x_60_160, x_60_161, x_60_163, x_60_166, mw_nx, mw_no, mw_ite, mw_call, mw_ret, mw_cst, mw_ii, mw_i1, mw_ll, mw_l1, mw_li, mw_i2l, mw_l2i, mw_lcm, mw_if, mw_ic, mw_ifnN, mw_ifnR, mw_go, mw_dupi, mw_dupr, mw_popi, mw_popr, mw_nw, mw_rti, mw_rtl, mw_rtr, mw_rtn, mw_rtv, mw_rt0, mw_rt1, mj_ild, mj_lld, mj_ald, mj_ist, mj_lst, mj_ast, mj_inc, mj_iz, mj_get, mj_put, mj_len, mj_iar, mj_aar, mj_iaw, mj_aaw, mj_ivs, mj_ivv, mj_ivi, mj_ob, mj_tk, mj_cat, mj_st1, mj_st2, mj_clr, mj_nwi, mj_nwq, List.getElem?_cons_zero, List.getElem?_cons_succ, List.length_cons, List.length_nil, List.set_cons_zero, List.set_cons_succ, Value.category, decide_eq_true_eq, List.map_cons, List.map_nil, List.sum_cons, List.sum_nil, Option.toList, List.cons_append, List.nil_append, ite_true, ite_false, if_true, if_false, reduceCtorEq, true_and, and_true, narrow_i, narrow_l, narrow_r, narrow_n, fits_i, fits_l, fits_ro, fits_ra, fits_no, fits_na, Nat.reduceAdd, Nat.reduceLT, Nat.reduceLeDiff, Nat.reduceEqDiff, Nat.reduceSub, zero_add0, true_or, or_true, false_or, or_false, not_true_eq_false, not_false_eq_true, eq_self, i10, i01, im0, im1, e1, r1, r2, at_2, z0, z1, z2, p2, rf_some, q1, b1, c_isClause b1 hs, q3, c_trues b1, c_falses b1, c_bitCount, e3, cmp0, q4, nI_1]
                exact skip _ _ _ _ _ (Or.inr (Or.inr (st_quiet1 hfl hxh)))
              · have q4 : (((ti &&& (b ^^^ (-1))) &&& a) ||| ((ui &&& (a ^^^ (-1))) &&& b) = 0) = True := eq_true (hh.mpr hxh)
                simp only [x_60_44, x_60_46, x_60_49, x_60_50, x_60_53, x_60_55, x_60_56, x_60_58, x_60_60, x_60_62, x_60_65, x_60_67, x_60_70, x_60_73, x_60_76, x_60_78, x_60_81, x_60_83, x_60_86, x_60_87, x_60_88, x_60_90, x_60_92, x_60_95, x_60_97, x_60_100, x_60_101, x_60_102, x_60_104, x_60_106, x_60_109, x_60_111, x_60_114, x_60_115, x_60_117, x_60_119, x_60_122, x_60_123, x_60_124, x_60_126, x_60_127, x_60_130, x_60_132, x_60_134, x_60_135, x_60_137, x_60_139, x_60_140, x_60_141, x_60_142, x_60_143, x_60_146, x_60_148, x_60_150, x_60_151, x_60_153, x_60_155, x_60_157, x_60_158, x_60_160, x_60_161, x_60_163, x_60_166, mw_nx, mw_no, mw_ite, mw_call, mw_ret, mw_cst, mw_ii, mw_i1, mw_ll, mw_l1, mw_li, mw_i2l, mw_l2i, mw_lcm, mw_if, mw_ic, mw_ifnN, mw_ifnR, mw_go, mw_dupi, mw_dupr, mw_popi, mw_popr, mw_nw, mw_rti, mw_rtl, mw_rtr, mw_rtn, mw_rtv, mw_rt0, mw_rt1, mj_ild, mj_lld, mj_ald, mj_ist, mj_lst, mj_ast, mj_inc, mj_iz, mj_get, mj_put, mj_len, mj_iar, mj_aar, mj_iaw, mj_aaw, mj_ivs, mj_ivv, mj_ivi, mj_ob, mj_tk, mj_cat, mj_st1, mj_st2, mj_clr, mj_nwi, mj_nwq, List.getElem?_cons_zero, List.getElem?_cons_succ, List.length_cons, List.length_nil, List.set_cons_zero, List.set_cons_succ, Value.category, decide_eq_true_eq, List.map_cons, List.map_nil, List.sum_cons, List.sum_nil, Option.toList, List.cons_append, List.nil_append, ite_true, ite_false, if_true, if_false, reduceCtorEq, true_and, and_true, narrow_i, narrow_l, narrow_r, narrow_n, fits_i, fits_l, fits_ro, fits_ra, fits_no, fits_na, Nat.reduceAdd, Nat.reduceLT, Nat.reduceLeDiff, Nat.reduceEqDiff, Nat.reduceSub, zero_add0, true_or, or_true, false_or, or_false, not_true_eq_false, not_false_eq_true, eq_self, i10, i01, im0, im1, e1, r1, r2, at_2, z0, z1, z2, p2, rf_some, q1, b1, c_isClause b1 hs, q3, c_trues b1, c_falses b1, c_bitCount, e3, cmp0, q4, nI_1]
                have haf := st_after hwi hok hfl
                obtain ⟨u1, u2, u3⟩ := st_unit hfl
                have hmo := st_more hwi hok hfl hxh
                refine ih (i + 1) _ _ 1 _ _ _ _ _ _ (by omega) (fun y hy => (haf y).mpr (Or.inl (i1 y hy))) (fun y hy => ?_) (hm_and0.mpr (fun y hy => ?_)) (Or.inr rfl) (fun q => absurd q (by decide)) (fun _ => by rw [hmo]; omega) (by rw [hmo]; omega)
                · rcases (haf y).mp hy with q | q
                  · exact i2 y q
                  · rw [q]
                    exact un_cl_step hmem u1 (fun z hz hne => i2 _ (u3 z hz hne))
                · rcases (haf y).mp hy.1 with q | q
                  · rcases (haf (un_neg y)).mp hy.2 with q' | q'
                    · exact hm_and0.mp i3 y ⟨q, q'⟩
                    · rw [← q', un_neg_neg] at u2
                      exact u2 q
                  · rcases (haf (un_neg y)).mp hy.2 with q' | q'
                    · rw [q] at q'; exact u2 q'
                    · exact un_neg_ne x (by rw [← q]; exact q' ▸ (by rw [q]))
            | cons y r =>
              rw [hfl] at hop
              have hlen := ln_len hok
              have hle : ((C i).2.filter (st_o a b)).length ≤ (C i).2.length := List.length_filter_le _ _
              rw [hfl] at hle
              simp only [List.length_cons] at hop hle
              have e3 : nI (lc (ti &&& (b ^^^ (-1)))) + nI (lc (ui &&& (a ^^^ (-1)))) = nI (r.length + 1 + 1) := by rw [nI_add, hop]
              have e4 : (nI (r.length + 1 + 1) = 0) = False := eq_false (nI_ne0 (by omega) (by omega))
              have e5 : (nI (r.length + 1 + 1) = 1) = False := eq_false (fun q => by have := (nI_eq (b := 1) (by omega) (by omega)).mp q; omega)
              simp only [x_60_44, x_60_46, x_60_49, x_60_50, x_60_53, x_60_55, x_60_56, x_60_58, x_60_60, x_60_62, x_60_65, x_60_67, x_60_70, x_60_73, x_60_76, x_60_78, x_60_81, x_60_83, x_60_86, x_60_87, x_60_88, x_60_90, x_60_92, x_60_95, x_60_97, x_60_100, x_60_101, x_60_102, x_60_104, x_60_106, x_60_109, x_60_111, x_60_114, x_60_115, x_60_117, x_60_119, x_60_122, x_60_123, x_60_124, x_60_126, x_60_127, x_60_130, x_60_132, x_60_134, x_60_135, x_60_137, x_60_139, x_60_140, x_60_141, x_60_142, x_60_143, x_60_146, x_60_148, x_60_150, x_60_151, x_60_153, x_60_155, x_60_157, x_60_158, x_60_160, x_60_161, x_60_163, x_60_166, mw_nx, mw_no, mw_ite, mw_call, mw_ret, mw_cst, mw_ii, mw_i1, mw_ll, mw_l1, mw_li, mw_i2l, mw_l2i, mw_lcm, mw_if, mw_ic, mw_ifnN, mw_ifnR, mw_go, mw_dupi, mw_dupr, mw_popi, mw_popr, mw_nw, mw_rti, mw_rtl, mw_rtr, mw_rtn, mw_rtv, mw_rt0, mw_rt1, mj_ild, mj_lld, mj_ald, mj_ist, mj_lst, mj_ast, mj_inc, mj_iz, mj_get, mj_put, mj_len, mj_iar, mj_aar, mj_iaw, mj_aaw, mj_ivs, mj_ivv, mj_ivi, mj_ob, mj_tk, mj_cat, mj_st1, mj_st2, mj_clr, mj_nwi, mj_nwq, List.getElem?_cons_zero, List.getElem?_cons_succ, List.length_cons, List.length_nil, List.set_cons_zero, List.set_cons_succ, Value.category, decide_eq_true_eq, List.map_cons, List.map_nil, List.sum_cons, List.sum_nil, Option.toList, List.cons_append, List.nil_append, ite_true, ite_false, if_true, if_false, reduceCtorEq, true_and, and_true, narrow_i, narrow_l, narrow_r, narrow_n, fits_i, fits_l, fits_ro, fits_ra, fits_no, fits_na, Nat.reduceAdd, Nat.reduceLT, Nat.reduceLeDiff, Nat.reduceEqDiff, Nat.reduceSub, zero_add0, true_or, or_true, false_or, or_false, not_true_eq_false, not_false_eq_true, eq_self, i10, i01, im0, im1, e1, r1, r2, at_2, z0, z1, z2, p2, rf_some, q1, b1, c_isClause b1 hs, q3, c_trues b1, c_falses b1, c_bitCount, e3, e4, e5, nI_1]
              exact skip _ _ _ _ _ (Or.inr (Or.inr (st_quiet2 hok hfl)))
  have outer : ∀ (d rd : Nat) (a b : Int64) (o13 o14 o15 o16 o17 o18 o19 : Option Value), rd + d = 65 → rd ≤ lc (a ||| b) → (∀ x, A x → hm a b x) → (∀ x, hm a b x → un_cl Cs A x) → a &&& b = 0 → mj_wp 60 24 [some (.ref P), some (.long t), none, some (.long u), none, some (.int (nI ah)), some (.int w), some (.long a), none, some (.long b), none, some (.int 1), some (.int (nI rd)), o13, o14, o15, o16, o17, o18, o19] [] hp Q := by
    intro d
    induction d with
    | zero =>
      intro rd a b o13 o14 o15 o16 o17 o18 o19 hd hlc
      have := lc_le (a ||| b)
      omega
    | succ d ih =>
      intro rd a b o13 o14 o15 o16 o17 o18 o19 hd hlc i1 i2 i3
      have hrd : rd ≤ 64 := by have := lc_le (a ||| b); omega
      have e1 : ¬ (64 : Int32) < nI rd := nI_nlt (a := 64) (b := rd) hrd (by omega)
      rw [x_60_24]
      simp only [x_60_26, x_60_28, x_60_31, x_60_33, x_60_36, x_60_37, x_60_39, x_60_40, mw_nx, mw_no, mw_ite, mw_call, mw_ret, mw_cst, mw_ii, mw_i1, mw_ll, mw_l1, mw_li, mw_i2l, mw_l2i, mw_lcm, mw_if, mw_ic, mw_ifnN, mw_ifnR, mw_go, mw_dupi, mw_dupr, mw_popi, mw_popr, mw_nw, mw_rti, mw_rtl, mw_rtr, mw_rtn, mw_rtv, mw_rt0, mw_rt1, mj_ild, mj_lld, mj_ald, mj_ist, mj_lst, mj_ast, mj_inc, mj_iz, mj_get, mj_put, mj_len, mj_iar, mj_aar, mj_iaw, mj_aaw, mj_ivs, mj_ivv, mj_ivi, mj_ob, mj_tk, mj_cat, mj_st1, mj_st2, mj_clr, mj_nwi, mj_nwq, List.getElem?_cons_zero, List.getElem?_cons_succ, List.length_cons, List.length_nil, List.set_cons_zero, List.set_cons_succ, Value.category, decide_eq_true_eq, List.map_cons, List.map_nil, List.sum_cons, List.sum_nil, Option.toList, List.cons_append, List.nil_append, ite_true, ite_false, if_true, if_false, reduceCtorEq, true_and, and_true, narrow_i, narrow_l, narrow_r, narrow_n, fits_i, fits_l, fits_ro, fits_ra, fits_no, fits_na, Nat.reduceAdd, Nat.reduceLT, Nat.reduceLeDiff, Nat.reduceEqDiff, Nat.reduceSub, zero_add0, true_or, or_true, false_or, or_false, not_true_eq_false, not_false_eq_true, eq_self, i10, i01, im0, im1, e1]
      refine inner a b rd (fun a' b' more p14 p15 p16 p17 p18 p19 j1 j2 j3 j4 j5 j6 => ?_) ah 0 a b 0 o14 o15 o16 o17 o18 o19 (by omega) i1 i2 i3 (Or.inl rfl) (fun _ => ⟨⟨rfl, rfl⟩, fun j hj => by omega⟩) (fun q => absurd q (by decide)) (Nat.le_refl _)
      rcases j4 with rfl | rfl
      · have hno : ¬ un_clash Cs A := by
          refine un_done j1 (hm_and0.mp j3) (fun X hX => ?_) (fun X hX => ?_)
          · rw [← hCs] at hX
            obtain ⟨j, q1, q2, q3, rfl⟩ := pf_cls_mem.mp hX
            exact (j5 rfl j q1 q2 q3).1
          · rw [← hCs] at hX
            obtain ⟨j, q1, q2, q3, rfl⟩ := pf_cls_mem.mp hX
            exact (j5 rfl j q1 q2 q3).2
        simp only [x_60_169, x_60_172, x_60_24, x_60_26, x_60_28, x_60_31, x_60_33, x_60_175, x_60_176, mw_nx, mw_no, mw_ite, mw_call, mw_ret, mw_cst, mw_ii, mw_i1, mw_ll, mw_l1, mw_li, mw_i2l, mw_l2i, mw_lcm, mw_if, mw_ic, mw_ifnN, mw_ifnR, mw_go, mw_dupi, mw_dupr, mw_popi, mw_popr, mw_nw, mw_rti, mw_rtl, mw_rtr, mw_rtn, mw_rtv, mw_rt0, mw_rt1, mj_ild, mj_lld, mj_ald, mj_ist, mj_lst, mj_ast, mj_inc, mj_iz, mj_get, mj_put, mj_len, mj_iar, mj_aar, mj_iaw, mj_aaw, mj_ivs, mj_ivv, mj_ivi, mj_ob, mj_tk, mj_cat, mj_st1, mj_st2, mj_clr, mj_nwi, mj_nwq, List.getElem?_cons_zero, List.getElem?_cons_succ, List.length_cons, List.length_nil, List.set_cons_zero, List.set_cons_succ, Value.category, decide_eq_true_eq, List.map_cons, List.map_nil, List.sum_cons, List.sum_nil, Option.toList, List.cons_append, List.nil_append, ite_true, ite_false, if_true, if_false, reduceCtorEq, true_and, and_true, narrow_i, narrow_l, narrow_r, narrow_n, fits_i, fits_l, fits_ro, fits_ra, fits_no, fits_na, Nat.reduceAdd, Nat.reduceLT, Nat.reduceLeDiff, Nat.reduceEqDiff, Nat.reduceSub, zero_add0, true_or, or_true, false_or, or_false, not_true_eq_false, not_false_eq_true, eq_self, i10, i01, im0, im1, nI_1]
        split <;> exact h0 hno
      · simp only [x_60_169, x_60_172, mw_nx, mw_no, mw_ite, mw_call, mw_ret, mw_cst, mw_ii, mw_i1, mw_ll, mw_l1, mw_li, mw_i2l, mw_l2i, mw_lcm, mw_if, mw_ic, mw_ifnN, mw_ifnR, mw_go, mw_dupi, mw_dupr, mw_popi, mw_popr, mw_nw, mw_rti, mw_rtl, mw_rtr, mw_rtn, mw_rtv, mw_rt0, mw_rt1, mj_ild, mj_lld, mj_ald, mj_ist, mj_lst, mj_ast, mj_inc, mj_iz, mj_get, mj_put, mj_len, mj_iar, mj_aar, mj_iaw, mj_aaw, mj_ivs, mj_ivv, mj_ivi, mj_ob, mj_tk, mj_cat, mj_st1, mj_st2, mj_clr, mj_nwi, mj_nwq, List.getElem?_cons_zero, List.getElem?_cons_succ, List.length_cons, List.length_nil, List.set_cons_zero, List.set_cons_succ, Value.category, decide_eq_true_eq, List.map_cons, List.map_nil, List.sum_cons, List.sum_nil, Option.toList, List.cons_append, List.nil_append, ite_true, ite_false, if_true, if_false, reduceCtorEq, true_and, and_true, narrow_i, narrow_l, narrow_r, narrow_n, fits_i, fits_l, fits_ro, fits_ra, fits_no, fits_na, Nat.reduceAdd, Nat.reduceLT, Nat.reduceLeDiff, Nat.reduceEqDiff, Nat.reduceSub, zero_add0, true_or, or_true, false_or, or_false, not_true_eq_false, not_false_eq_true, eq_self, i10, i01, im0, im1, nI_1]
        exact ih (rd + 1) a' b' _ _ _ _ _ _ _ (by omega) (by have := j6 rfl; omega) j1 j2 j3
  rw [en_60]
  by_cases hz : u &&& t = 0
  · have q1 := eq_true hz
    simp only [x_60_0, x_60_1, x_60_3, x_60_4, x_60_6, x_60_7, x_60_9, x_60_11, x_60_13, x_60_14, x_60_15, x_60_16, x_60_19, x_60_20, x_60_21, x_60_22, mw_nx, mw_no, mw_ite, mw_call, mw_ret, mw_cst, mw_ii, mw_i1, mw_ll, mw_l1, mw_li, mw_i2l, mw_l2i, mw_lcm, mw_if, mw_ic, mw_ifnN, mw_ifnR, mw_go, mw_dupi, mw_dupr, mw_popi, mw_popr, mw_nw, mw_rti, mw_rtl, mw_rtr, mw_rtn, mw_rtv, mw_rt0, mw_rt1, mj_ild, mj_lld, mj_ald, mj_ist, mj_lst, mj_ast, mj_inc, mj_iz, mj_get, mj_put, mj_len, mj_iar, mj_aar, mj_iaw, mj_aaw, mj_ivs, mj_ivv, mj_ivi, mj_ob, mj_tk, mj_cat, mj_st1, mj_st2, mj_clr, mj_nwi, mj_nwq, List.getElem?_cons_zero, List.getElem?_cons_succ, List.length_cons, List.length_nil, List.set_cons_zero, List.set_cons_succ, Value.category, decide_eq_true_eq, List.map_cons, List.map_nil, List.sum_cons, List.sum_nil, Option.toList, List.cons_append, List.nil_append, ite_true, ite_false, if_true, if_false, reduceCtorEq, true_and, and_true, narrow_i, narrow_l, narrow_r, narrow_n, fits_i, fits_l, fits_ro, fits_ra, fits_no, fits_na, Nat.reduceAdd, Nat.reduceLT, Nat.reduceLeDiff, Nat.reduceEqDiff, Nat.reduceSub, zero_add0, true_or, or_true, false_or, or_false, not_true_eq_false, not_false_eq_true, eq_self, i10, i01, im0, im1, cmp0, q1]
    refine outer 65 0 u t none none none none none none none rfl (Nat.zero_le _) (fun x hx => ?_) (fun x hx => ?_) hz
    · rw [← hA] at hx; exact (hm_start hw x).mpr hx
    · refine un_cl_in ?_
      rw [← hA]; exact (hm_start hw x).mp hx
  · have q1 := eq_false hz
    simp only [x_60_0, x_60_1, x_60_3, x_60_4, x_60_6, x_60_7, x_60_9, x_60_11, x_60_13, x_60_14, x_60_15, x_60_16, x_60_19, x_60_20, x_60_21, x_60_22, mw_nx, mw_no, mw_ite, mw_call, mw_ret, mw_cst, mw_ii, mw_i1, mw_ll, mw_l1, mw_li, mw_i2l, mw_l2i, mw_lcm, mw_if, mw_ic, mw_ifnN, mw_ifnR, mw_go, mw_dupi, mw_dupr, mw_popi, mw_popr, mw_nw, mw_rti, mw_rtl, mw_rtr, mw_rtn, mw_rtv, mw_rt0, mw_rt1, mj_ild, mj_lld, mj_ald, mj_ist, mj_lst, mj_ast, mj_inc, mj_iz, mj_get, mj_put, mj_len, mj_iar, mj_aar, mj_iaw, mj_aaw, mj_ivs, mj_ivv, mj_ivi, mj_ob, mj_tk, mj_cat, mj_st1, mj_st2, mj_clr, mj_nwi, mj_nwq, List.getElem?_cons_zero, List.getElem?_cons_succ, List.length_cons, List.length_nil, List.set_cons_zero, List.set_cons_succ, Value.category, decide_eq_true_eq, List.map_cons, List.map_nil, List.sum_cons, List.sum_nil, Option.toList, List.cons_append, List.nil_append, ite_true, ite_false, if_true, if_false, reduceCtorEq, true_and, and_true, narrow_i, narrow_l, narrow_r, narrow_n, fits_i, fits_l, fits_ro, fits_ra, fits_no, fits_na, Nat.reduceAdd, Nat.reduceLT, Nat.reduceLeDiff, Nat.reduceEqDiff, Nat.reduceSub, zero_add0, true_or, or_true, false_or, or_false, not_true_eq_false, not_false_eq_true, eq_self, i10, i01, im0, im1, cmp0, q1]
    refine h1 ?_
    rw [hm_and0] at hz
    simp only [Classical.not_forall, Classical.not_not] at hz
    obtain ⟨x, hx1, hx2⟩ := hz
    refine un_both (c := x) ?_ ?_
    · rw [← hA]; exact (hm_start hw x).mp hx1
    · rw [← hA]; exact (hm_start hw _).mp hx2
