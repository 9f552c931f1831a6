/-! A Proof: dropLine -/
theorem cl_0 : mj_cl[0]? = some ("ProofLines$Line", mj_T0, 5) := rfl
/-- the places behind a line that goes: those ahead stay, those behind come one down, the line itself comes behind the last -/
def dr {α : Type} (f : Nat → α) (v k : Nat) : Nat → α := fun j => if j < v then f j else if j + 1 < k then f (j + 1) else if j + 1 = k then f v else f j
section DR
variable {hp : mj_H} {Q : mj_Q} {P n k : Nat} {ρ : Nat → Option Nat} {g : Nat → Int32} {π : Nat → Nat} {C : Nat → Nat × List Nat}
theorem c_dropLine (hr : pf_r hp P n k ρ g) (hk : k ≤ 80) (hpk : pf_k hp P ρ π C) {v : Nat} (hv : v < k) (hg : ∀ i, i < k → g i = 0 ∨ g i = 1) (hQ : ∀ (hp' : mj_H) (ρ' : Nat → Option Nat) (g' : Nat → Int32), pf_r hp' P n (k - 1) ρ' g' → pf_k hp' P ρ' (dr π v k) (dr C v k) → (∀ j, j < v → g' j = g j) → (∀ j, v ≤ j → j + 1 < k → g' j = g (j + 1)) → sm hp hp' P (P + 163) → Q none hp') : mj_call 62 [.ref P, .int (nI v)] hp Q := by
  obtain ⟨r1, r2, r3⟩ := hr
  obtain ⟨m, rfl⟩ : ∃ m, k = m + 1 := ⟨k - 1, by omega⟩
  obtain ⟨pv1, pv2, pv3⟩ := hpk.1 v (by omega)
  have key : ∀ (d i : Nat) (hp1 : mj_H) (ρ1 : Nat → Option Nat) (g1 : Nat → Int32), i + d = m → v ≤ i → hp1.1 P = some (pf_o P n (m + 1)) → hp1.1 (P + 1) = some (pf_q ρ1) → hp1.1 (P + 2) = some (pf_z g1) → (∀ q, P + 3 ≤ q → hp1.1 q = hp.1 q) → sm hp hp1 P (P + 163) → (∀ j, j < v → ρ1 j = ρ j ∧ g1 j = g j) → (∀ j, v ≤ j → j < i → ρ1 j = ρ (j + 1) ∧ g1 j = g (j + 1)) → (∀ j, i ≤ j → ρ1 j = ρ j ∧ g1 j = g j) → mj_wp 62 9 [some (.ref P), some (.int (nI v)), some (.ref (P + 3 + 2 * π v)), some (.int (nI i))] [] hp1 Q := by
    intro d
    induction d with
    | zero =>
      intro i hp1 ρ1 g1 hi hvi a1 a2 a3 hq hs j1 j2 j3
      obtain rfl : i = m := by omega
      have e1 : nI (i + 1) ≤ nI (i + 1) := nI_le (Nat.le_refl _) (by omega)
      have z0 : ¬ nI i < 0 := nI_pos (by omega)
      have z1 : (nI i).toNatClampNeg = i := nI_clamp (by omega)
      have z2 : ¬ 80 ≤ i := by omega
      obtain ⟨f, t, u, b1, -⟩ := pv3
      have o1 : ∀ (e : va_E), (mj_up hp1 P e).1 (P + 1) = hp1.1 (P + 1) := fun _ => mj_up_off (by omega)
      have o2 : ∀ (e : va_E), (mj_up hp1 P e).1 (P + 3 + 2 * π v) = some (ln_o (P + 3 + 2 * π v) (C v).2.length (C v).1 t u) := fun _ => by rw [mj_up_off (by omega), hq _ (by omega)]; exact b1
      rw [x_62_9]
      simp only [x_62_10, x_62_11, x_62_12, x_62_13, x_62_16, x_62_19, x_62_20, x_62_23, x_62_24, x_62_25, x_62_28, x_62_29, x_62_30, x_62_31, x_62_32, x_62_33, x_62_34, x_62_37, x_62_38, x_62_39, x_62_42, x_62_43, x_62_44, x_62_45, x_62_46, x_62_47, x_62_50, x_62_53, x_62_54, x_62_55, x_62_58, x_62_59, x_62_60, x_62_63, x_62_64, x_62_67, x_62_68, x_62_71, x_62_72, x_62_73, mw_nx, mw_no, mw_ite, mw_call, mw_ret, mw_cst, mw_ii, mw_i1, mw_ll, mw_l1, mw_li, mw_i2l, mw_l2i, mw_lcm, mw_if, mw_ic, mw_ifnN, mw_ifnR, mw_go, mw_dupi, mw_dupr, mw_popi, mw_popr, mw_nw, mw_rti, mw_rtl, mw_rtr, mw_rtn, mw_rtv, mw_rt0, mw_rt1, mj_ild, mj_lld, mj_ald, mj_ist, mj_lst, mj_ast, mj_inc, mj_iz, mj_get, mj_put, mj_len, mj_iar, mj_aar, mj_iaw, mj_aaw, mj_ivs, mj_ivv, mj_ivi, mj_ob, mj_tk, mj_cat, mj_st1, mj_st2, mj_clr, mj_nwi, mj_nwq, List.getElem?_cons_zero, List.getElem?_cons_succ, List.length_cons, List.length_nil, List.set_cons_zero, List.set_cons_succ, Value.category, decide_eq_true_eq, List.map_cons, List.map_nil, List.sum_cons, List.sum_nil, Option.toList, List.cons_append, List.nil_append, ite_true, ite_false, if_true, if_false, reduceCtorEq, true_and, and_true, narrow_i, narrow_l, narrow_r, narrow_n, fits_i, fits_l, fits_ro, fits_ra, fits_no, fits_na, Nat.reduceAdd, Nat.reduceLT, Nat.reduceLeDiff, Nat.reduceEqDiff, Nat.reduceSub, zero_add0, true_or, or_true, false_or, or_false, not_true_eq_false, not_false_eq_true, eq_self, i10, i01, im0, im1, nI_1, a1, a2, e1, mj_up_at, nI_pred, o1, o2, at_2, cl_0, Option.map_some, Option.isSome_some, z0, z1, z2]
      refine hQ _ (va_up ρ1 i (some (P + 3 + 2 * π v))) g1 ⟨?_, ?_, ?_⟩ ⟨fun j hj => ?_, fun x y hx hy hxy => ?_⟩ (fun j hj => (j1 j hj).2) (fun j h5 h6 => (j2 j h5 (by omega)).2) (hs.tr ((sm.up (by omega) (by omega)).tr (sm.up (by omega) (by omega))))
      · rw [mj_up_off (by omega), mj_up_at]
        simp
      · rw [mj_up_at]
      · rw [mj_up_off (by omega), mj_up_off (by omega)]; exact a3
      · have hk1 : ∀ q l, ln_at hp q l → P + 3 ≤ q → ln_at (mj_up (mj_up hp1 P (.inr (1, [.int (nI n), .ref (P + 1), .ref (P + 2), .int (nI i)]))) (P + 1) (.inl (2, 80, .inr (.inr (.inr (.inr (va_up ρ1 i (some (P + 3 + 2 * π v))))))))) q l := by
          intro q l hl hq3
          exact hl.keep (by rw [mj_up_off (by omega), mj_up_off (by omega), hq _ hq3]) (by rw [mj_up_off (by omega), mj_up_off (by omega), hq _ (by omega)])
        by_cases c1 : j < v
        · obtain ⟨q1, q2, q3⟩ := hpk.1 j hj
          have d1 : dr π v (i + 1) j = π j := by simp [dr, c1]
          have d2 : dr C v (i + 1) j = C j := by simp [dr, c1]
          rw [d1, d2, va_up_ne _ _ (by omega), (j1 j c1).1]
          exact ⟨q1, q2, hk1 _ _ q3 (by omega)⟩
        · by_cases c2 : j + 1 < i + 1
          · obtain ⟨q1, q2, q3⟩ := hpk.1 (j + 1) (by omega)
            have d1 : dr π v (i + 1) j = π (j + 1) := by simp only [dr, c1, c2, if_true, if_false]
            have d2 : dr C v (i + 1) j = C (j + 1) := by simp only [dr, c1, c2, if_true, if_false]
            rw [d1, d2, va_up_ne _ _ (by omega), (j2 j (by omega) (by omega)).1]
            exact ⟨q1, q2, hk1 _ _ q3 (by omega)⟩
          · by_cases c3 : j + 1 = i + 1
            · obtain rfl : j = i := by omega
              obtain ⟨q1, q2, q3⟩ := hpk.1 v (by omega)
              have d1 : dr π v (j + 1) j = π v := by simp only [dr, c1, c2, c3, if_true, if_false]
              have d2 : dr C v (j + 1) j = C v := by simp only [dr, c1, c2, c3, if_true, if_false]
              rw [d1, d2, va_up_self]
              exact ⟨q1, rfl, hk1 _ _ q3 (by omega)⟩
            · obtain ⟨q1, q2, q3⟩ := hpk.1 j hj
              have d1 : dr π v (i + 1) j = π j := by simp only [dr, c1, c2, c3, if_true, if_false]
              have d2 : dr C v (i + 1) j = C j := by simp only [dr, c1, c2, c3, if_true, if_false]
              rw [d1, d2, va_up_ne _ _ (by omega), (j3 j (by omega)).1]
              exact ⟨q1, q2, hk1 _ _ q3 (by omega)⟩
      · have src : ∀ j, j < 80 → ∃ s, s < 80 ∧ dr π v (i + 1) j = π s ∧ (j < v → s = j) ∧ (¬ j < v → j + 1 < i + 1 → s = j + 1) ∧ (¬ j < v → ¬ j + 1 < i + 1 → j = i → s = v) ∧ (¬ j < v → ¬ j + 1 < i + 1 → ¬ j = i → s = j) := by
          intro j hj
          unfold dr
          by_cases c1 : j < v
          · exact ⟨j, hj, by rw [if_pos c1], fun _ => rfl, fun q => absurd c1 q, fun q => absurd c1 q, fun q => absurd c1 q⟩
          · by_cases c2 : j + 1 < i + 1
            · exact ⟨j + 1, by omega, by rw [if_neg c1, if_pos c2], fun q => absurd q c1, fun _ _ => rfl, fun _ q => absurd c2 q, fun _ q => absurd c2 q⟩
            · by_cases c3 : j = i
              · exact ⟨v, by omega, by rw [if_neg c1, if_neg c2, if_pos (by omega)], fun q => absurd q c1, fun _ q => absurd q c2, fun _ _ _ => rfl, fun _ _ q => absurd c3 q⟩
              · exact ⟨j, hj, by rw [if_neg c1, if_neg c2, if_neg (by omega)], fun q => absurd q c1, fun _ q => absurd q c2, fun _ _ q => absurd q c3, fun _ _ _ => rfl⟩
        obtain ⟨s, s1, s2, s3, s4, s5, s6⟩ := src x hx
        obtain ⟨s', t1, t2, t3, t4, t5, t6⟩ := src y hy
        rw [s2, t2] at hxy
        have hss := hpk.2 s s' s1 t1 hxy
        by_cases x1 : x < v <;> by_cases x2 : x + 1 < i + 1 <;> by_cases x3 : x = i <;> by_cases y1 : y < v <;> by_cases y2 : y + 1 < i + 1 <;> by_cases y3 : y = i <;> (simp only [x1, x2, x3, y1, y2, y3, not_true_eq_false, not_false_eq_true, true_implies, false_implies, implies_true] at s3 s4 s5 s6 t3 t4 t5 t6) <;> omega
    | succ d ih =>
      intro i hp1 ρ1 g1 hi hvi a1 a2 a3 hq hs j1 j2 j3
      obtain ⟨q1, q2, q3⟩ := hpk.1 (i + 1) (by omega)
      obtain ⟨f, t, u, b1, -⟩ := q3
      have e1 : ¬ nI (m + 1) ≤ nI (i + 1) := nI_ge (by omega) (by omega)
      have z0 : ¬ nI i < 0 := nI_pos (by omega)
      have z1 : (nI i).toNatClampNeg = i := nI_clamp (by omega)
      have z2 : ¬ 80 ≤ i := by omega
      have y0 : ¬ nI (i + 1) < 0 := nI_pos (by omega)
      have y1 : (nI (i + 1)).toNatClampNeg = i + 1 := nI_clamp (by omega)
      have y2 : ¬ 80 ≤ i + 1 := by omega
      have rr : ρ1 (i + 1) = some (P + 3 + 2 * π (i + 1)) := by rw [(j3 (i + 1) (by omega)).1]; exact q2
      have gg : g1 (i + 1) = g (i + 1) := (j3 (i + 1) (by omega)).2
      have nz := narrow_z (hg (i + 1) (by omega))
      have ob : hp1.1 (P + 3 + 2 * π (i + 1)) = some (ln_o (P + 3 + 2 * π (i + 1)) (C (i + 1)).2.length (C (i + 1)).1 t u) := by rw [hq _ (by omega)]; exact b1
      have o1 : ∀ (e : va_E), (mj_up hp1 (P + 1) e).1 P = hp1.1 P := fun _ => mj_up_off (by omega)
      have o2 : ∀ (e : va_E), (mj_up hp1 (P + 1) e).1 (P + 2) = hp1.1 (P + 2) := fun _ => mj_up_off (by omega)
      rw [x_62_9]
      simp only [x_62_10, x_62_11, x_62_12, x_62_13, x_62_16, x_62_19, x_62_20, x_62_23, x_62_24, x_62_25, x_62_28, x_62_29, x_62_30, x_62_31, x_62_32, x_62_33, x_62_34, x_62_37, x_62_38, x_62_39, x_62_42, x_62_43, x_62_44, x_62_45, x_62_46, x_62_47, x_62_50, mw_nx, mw_no, mw_ite, mw_call, mw_ret, mw_cst, mw_ii, mw_i1, mw_ll, mw_l1, mw_li, mw_i2l, mw_l2i, mw_lcm, mw_if, mw_ic, mw_ifnN, mw_ifnR, mw_go, mw_dupi, mw_dupr, mw_popi, mw_popr, mw_nw, mw_rti, mw_rtl, mw_rtr, mw_rtn, mw_rtv, mw_rt0, mw_rt1, mj_ild, mj_lld, mj_ald, mj_ist, mj_lst, mj_ast, mj_inc, mj_iz, mj_get, mj_put, mj_len, mj_iar, mj_aar, mj_iaw, mj_aaw, mj_ivs, mj_ivv, mj_ivi, mj_ob, mj_tk, mj_cat, mj_st1, mj_st2, mj_clr, mj_nwi, mj_nwq, List.getElem?_cons_zero, List.getElem?_cons_succ, List.length_cons, List.length_nil, List.set_cons_zero, List.set_cons_succ, Value.category, decide_eq_true_eq, List.map_cons, List.map_nil, List.sum_cons, List.sum_nil, Option.toList, List.cons_append, List.nil_append, ite_true, ite_false, if_true, if_false, reduceCtorEq, true_and, and_true, narrow_i, narrow_l, narrow_r, narrow_n, fits_i, fits_l, fits_ro, fits_ra, fits_no, fits_na, Nat.reduceAdd, Nat.reduceLT, Nat.reduceLeDiff, Nat.reduceEqDiff, Nat.reduceSub, zero_add0, true_or, or_true, false_or, or_false, not_true_eq_false, not_false_eq_true, eq_self, i10, i01, im0, im1, nI_1, a1, a2, a3, e1, at_1, at_2, cl_0, Option.map_some, Option.isSome_some, z0, z1, z2, y0, y1, y2, rr, gg, rf_some, ob, o1, o2, nz]
      refine ih (i + 1) _ (va_up ρ1 i (some (P + 3 + 2 * π (i + 1)))) (upd g1 i (g (i + 1))) (by omega) (by omega) ?_ ?_ ?_ (fun q hq3 => ?_) (hs.tr ((sm.up (by omega) (by omega)).tr (sm.up (by omega) (by omega)))) (fun j hj => ?_) (fun j h5 h6 => ?_) (fun j hj => ?_)
      · rw [mj_up_off (by omega), mj_up_off (by omega)]; exact a1
      · rw [mj_up_off (by omega), mj_up_at]
      · rw [mj_up_at]
      · rw [mj_up_off (by omega), mj_up_off (by omega)]; exact hq q hq3
      · rw [va_up_ne _ _ (by omega), show upd g1 i (g (i + 1)) j = g1 j by simp [upd, show j ≠ i by omega]]; exact j1 j hj
      · by_cases hji : j = i
        · subst hji
          rw [va_up_self, show upd g1 j (g (j + 1)) j = g (j + 1) by simp [upd]]
          exact ⟨q2.symm, rfl⟩
        · rw [va_up_ne _ _ hji, show upd g1 i (g (i + 1)) j = g1 j by simp [upd, hji]]; exact j2 j h5 (by omega)
      · rw [va_up_ne _ _ (by omega), show upd g1 i (g (i + 1)) j = g1 j by simp [upd, show j ≠ i by omega]]; exact j3 j (by omega)
  have z0 : ¬ nI v < 0 := nI_pos (by omega)
  have z1 : (nI v).toNatClampNeg = v := nI_clamp (by omega)
  have z2 : ¬ 80 ≤ v := by omega
  rw [en_62]
  simp only [x_62_0, x_62_1, x_62_4, x_62_5, x_62_6, x_62_7, x_62_8, mw_nx, mw_no, mw_ite, mw_call, mw_ret, mw_cst, mw_ii, mw_i1, mw_ll, mw_l1, mw_li, mw_i2l, mw_l2i, mw_lcm, mw_if, mw_ic, mw_ifnN, mw_ifnR, mw_go, mw_dupi, mw_dupr, mw_popi, mw_popr, mw_nw, mw_rti, mw_rtl, mw_rtr, mw_rtn, mw_rtv, mw_rt0, mw_rt1, mj_ild, mj_lld, mj_ald, mj_ist, mj_lst, mj_ast, mj_inc, mj_iz, mj_get, mj_put, mj_len, mj_iar, mj_aar, mj_iaw, mj_aaw, mj_ivs, mj_ivv, mj_ivi, mj_ob, mj_tk, mj_cat, mj_st1, mj_st2, mj_clr, mj_nwi, mj_nwq, List.getElem?_cons_zero, List.getElem?_cons_succ, List.length_cons, List.length_nil, List.set_cons_zero, List.set_cons_succ, Value.category, decide_eq_true_eq, List.map_cons, List.map_nil, List.sum_cons, List.sum_nil, Option.toList, List.cons_append, List.nil_append, ite_true, ite_false, if_true, if_false, reduceCtorEq, true_and, and_true, narrow_i, narrow_l, narrow_r, narrow_n, fits_i, fits_l, fits_ro, fits_ra, fits_no, fits_na, Nat.reduceAdd, Nat.reduceLT, Nat.reduceLeDiff, Nat.reduceEqDiff, Nat.reduceSub, zero_add0, true_or, or_true, false_or, or_false, not_true_eq_false, not_false_eq_true, eq_self, i10, i01, im0, im1, r1, r2, at_2, z0, z1, z2, pv2, rf_some]
  exact key (m - v) v hp ρ g (by omega) (Nat.le_refl _) r1 r2 r3 (fun _ _ => rfl) sm.rf (fun _ _ => ⟨rfl, rfl⟩) (fun j h5 h6 => by omega) (fun _ _ => ⟨rfl, rfl⟩)
end DR
