/-! Whether a line is RIGHT -/
def lv (n : Nat) (l : Nat × List Nat) : Prop := (∀ c ∈ l.2, c < 2 * n) ∧ (l.1 = 3 → ∀ c ∈ l.2, ¬ un_neg c ∈ l.2)
theorem cp_dis {p q : Nat → Bool} : ∀ (l : List Nat), (∀ j ∈ l, ¬ (p j = true ∧ q j = true)) → l.countP p + l.countP q = l.countP (fun j => p j || q j) := by
  intro l
  induction l with
  | nil => intro _; rfl
  | cons a l ih =>
    intro h
    have h1 := ih (fun j hj => h j (List.mem_cons_of_mem _ hj))
    have h2 := h a List.mem_cons_self
    simp only [List.countP_cons]
    cases hp : p a <;> cases hq : q a <;> simp [hp, hq] at h2 ⊢ <;> omega
theorem cp_all {p : Nat → Bool} {n : Nat} (hn : n ≤ 64) (h : ∀ j, n ≤ j → j < 64 → p j = false) : (List.range 64).countP p = n ↔ ∀ j, j < n → p j = true := by
  obtain ⟨d, hd⟩ : ∃ d, 64 = n + d := ⟨64 - n, by omega⟩
  rw [hd, List.range_add, List.countP_append]
  have e : ((List.range d).map (n + ·)).countP p = 0 := by
    rw [List.countP_eq_zero]
    intro a ha
    obtain ⟨b, hb, rfl⟩ := List.mem_map.mp ha
    have := List.mem_range.mp hb
    rw [h (n + b) (by omega) (by omega)]
    simp
  rw [e, Nat.add_zero]
  have := List.countP_eq_length (p := p) (l := List.range n)
  rw [List.length_range] at this
  rw [this]
  exact ⟨fun q j hj => q j (List.mem_range.mpr hj), fun q j hj => q j (List.mem_range.mp hj)⟩
theorem len_parity (cs : List Nat) : cs.countP (fun c => decide (c % 2 = 1)) + cs.countP (fun c => decide (c % 2 = 0)) = cs.length := by
  induction cs with
  | nil => rfl
  | cons c cs ih =>
    simp only [List.countP_cons, List.length_cons]
    by_cases h : c % 2 = 1
    · have : ¬ c % 2 = 0 := by omega
      simp [h]
      omega
    · have : c % 2 = 0 := by omega
      simp [this]
      omega
theorem full_iff {cs : List Nat} {t u : Int64} {n : Nat} (hw : ln_w cs t u) (hok : ln_ok cs) (hn : n ≤ 64) (hc : ∀ c ∈ cs, c < 2 * n) (hno : ∀ c ∈ cs, ¬ un_neg c ∈ cs) : (cs.length = n ∧ lc (t ||| u) = n) ↔ ∀ j, j < n → (2 * j ∈ cs ↔ ¬ 2 * j + 1 ∈ cs) := by
  have hdis : ∀ j, ¬ (lb t j = true ∧ lb u j = true) := by
    intro j
    rw [hw.1, hw.2, decide_eq_true_eq, decide_eq_true_eq]
    rintro ⟨h1, h2⟩
    have := hno _ h2
    rw [un_even] at this
    exact this h1
  have e1 : lc t + lc u = cs.length := by
    obtain ⟨a1, a2, -⟩ := lc_t hw hok
    rw [a1, a2]
    exact len_parity cs
  have e2 : lc t + lc u = lc (t ||| u) := by
    unfold lc
    rw [cp_dis _ (fun j _ => hdis j)]
    exact List.countP_congr (fun j _ => by rw [lb_or])
  have e3 : lc (t ||| u) = n ↔ ∀ j, j < n → lb (t ||| u) j = true := by
    refine cp_all hn (fun j h1 h2 => ?_)
    rw [lb_or, hw.1, hw.2]
    have q1 : ¬ 2 * j + 1 ∈ cs := fun q => by have := hc _ q; omega
    have q2 : ¬ 2 * j ∈ cs := fun q => by have := hc _ q; omega
    simp [q1, q2]
  have e4 : ∀ j, lb (t ||| u) j = true ↔ (2 * j ∈ cs ↔ ¬ 2 * j + 1 ∈ cs) := by
    intro j
    have := hdis j
    rw [hw.1, hw.2, decide_eq_true_eq, decide_eq_true_eq] at this
    rw [lb_or, hw.1, hw.2]
    by_cases h1 : 2 * j ∈ cs <;> by_cases h2 : 2 * j + 1 ∈ cs <;> simp [h1, h2] at this ⊢
  constructor
  · rintro ⟨-, h2⟩ j hj
    exact (e4 j).mp (e3.mp h2 j hj)
  · intro h
    have : lc (t ||| u) = n := e3.mpr (fun j hj => (e4 j).mpr (h j hj))
    exact ⟨by omega, this⟩
theorem meet_iff {cs ds : List Nat} {t u t' u' : Int64} (hw : ln_w cs t u) (hw' : ln_w ds t' u') (hok : ∀ c ∈ ds, c < 128) : ((t' &&& t) ||| (u' &&& u) = 0) ↔ ¬ ∃ c ∈ ds, c ∈ cs := by
  rw [lb_eq0]
  constructor
  · rintro h ⟨c, h1, h2⟩
    have hc := hok c h1
    have := h (c / 2) (by omega)
    rw [lb_or, lb_and, lb_and, hw.1, hw.2, hw'.1, hw'.2] at this
    by_cases hp : c % 2 = 1
    · rw [show 2 * (c / 2) + 1 = c by omega] at this
      simp [h1, h2] at this
    · rw [show 2 * (c / 2) = c by omega] at this
      simp [h1, h2] at this
  · intro h i hi
    rw [lb_or, lb_and, lb_and, hw.1, hw.2, hw'.1, hw'.2]
    have q1 : ¬ (2 * i + 1 ∈ ds ∧ 2 * i + 1 ∈ cs) := fun q => h ⟨_, q.1, q.2⟩
    have q2 : ¬ (2 * i ∈ ds ∧ 2 * i ∈ cs) := fun q => h ⟨_, q.1, q.2⟩
    by_cases a1 : 2 * i + 1 ∈ ds <;> by_cases a2 : 2 * i + 1 ∈ cs <;> by_cases a3 : 2 * i ∈ ds <;> by_cases a4 : 2 * i ∈ cs <;> simp [a1, a2, a3, a4] at q1 q2 ⊢
def pf_ah (C : Nat → Nat × List Nat) (i : Nat) (w : Int32) : List (Nat × List Nat) := ((List.range i).filter (fun j => !(decide (nI j = w)))).map C
theorem pf_ah_mem {C : Nat → Nat × List Nat} {i : Nat} {w : Int32} {l : Nat × List Nat} : l ∈ pf_ah C i w ↔ ∃ j, j < i ∧ ¬ nI j = w ∧ l = C j := by
  unfold pf_ah
  simp only [List.mem_map, List.mem_filter, List.mem_range, Bool.not_eq_true', decide_eq_false_iff_not]
  constructor
  · rintro ⟨j, ⟨h1, h2⟩, rfl⟩; exact ⟨j, h1, h2, rfl⟩
  · rintro ⟨j, h1, h2, rfl⟩; exact ⟨j, ⟨h1, h2⟩, rfl⟩
theorem sp_cls_mem {ls : List sp_Ln} {X : List Nat} : X ∈ sp_cls ls ↔ ∃ l ∈ ls, ¬ l.1 = 3 ∧ X = l.2 := by
  unfold sp_cls
  simp only [List.mem_map, List.mem_filter]
  constructor
  · rintro ⟨l, ⟨h1, h2⟩, rfl⟩; exact ⟨l, h1, by simpa using h2, rfl⟩
  · rintro ⟨l, h1, h2, rfl⟩; exact ⟨l, ⟨h1, by simpa using h2⟩, rfl⟩
theorem pf_cls_ah {C : Nat → Nat × List Nat} {i : Nat} {w : Int32} (X : List Nat) : X ∈ pf_cls C i w ↔ X ∈ sp_cls (pf_ah C i w) := by
  rw [pf_cls_mem, sp_cls_mem]
  constructor
  · rintro ⟨j, h1, h2, h3, rfl⟩
    exact ⟨C j, pf_ah_mem.mpr ⟨j, h1, h2, rfl⟩, h3, rfl⟩
  · rintro ⟨l, h1, h2, rfl⟩
    obtain ⟨j, q1, q2, rfl⟩ := pf_ah_mem.mp h1
    exact ⟨j, q1, q2, h2, rfl⟩
section RT
variable {hp : mj_H} {Q : mj_Q} {P n k : Nat} {ρ : Nat → Option Nat} {g : Nat → Int32} {π : Nat → Nat} {C : Nat → Nat × List Nat}
theorem c_meets (hr : pf_r hp P n k ρ g) (hpk : pf_k hp P ρ π C) {a ah : Nat} {l : Nat × List Nat} (hl : ln_at hp a l) (hah : ah ≤ 80) (h1 : (∀ j, j < ah → (C j).1 = 0 → ∃ c ∈ (C j).2, c ∈ l.2) → Q (some (.int 1)) hp) (h0 : ¬ (∀ j, j < ah → (C j).1 = 0 → ∃ c ∈ (C j).2, c ∈ l.2) → Q (some (.int 0)) hp) : mj_call 59 [.ref P, .ref a, .int (nI ah)] hp Q := by
  obtain ⟨r1, r2, r3⟩ := hr
  obtain ⟨f, t, u, b1, b2, hv, hok, hs⟩ := hl
  have key : ∀ (d i : Nat) (o4 o5 o6 : Option Value), i + d = ah → (∀ j, j < i → (C j).1 = 0 → ∃ c ∈ (C j).2, c ∈ l.2) → mj_wp 59 2 [some (.ref P), some (.ref a), some (.int (nI ah)), some (.int (nI i)), o4, o5, o6] [] hp Q := by
    intro d
    induction d with
    | zero =>
      intro i o4 o5 o6 hi hj
      obtain rfl : i = ah := by omega
      have e1 : nI i ≤ nI i := nI_le (Nat.le_refl _) (by omega)
      rw [x_59_2]
      simp only [x_59_3, x_59_4, x_59_61, x_59_62, mw_nx, mw_no, mw_ite, mw_call, mw_ret, mw_cst, mw_ii, mw_i1, mw_ll, mw_l1, mw_li, mw_i2l, mw_l2i, mw_lcm, mw_if, mw_ic, mw_ifnN, mw_ifnR, mw_go, mw_dupi, mw_dupr, mw_popi, mw_popr, mw_nw, mw_rti, mw_rtl, mw_rtr, mw_rtn, mw_rtv, mw_rt0, mw_rt1, mj_ild, mj_lld, mj_ald, mj_ist, mj_lst, mj_ast, mj_inc, mj_iz, mj_get, mj_put, mj_len, mj_iar, mj_aar, mj_iaw, mj_aaw, mj_ivs, mj_ivv, mj_ivi, mj_ob, mj_tk, mj_cat, mj_st1, mj_st2, mj_clr, mj_nwi, mj_nwq, List.getElem?_cons_zero, List.getElem?_cons_succ, List.length_cons, List.length_nil, List.set_cons_zero, List.set_cons_succ, Value.category, decide_eq_true_eq, List.map_cons, List.map_nil, List.sum_cons, List.sum_nil, Option.toList, List.cons_append, List.nil_append, ite_true, ite_false, if_true, if_false, reduceCtorEq, true_and, and_true, narrow_i, narrow_l, narrow_r, narrow_n, fits_i, fits_l, fits_ro, fits_ra, fits_no, fits_na, Nat.reduceAdd, Nat.reduceLT, Nat.reduceLeDiff, Nat.reduceEqDiff, Nat.reduceSub, zero_add0, true_or, or_true, false_or, or_false, not_true_eq_false, not_false_eq_true, eq_self, i10, i01, im0, im1, e1]
      exact h1 hj
    | succ d ih =>
      intro i o4 o5 o6 hi hj
      obtain ⟨p1, p2, f', t', u', c1, c2, hv', hok', hs'⟩ := hpk.1 i (by omega)
      have e1 : ¬ nI ah ≤ nI i := nI_ge (by omega) (by omega)
      have z0 : ¬ nI i < 0 := nI_pos (by omega)
      have z1 : (nI i).toNatClampNeg = i := nI_clamp (by omega)
      have z2 : ¬ 80 ≤ i := by omega
      have e2 : (nI (C i).1 = 0) = ((C i).1 = 0) := propext (nI_eq (b := 0) (by omega) (by omega))
      have hm := meet_iff (cs := l.2) (ds := (C i).2) ⟨hv.2.1, hv.2.2⟩ ⟨hv'.2.1, hv'.2.2⟩ hok'.2
      have go : ∀ o5 o6, ((C i).1 = 0 → ∃ c ∈ (C i).2, c ∈ l.2) → mj_wp 59 2 [some (.ref P), some (.ref a), some (.int (nI ah)), some (.int (nI (i + 1))), some (.ref (P + 3 + 2 * π i)), o5, o6] [] hp Q := by
        intro o5 o6 hgi
        refine ih (i + 1) _ _ _ (by omega) (fun j hj1 hj0 => ?_)
        by_cases hji : j = i
        · subst hji; exact hgi hj0
        · exact hj j (by omega) hj0
      rw [x_59_2]
      by_cases hk0 : (C i).1 = 0
      · have q0 := eq_true hk0
        by_cases hz : ∃ c ∈ (C i).2, c ∈ l.2
        · have q1 : ((t' &&& t) ||| (u' &&& u) = 0) = False := eq_false (fun q => hm.mp q hz)
          simp only [x_59_3, x_59_4, x_59_7, x_59_8, x_59_11, x_59_12, x_59_13, x_59_15, x_59_17, x_59_20, x_59_21, x_59_24, x_59_25, x_59_27, x_59_30, x_59_31, x_59_34, x_59_35, x_59_36, x_59_38, x_59_40, x_59_43, x_59_46, x_59_48, x_59_49, x_59_50, x_59_53, x_59_54, x_59_55, x_59_58, mw_nx, mw_no, mw_ite, mw_call, mw_ret, mw_cst, mw_ii, mw_i1, mw_ll, mw_l1, mw_li, mw_i2l, mw_l2i, mw_lcm, mw_if, mw_ic, mw_ifnN, mw_ifnR, mw_go, mw_dupi, mw_dupr, mw_popi, mw_popr, mw_nw, mw_rti, mw_rtl, mw_rtr, mw_rtn, mw_rtv, mw_rt0, mw_rt1, mj_ild, mj_lld, mj_ald, mj_ist, mj_lst, mj_ast, mj_inc, mj_iz, mj_get, mj_put, mj_len, mj_iar, mj_aar, mj_iaw, mj_aaw, mj_ivs, mj_ivv, mj_ivi, mj_ob, mj_tk, mj_cat, mj_st1, mj_st2, mj_clr, mj_nwi, mj_nwq, List.getElem?_cons_zero, List.getElem?_cons_succ, List.length_cons, List.length_nil, List.set_cons_zero, List.set_cons_succ, Value.category, decide_eq_true_eq, List.map_cons, List.map_nil, List.sum_cons, List.sum_nil, Option.toList, List.cons_append, List.nil_append, ite_true, ite_false, if_true, if_false, reduceCtorEq, true_and, and_true, narrow_i, narrow_l, narrow_r, narrow_n, fits_i, fits_l, fits_ro, fits_ra, fits_no, fits_na, Nat.reduceAdd, Nat.reduceLT, Nat.reduceLeDiff, Nat.reduceEqDiff, Nat.reduceSub, zero_add0, true_or, or_true, false_or, or_false, not_true_eq_false, not_false_eq_true, eq_self, i10, i01, im0, im1, e1, r1, r2, at_2, z0, z1, z2, p2, rf_some, b1, c1, c_trues c1, c_falses c1, c_trues b1, c_falses b1, c_sort c1, e2, q0, cmp0, q1, nI_1]
          exact go _ _ (fun _ => hz)
        · have q1 : ((t' &&& t) ||| (u' &&& u) = 0) = True := eq_true (hm.mpr hz)
          simp only [x_59_3, x_59_4, x_59_7, x_59_8, x_59_11, x_59_12, x_59_13, x_59_15, x_59_17, x_59_20, x_59_21, x_59_24, x_59_25, x_59_27, x_59_30, x_59_31, x_59_34, x_59_35, x_59_36, x_59_38, x_59_40, x_59_43, x_59_46, x_59_48, x_59_49, x_59_50, x_59_53, x_59_54, x_59_55, x_59_58, mw_nx, mw_no, mw_ite, mw_call, mw_ret, mw_cst, mw_ii, mw_i1, mw_ll, mw_l1, mw_li, mw_i2l, mw_l2i, mw_lcm, mw_if, mw_ic, mw_ifnN, mw_ifnR, mw_go, mw_dupi, mw_dupr, mw_popi, mw_popr, mw_nw, mw_rti, mw_rtl, mw_rtr, mw_rtn, mw_rtv, mw_rt0, mw_rt1, mj_ild, mj_lld, mj_ald, mj_ist, mj_lst, mj_ast, mj_inc, mj_iz, mj_get, mj_put, mj_len, mj_iar, mj_aar, mj_iaw, mj_aaw, mj_ivs, mj_ivv, mj_ivi, mj_ob, mj_tk, mj_cat, mj_st1, mj_st2, mj_clr, mj_nwi, mj_nwq, List.getElem?_cons_zero, List.getElem?_cons_succ, List.length_cons, List.length_nil, List.set_cons_zero, List.set_cons_succ, Value.category, decide_eq_true_eq, List.map_cons, List.map_nil, List.sum_cons, List.sum_nil, Option.toList, List.cons_append, List.nil_append, ite_true, ite_false, if_true, if_false, reduceCtorEq, true_and, and_true, narrow_i, narrow_l, narrow_r, narrow_n, fits_i, fits_l, fits_ro, fits_ra, fits_no, fits_na, Nat.reduceAdd, Nat.reduceLT, Nat.reduceLeDiff, Nat.reduceEqDiff, Nat.reduceSub, zero_add0, true_or, or_true, false_or, or_false, not_true_eq_false, not_false_eq_true, eq_self, i10, i01, im0, im1, e1, r1, r2, at_2, z0, z1, z2, p2, rf_some, b1, c1, c_trues c1, c_falses c1, c_trues b1, c_falses b1, c_sort c1, e2, q0, cmp0, q1, nI_1]
          exact h0 (fun q => hz (q i (by omega) hk0))
      · have q0 := eq_false hk0
        simp only [x_59_3, x_59_4, x_59_7, x_59_8, x_59_11, x_59_12, x_59_13, x_59_15, x_59_17, x_59_20, x_59_21, x_59_24, x_59_25, x_59_27, x_59_30, x_59_31, x_59_34, x_59_35, x_59_36, x_59_38, x_59_40, x_59_43, x_59_46, x_59_48, x_59_49, x_59_50, x_59_53, x_59_54, x_59_55, x_59_58, mw_nx, mw_no, mw_ite, mw_call, mw_ret, mw_cst, mw_ii, mw_i1, mw_ll, mw_l1, mw_li, mw_i2l, mw_l2i, mw_lcm, mw_if, mw_ic, mw_ifnN, mw_ifnR, mw_go, mw_dupi, mw_dupr, mw_popi, mw_popr, mw_nw, mw_rti, mw_rtl, mw_rtr, mw_rtn, mw_rtv, mw_rt0, mw_rt1, mj_ild, mj_lld, mj_ald, mj_ist, mj_lst, mj_ast, mj_inc, mj_iz, mj_get, mj_put, mj_len, mj_iar, mj_aar, mj_iaw, mj_aaw, mj_ivs, mj_ivv, mj_ivi, mj_ob, mj_tk, mj_cat, mj_st1, mj_st2, mj_clr, mj_nwi, mj_nwq, List.getElem?_cons_zero, List.getElem?_cons_succ, List.length_cons, List.length_nil, List.set_cons_zero, List.set_cons_succ, Value.category, decide_eq_true_eq, List.map_cons, List.map_nil, List.sum_cons, List.sum_nil, Option.toList, List.cons_append, List.nil_append, ite_true, ite_false, if_true, if_false, reduceCtorEq, true_and, and_true, narrow_i, narrow_l, narrow_r, narrow_n, fits_i, fits_l, fits_ro, fits_ra, fits_no, fits_na, Nat.reduceAdd, Nat.reduceLT, Nat.reduceLeDiff, Nat.reduceEqDiff, Nat.reduceSub, zero_add0, true_or, or_true, false_or, or_false, not_true_eq_false, not_false_eq_true, eq_self, i10, i01, im0, im1, e1, r1, r2, at_2, z0, z1, z2, p2, rf_some, b1, c1, c_trues c1, c_falses c1, c_trues b1, c_falses b1, c_sort c1, e2, q0, nI_1]
        exact go _ _ (fun q => absurd q hk0)
  rw [en_59]
  simp only [x_59_0, x_59_1, mw_nx, mw_no, mw_ite, mw_call, mw_ret, mw_cst, mw_ii, mw_i1, mw_ll, mw_l1, mw_li, mw_i2l, mw_l2i, mw_lcm, mw_if, mw_ic, mw_ifnN, mw_ifnR, mw_go, mw_dupi, mw_dupr, mw_popi, mw_popr, mw_nw, mw_rti, mw_rtl, mw_rtr, mw_rtn, mw_rtv, mw_rt0, mw_rt1, mj_ild, mj_lld, mj_ald, mj_ist, mj_lst, mj_ast, mj_inc, mj_iz, mj_get, mj_put, mj_len, mj_iar, mj_aar, mj_iaw, mj_aaw, mj_ivs, mj_ivv, mj_ivi, mj_ob, mj_tk, mj_cat, mj_st1, mj_st2, mj_clr, mj_nwi, mj_nwq, List.getElem?_cons_zero, List.getElem?_cons_succ, List.length_cons, List.length_nil, List.set_cons_zero, List.set_cons_succ, Value.category, decide_eq_true_eq, List.map_cons, List.map_nil, List.sum_cons, List.sum_nil, Option.toList, List.cons_append, List.nil_append, ite_true, ite_false, if_true, if_false, reduceCtorEq, true_and, and_true, narrow_i, narrow_l, narrow_r, narrow_n, fits_i, fits_l, fits_ro, fits_ra, fits_no, fits_na, Nat.reduceAdd, Nat.reduceLT, Nat.reduceLeDiff, Nat.reduceEqDiff, Nat.reduceSub, zero_add0, true_or, or_true, false_or, or_false, not_true_eq_false, not_false_eq_true, eq_self, i10, i01, im0, im1]
  exact key ah 0 none none none (by omega) (fun j hj => by omega)
theorem c_full (hr : pf_r hp P n k ρ g) {a : Nat} {l : Nat × List Nat} (hl : ln_at hp a l) (hn : n ≤ 64) (hlv : lv n l) (h3 : l.1 = 3) (h1 : (∀ j, j < n → (2 * j ∈ l.2 ↔ ¬ 2 * j + 1 ∈ l.2)) → Q (some (.int 1)) hp) (h0 : ¬ (∀ j, j < n → (2 * j ∈ l.2 ↔ ¬ 2 * j + 1 ∈ l.2)) → Q (some (.int 0)) hp) : mj_call 58 [.ref P, .ref a] hp Q := by
  obtain ⟨r1, r2, r3⟩ := hr
  obtain ⟨f, t, u, b1, b2, hv, hok, hs⟩ := hl
  have hf := full_iff (n := n) ⟨hv.2.1, hv.2.2⟩ hok hn hlv.1 (hlv.2 h3)
  have hlen := ln_len hok
  have hlc := lc_le (t ||| u)
  have e1 : (nI l.2.length = nI n) = (l.2.length = n) := propext (nI_eq (by omega) (by omega))
  have e2 : (nI (lc (t ||| u)) = nI n) = (lc (t ||| u) = n) := propext (nI_eq (by omega) (by omega))
  rw [en_58]
  by_cases q1 : l.2.length = n
  · have p1 := eq_true q1
    by_cases q2 : lc (t ||| u) = n
    · have p2 := eq_true q2
      simp only [x_58_0, x_58_1, x_58_4, x_58_5, x_58_8, x_58_11, x_58_12, x_58_15, x_58_16, x_58_19, x_58_20, x_58_23, x_58_24, x_58_27, x_58_30, x_58_31, x_58_34, x_58_35, mw_nx, mw_no, mw_ite, mw_call, mw_ret, mw_cst, mw_ii, mw_i1, mw_ll, mw_l1, mw_li, mw_i2l, mw_l2i, mw_lcm, mw_if, mw_ic, mw_ifnN, mw_ifnR, mw_go, mw_dupi, mw_dupr, mw_popi, mw_popr, mw_nw, mw_rti, mw_rtl, mw_rtr, mw_rtn, mw_rtv, mw_rt0, mw_rt1, mj_ild, mj_lld, mj_ald, mj_ist, mj_lst, mj_ast, mj_inc, mj_iz, mj_get, mj_put, mj_len, mj_iar, mj_aar, mj_iaw, mj_aaw, mj_ivs, mj_ivv, mj_ivi, mj_ob, mj_tk, mj_cat, mj_st1, mj_st2, mj_clr, mj_nwi, mj_nwq, List.getElem?_cons_zero, List.getElem?_cons_succ, List.length_cons, List.length_nil, List.set_cons_zero, List.set_cons_succ, Value.category, decide_eq_true_eq, List.map_cons, List.map_nil, List.sum_cons, List.sum_nil, Option.toList, List.cons_append, List.nil_append, ite_true, ite_false, if_true, if_false, reduceCtorEq, true_and, and_true, narrow_i, narrow_l, narrow_r, narrow_n, fits_i, fits_l, fits_ro, fits_ra, fits_no, fits_na, Nat.reduceAdd, Nat.reduceLT, Nat.reduceLeDiff, Nat.reduceEqDiff, Nat.reduceSub, zero_add0, true_or, or_true, false_or, or_false, not_true_eq_false, not_false_eq_true, eq_self, i10, i01, im0, im1, r1, b1, c_size b1, c_trues b1, c_falses b1, c_bitCount, e1, e2, p1, p2]
      exact h1 (hf.mp ⟨q1, q2⟩)
    · have p2 := eq_false q2
      simp only [x_58_0, x_58_1, x_58_4, x_58_5, x_58_8, x_58_11, x_58_12, x_58_15, x_58_16, x_58_19, x_58_20, x_58_23, x_58_24, x_58_27, x_58_30, x_58_31, x_58_34, x_58_35, mw_nx, mw_no, mw_ite, mw_call, mw_ret, mw_cst, mw_ii, mw_i1, mw_ll, mw_l1, mw_li, mw_i2l, mw_l2i, mw_lcm, mw_if, mw_ic, mw_ifnN, mw_ifnR, mw_go, mw_dupi, mw_dupr, mw_popi, mw_popr, mw_nw, mw_rti, mw_rtl, mw_rtr, mw_rtn, mw_rtv, mw_rt0, mw_rt1, mj_ild, mj_lld, mj_ald, mj_ist, mj_lst, mj_ast, mj_inc, mj_iz, mj_get, mj_put, mj_len, mj_iar, mj_aar, mj_iaw, mj_aaw, mj_ivs, mj_ivv, mj_ivi, mj_ob, mj_tk, mj_cat, mj_st1, mj_st2, mj_clr, mj_nwi, mj_nwq, List.getElem?_cons_zero, List.getElem?_cons_succ, List.length_cons, List.length_nil, List.set_cons_zero, List.set_cons_succ, Value.category, decide_eq_true_eq, List.map_cons, List.map_nil, List.sum_cons, List.sum_nil, Option.toList, List.cons_append, List.nil_append, ite_true, ite_false, if_true, if_false, reduceCtorEq, true_and, and_true, narrow_i, narrow_l, narrow_r, narrow_n, fits_i, fits_l, fits_ro, fits_ra, fits_no, fits_na, Nat.reduceAdd, Nat.reduceLT, Nat.reduceLeDiff, Nat.reduceEqDiff, Nat.reduceSub, zero_add0, true_or, or_true, false_or, or_false, not_true_eq_false, not_false_eq_true, eq_self, i10, i01, im0, im1, r1, b1, c_size b1, c_trues b1, c_falses b1, c_bitCount, e1, e2, p1, p2]
      exact h0 (fun q => q2 (hf.mpr q).2)
  · have p1 := eq_false q1
    simp only [x_58_0, x_58_1, x_58_4, x_58_5, x_58_8, x_58_11, x_58_12, x_58_15, x_58_16, x_58_19, x_58_20, x_58_23, x_58_24, x_58_27, x_58_30, x_58_31, x_58_34, x_58_35, mw_nx, mw_no, mw_ite, mw_call, mw_ret, mw_cst, mw_ii, mw_i1, mw_ll, mw_l1, mw_li, mw_i2l, mw_l2i, mw_lcm, mw_if, mw_ic, mw_ifnN, mw_ifnR, mw_go, mw_dupi, mw_dupr, mw_popi, mw_popr, mw_nw, mw_rti, mw_rtl, mw_rtr, mw_rtn, mw_rtv, mw_rt0, mw_rt1, mj_ild, mj_lld, mj_ald, mj_ist, mj_lst, mj_ast, mj_inc, mj_iz, mj_get, mj_put, mj_len, mj_iar, mj_aar, mj_iaw, mj_aaw, mj_ivs, mj_ivv, mj_ivi, mj_ob, mj_tk, mj_cat, mj_st1, mj_st2, mj_clr, mj_nwi, mj_nwq, List.getElem?_cons_zero, List.getElem?_cons_succ, List.length_cons, List.length_nil, List.set_cons_zero, List.set_cons_succ, Value.category, decide_eq_true_eq, List.map_cons, List.map_nil, List.sum_cons, List.sum_nil, Option.toList, List.cons_append, List.nil_append, ite_true, ite_false, if_true, if_false, reduceCtorEq, true_and, and_true, narrow_i, narrow_l, narrow_r, narrow_n, fits_i, fits_l, fits_ro, fits_ra, fits_no, fits_na, Nat.reduceAdd, Nat.reduceLT, Nat.reduceLeDiff, Nat.reduceEqDiff, Nat.reduceSub, zero_add0, true_or, or_true, false_or, or_false, not_true_eq_false, not_false_eq_true, eq_self, i10, i01, im0, im1, r1, b1, c_size b1, c_trues b1, c_falses b1, c_bitCount, e1, e2, p1]
    exact h0 (fun q => q1 (hf.mpr q).1)
/-- isRight -/
theorem c_isRight (hr : pf_r hp P n k ρ g) (hk : k ≤ 80) (hpk : pf_k hp P ρ π C) {i : Nat} (hi : i < k) (hn : n ≤ 64) (hlv : lv n (C i)) {w : Int32} (hw0 : ∀ v, v < i → nI v = w → ¬ (C v).1 = 0) (h1 : sp_right n (pf_ah C i w) (C i) → Q (some (.int 1)) hp) (h0 : ¬ sp_right n (pf_ah C i w) (C i) → Q (some (.int 0)) hp) : mj_call 53 [.ref P, .int (nI i), .int w] hp Q := by
  obtain ⟨p1, p2, p3⟩ := hpk.1 i (by omega)
  have p4 := p3
  obtain ⟨f, t, u, b1, b2, hv, hok, hs⟩ := p4
  have r1 := hr.1
  have hcl : un_clash (pf_cls C i w) (fun x => un_neg x ∈ (C i).2) ↔ un_clash (sp_cls (pf_ah C i w)) (fun x => un_neg x ∈ (C i).2) := un_ext pf_cls_ah (fun _ => Iff.rfl)
  rw [en_53]
  by_cases hd : (C i).1 = 1 ∨ (C i).1 = 2
  · have q0 := eq_true hd
    have nz : ¬ (C i).1 = 0 := by omega
    have n3 : ¬ (C i).1 = 3 := by omega
    simp only [x_53_0, x_53_1, x_53_2, x_53_5, x_53_6, x_53_7, x_53_10, x_53_11, x_53_12, x_53_13, x_53_16, x_53_19, x_53_20, x_53_21, x_53_24, x_53_25, x_53_28, x_53_29, x_53_30, mw_nx, mw_no, mw_ite, mw_call, mw_ret, mw_cst, mw_ii, mw_i1, mw_ll, mw_l1, mw_li, mw_i2l, mw_l2i, mw_lcm, mw_if, mw_ic, mw_ifnN, mw_ifnR, mw_go, mw_dupi, mw_dupr, mw_popi, mw_popr, mw_nw, mw_rti, mw_rtl, mw_rtr, mw_rtn, mw_rtv, mw_rt0, mw_rt1, mj_ild, mj_lld, mj_ald, mj_ist, mj_lst, mj_ast, mj_inc, mj_iz, mj_get, mj_put, mj_len, mj_iar, mj_aar, mj_iaw, mj_aaw, mj_ivs, mj_ivv, mj_ivi, mj_ob, mj_tk, mj_cat, mj_st1, mj_st2, mj_clr, mj_nwi, mj_nwq, List.getElem?_cons_zero, List.getElem?_cons_succ, List.length_cons, List.length_nil, List.set_cons_zero, List.set_cons_succ, Value.category, decide_eq_true_eq, List.map_cons, List.map_nil, List.sum_cons, List.sum_nil, Option.toList, List.cons_append, List.nil_append, ite_true, ite_false, if_true, if_false, reduceCtorEq, true_and, and_true, narrow_i, narrow_l, narrow_r, narrow_n, fits_i, fits_l, fits_ro, fits_ra, fits_no, fits_na, Nat.reduceAdd, Nat.reduceLT, Nat.reduceLeDiff, Nat.reduceEqDiff, Nat.reduceSub, zero_add0, true_or, or_true, false_or, or_false, not_true_eq_false, not_false_eq_true, eq_self, i10, i01, im0, im1, r1, c_at hr hk hi hpk, b1, c_isDerived b1 hs, q0, c_trues b1, c_falses b1]
    refine c_clashes hr hpk.l (by omega) (cs := (C i).2) ⟨hv.2.1, hv.2.2⟩ (fun hc => ?_) (fun hc => ?_)
    · simp only [x_53_33, mw_nx, mw_no, mw_ite, mw_call, mw_ret, mw_cst, mw_ii, mw_i1, mw_ll, mw_l1, mw_li, mw_i2l, mw_l2i, mw_lcm, mw_if, mw_ic, mw_ifnN, mw_ifnR, mw_go, mw_dupi, mw_dupr, mw_popi, mw_popr, mw_nw, mw_rti, mw_rtl, mw_rtr, mw_rtn, mw_rtv, mw_rt0, mw_rt1, mj_ild, mj_lld, mj_ald, mj_ist, mj_lst, mj_ast, mj_inc, mj_iz, mj_get, mj_put, mj_len, mj_iar, mj_aar, mj_iaw, mj_aaw, mj_ivs, mj_ivv, mj_ivi, mj_ob, mj_tk, mj_cat, mj_st1, mj_st2, mj_clr, mj_nwi, mj_nwq, List.getElem?_cons_zero, List.getElem?_cons_succ, List.length_cons, List.length_nil, List.set_cons_zero, List.set_cons_succ, Value.category, decide_eq_true_eq, List.map_cons, List.map_nil, List.sum_cons, List.sum_nil, Option.toList, List.cons_append, List.nil_append, ite_true, ite_false, if_true, if_false, reduceCtorEq, true_and, and_true, narrow_i, narrow_l, narrow_r, narrow_n, fits_i, fits_l, fits_ro, fits_ra, fits_no, fits_na, Nat.reduceAdd, Nat.reduceLT, Nat.reduceLeDiff, Nat.reduceEqDiff, Nat.reduceSub, zero_add0, true_or, or_true, false_or, or_false, not_true_eq_false, not_false_eq_true, eq_self, i10, i01, im0, im1]
      exact h1 (Or.inr (Or.inl ⟨hd, hcl.mp hc⟩))
    · simp only [x_53_33, mw_nx, mw_no, mw_ite, mw_call, mw_ret, mw_cst, mw_ii, mw_i1, mw_ll, mw_l1, mw_li, mw_i2l, mw_l2i, mw_lcm, mw_if, mw_ic, mw_ifnN, mw_ifnR, mw_go, mw_dupi, mw_dupr, mw_popi, mw_popr, mw_nw, mw_rti, mw_rtl, mw_rtr, mw_rtn, mw_rtv, mw_rt0, mw_rt1, mj_ild, mj_lld, mj_ald, mj_ist, mj_lst, mj_ast, mj_inc, mj_iz, mj_get, mj_put, mj_len, mj_iar, mj_aar, mj_iaw, mj_aaw, mj_ivs, mj_ivv, mj_ivi, mj_ob, mj_tk, mj_cat, mj_st1, mj_st2, mj_clr, mj_nwi, mj_nwq, List.getElem?_cons_zero, List.getElem?_cons_succ, List.length_cons, List.length_nil, List.set_cons_zero, List.set_cons_succ, Value.category, decide_eq_true_eq, List.map_cons, List.map_nil, List.sum_cons, List.sum_nil, Option.toList, List.cons_append, List.nil_append, ite_true, ite_false, if_true, if_false, reduceCtorEq, true_and, and_true, narrow_i, narrow_l, narrow_r, narrow_n, fits_i, fits_l, fits_ro, fits_ra, fits_no, fits_na, Nat.reduceAdd, Nat.reduceLT, Nat.reduceLeDiff, Nat.reduceEqDiff, Nat.reduceSub, zero_add0, true_or, or_true, false_or, or_false, not_true_eq_false, not_false_eq_true, eq_self, i10, i01, im0, im1]
      refine h0 ?_
      rintro (q | ⟨-, q⟩ | ⟨q, -⟩)
      · exact nz q
      · exact hc (hcl.mpr q)
      · exact n3 q
  · have q0 := eq_false hd
    have e2 : (nI (C i).1 = 0) = ((C i).1 = 0) := propext (nI_eq (b := 0) (by omega) (by omega))
    by_cases hz : (C i).1 = 0
    · have q1 := eq_true hz
      simp only [x_53_0, x_53_1, x_53_2, x_53_5, x_53_6, x_53_7, x_53_10, x_53_11, x_53_12, x_53_13, x_53_16, x_53_19, x_53_20, x_53_21, x_53_24, x_53_25, x_53_28, x_53_29, x_53_30, x_53_33, x_53_34, x_53_35, x_53_38, x_53_41, x_53_42, x_53_43, x_53_46, x_53_49, x_53_50, x_53_51, x_53_52, x_53_55, x_53_58, x_53_59, x_53_62, x_53_63, mw_nx, mw_no, mw_ite, mw_call, mw_ret, mw_cst, mw_ii, mw_i1, mw_ll, mw_l1, mw_li, mw_i2l, mw_l2i, mw_lcm, mw_if, mw_ic, mw_ifnN, mw_ifnR, mw_go, mw_dupi, mw_dupr, mw_popi, mw_popr, mw_nw, mw_rti, mw_rtl, mw_rtr, mw_rtn, mw_rtv, mw_rt0, mw_rt1, mj_ild, mj_lld, mj_ald, mj_ist, mj_lst, mj_ast, mj_inc, mj_iz, mj_get, mj_put, mj_len, mj_iar, mj_aar, mj_iaw, mj_aaw, mj_ivs, mj_ivv, mj_ivi, mj_ob, mj_tk, mj_cat, mj_st1, mj_st2, mj_clr, mj_nwi, mj_nwq, List.getElem?_cons_zero, List.getElem?_cons_succ, List.length_cons, List.length_nil, List.set_cons_zero, List.set_cons_succ, Value.category, decide_eq_true_eq, List.map_cons, List.map_nil, List.sum_cons, List.sum_nil, Option.toList, List.cons_append, List.nil_append, ite_true, ite_false, if_true, if_false, reduceCtorEq, true_and, and_true, narrow_i, narrow_l, narrow_r, narrow_n, fits_i, fits_l, fits_ro, fits_ra, fits_no, fits_na, Nat.reduceAdd, Nat.reduceLT, Nat.reduceLeDiff, Nat.reduceEqDiff, Nat.reduceSub, zero_add0, true_or, or_true, false_or, or_false, not_true_eq_false, not_false_eq_true, eq_self, i10, i01, im0, im1, r1, c_at hr hk hi hpk, b1, c_isDerived b1 hs, q0, c_sort b1, e2, q1]
      exact h1 (Or.inl hz)
    · have q1 := eq_false hz
      have h3 : (C i).1 = 3 := by omega
      simp only [x_53_0, x_53_1, x_53_2, x_53_5, x_53_6, x_53_7, x_53_10, x_53_11, x_53_12, x_53_13, x_53_16, x_53_19, x_53_20, x_53_21, x_53_24, x_53_25, x_53_28, x_53_29, x_53_30, x_53_33, x_53_34, x_53_35, x_53_38, x_53_41, x_53_42, x_53_43, mw_nx, mw_no, mw_ite, mw_call, mw_ret, mw_cst, mw_ii, mw_i1, mw_ll, mw_l1, mw_li, mw_i2l, mw_l2i, mw_lcm, mw_if, mw_ic, mw_ifnN, mw_ifnR, mw_go, mw_dupi, mw_dupr, mw_popi, mw_popr, mw_nw, mw_rti, mw_rtl, mw_rtr, mw_rtn, mw_rtv, mw_rt0, mw_rt1, mj_ild, mj_lld, mj_ald, mj_ist, mj_lst, mj_ast, mj_inc, mj_iz, mj_get, mj_put, mj_len, mj_iar, mj_aar, mj_iaw, mj_aaw, mj_ivs, mj_ivv, mj_ivi, mj_ob, mj_tk, mj_cat, mj_st1, mj_st2, mj_clr, mj_nwi, mj_nwq, List.getElem?_cons_zero, List.getElem?_cons_succ, List.length_cons, List.length_nil, List.set_cons_zero, List.set_cons_succ, Value.category, decide_eq_true_eq, List.map_cons, List.map_nil, List.sum_cons, List.sum_nil, Option.toList, List.cons_append, List.nil_append, ite_true, ite_false, if_true, if_false, reduceCtorEq, true_and, and_true, narrow_i, narrow_l, narrow_r, narrow_n, fits_i, fits_l, fits_ro, fits_ra, fits_no, fits_na, Nat.reduceAdd, Nat.reduceLT, Nat.reduceLeDiff, Nat.reduceEqDiff, Nat.reduceSub, zero_add0, true_or, or_true, false_or, or_false, not_true_eq_false, not_false_eq_true, eq_self, i10, i01, im0, im1, r1, c_at hr hk hi hpk, b1, c_isDerived b1 hs, q0, c_sort b1, e2, q1]
      have hgiv : (∀ j, j < i → (C j).1 = 0 → ∃ c ∈ (C j).2, c ∈ (C i).2) ↔ ∀ gl ∈ pf_ah C i w, gl.1 = 0 → ∃ c ∈ gl.2, c ∈ (C i).2 := by
        constructor
        · intro q gl hg hg0
          obtain ⟨j, a1, a2, rfl⟩ := pf_ah_mem.mp hg
          exact q j a1 hg0
        · intro q j hj hj0
          exact q (C j) (pf_ah_mem.mpr ⟨j, hj, fun e => hw0 j hj e hj0, rfl⟩) hj0
      refine c_full hr p3 hn hlv h3 (fun hfu => ?_) (fun hfu => ?_)
      · simp only [x_53_46, x_53_49, x_53_50, x_53_51, x_53_52, mw_nx, mw_no, mw_ite, mw_call, mw_ret, mw_cst, mw_ii, mw_i1, mw_ll, mw_l1, mw_li, mw_i2l, mw_l2i, mw_lcm, mw_if, mw_ic, mw_ifnN, mw_ifnR, mw_go, mw_dupi, mw_dupr, mw_popi, mw_popr, mw_nw, mw_rti, mw_rtl, mw_rtr, mw_rtn, mw_rtv, mw_rt0, mw_rt1, mj_ild, mj_lld, mj_ald, mj_ist, mj_lst, mj_ast, mj_inc, mj_iz, mj_get, mj_put, mj_len, mj_iar, mj_aar, mj_iaw, mj_aaw, mj_ivs, mj_ivv, mj_ivi, mj_ob, mj_tk, mj_cat, mj_st1, mj_st2, mj_clr, mj_nwi, mj_nwq, List.getElem?_cons_zero, List.getElem?_cons_succ, List.length_cons, List.length_nil, List.set_cons_zero, List.set_cons_succ, Value.category, decide_eq_true_eq, List.map_cons, List.map_nil, List.sum_cons, List.sum_nil, Option.toList, List.cons_append, List.nil_append, ite_true, ite_false, if_true, if_false, reduceCtorEq, true_and, and_true, narrow_i, narrow_l, narrow_r, narrow_n, fits_i, fits_l, fits_ro, fits_ra, fits_no, fits_na, Nat.reduceAdd, Nat.reduceLT, Nat.reduceLeDiff, Nat.reduceEqDiff, Nat.reduceSub, zero_add0, true_or, or_true, false_or, or_false, not_true_eq_false, not_false_eq_true, eq_self, i10, i01, im0, im1, r1]
        refine c_meets hr hpk p3 (by omega) (fun hme => ?_) (fun hme => ?_)
        · simp only [x_53_55, x_53_58, x_53_59, x_53_62, x_53_63, mw_nx, mw_no, mw_ite, mw_call, mw_ret, mw_cst, mw_ii, mw_i1, mw_ll, mw_l1, mw_li, mw_i2l, mw_l2i, mw_lcm, mw_if, mw_ic, mw_ifnN, mw_ifnR, mw_go, mw_dupi, mw_dupr, mw_popi, mw_popr, mw_nw, mw_rti, mw_rtl, mw_rtr, mw_rtn, mw_rtv, mw_rt0, mw_rt1, mj_ild, mj_lld, mj_ald, mj_ist, mj_lst, mj_ast, mj_inc, mj_iz, mj_get, mj_put, mj_len, mj_iar, mj_aar, mj_iaw, mj_aaw, mj_ivs, mj_ivv, mj_ivi, mj_ob, mj_tk, mj_cat, mj_st1, mj_st2, mj_clr, mj_nwi, mj_nwq, List.getElem?_cons_zero, List.getElem?_cons_succ, List.length_cons, List.length_nil, List.set_cons_zero, List.set_cons_succ, Value.category, decide_eq_true_eq, List.map_cons, List.map_nil, List.sum_cons, List.sum_nil, Option.toList, List.cons_append, List.nil_append, ite_true, ite_false, if_true, if_false, reduceCtorEq, true_and, and_true, narrow_i, narrow_l, narrow_r, narrow_n, fits_i, fits_l, fits_ro, fits_ra, fits_no, fits_na, Nat.reduceAdd, Nat.reduceLT, Nat.reduceLeDiff, Nat.reduceEqDiff, Nat.reduceSub, zero_add0, true_or, or_true, false_or, or_false, not_true_eq_false, not_false_eq_true, eq_self, i10, i01, im0, im1]
          exact h1 (Or.inr (Or.inr ⟨h3, hfu, hgiv.mp hme⟩))
        · simp only [x_53_55, x_53_58, x_53_59, x_53_62, x_53_63, mw_nx, mw_no, mw_ite, mw_call, mw_ret, mw_cst, mw_ii, mw_i1, mw_ll, mw_l1, mw_li, mw_i2l, mw_l2i, mw_lcm, mw_if, mw_ic, mw_ifnN, mw_ifnR, mw_go, mw_dupi, mw_dupr, mw_popi, mw_popr, mw_nw, mw_rti, mw_rtl, mw_rtr, mw_rtn, mw_rtv, mw_rt0, mw_rt1, mj_ild, mj_lld, mj_ald, mj_ist, mj_lst, mj_ast, mj_inc, mj_iz, mj_get, mj_put, mj_len, mj_iar, mj_aar, mj_iaw, mj_aaw, mj_ivs, mj_ivv, mj_ivi, mj_ob, mj_tk, mj_cat, mj_st1, mj_st2, mj_clr, mj_nwi, mj_nwq, List.getElem?_cons_zero, List.getElem?_cons_succ, List.length_cons, List.length_nil, List.set_cons_zero, List.set_cons_succ, Value.category, decide_eq_true_eq, List.map_cons, List.map_nil, List.sum_cons, List.sum_nil, Option.toList, List.cons_append, List.nil_append, ite_true, ite_false, if_true, if_false, reduceCtorEq, true_and, and_true, narrow_i, narrow_l, narrow_r, narrow_n, fits_i, fits_l, fits_ro, fits_ra, fits_no, fits_na, Nat.reduceAdd, Nat.reduceLT, Nat.reduceLeDiff, Nat.reduceEqDiff, Nat.reduceSub, zero_add0, true_or, or_true, false_or, or_false, not_true_eq_false, not_false_eq_true, eq_self, i10, i01, im0, im1]
          refine h0 ?_
          rintro (q | ⟨q, -⟩ | ⟨-, -, q⟩)
          · exact hz q
          · exact hd q
          · exact hme (hgiv.mpr q)
      · simp only [x_53_46, x_53_49, x_53_50, x_53_51, x_53_52, x_53_55, x_53_58, x_53_59, x_53_62, x_53_63, mw_nx, mw_no, mw_ite, mw_call, mw_ret, mw_cst, mw_ii, mw_i1, mw_ll, mw_l1, mw_li, mw_i2l, mw_l2i, mw_lcm, mw_if, mw_ic, mw_ifnN, mw_ifnR, mw_go, mw_dupi, mw_dupr, mw_popi, mw_popr, mw_nw, mw_rti, mw_rtl, mw_rtr, mw_rtn, mw_rtv, mw_rt0, mw_rt1, mj_ild, mj_lld, mj_ald, mj_ist, mj_lst, mj_ast, mj_inc, mj_iz, mj_get, mj_put, mj_len, mj_iar, mj_aar, mj_iaw, mj_aaw, mj_ivs, mj_ivv, mj_ivi, mj_ob, mj_tk, mj_cat, mj_st1, mj_st2, mj_clr, mj_nwi, mj_nwq, List.getElem?_cons_zero, List.getElem?_cons_succ, List.length_cons, List.length_nil, List.set_cons_zero, List.set_cons_succ, Value.category, decide_eq_true_eq, List.map_cons, List.map_nil, List.sum_cons, List.sum_nil, Option.toList, List.cons_append, List.nil_append, ite_true, ite_false, if_true, if_false, reduceCtorEq, true_and, and_true, narrow_i, narrow_l, narrow_r, narrow_n, fits_i, fits_l, fits_ro, fits_ra, fits_no, fits_na, Nat.reduceAdd, Nat.reduceLT, Nat.reduceLeDiff, Nat.reduceEqDiff, Nat.reduceSub, zero_add0, true_or, or_true, false_or, or_false, not_true_eq_false, not_false_eq_true, eq_self, i10, i01, im0, im1]
        refine h0 ?_
        rintro (q | ⟨q, -⟩ | ⟨-, q, -⟩)
        · exact hz q
        · exact hd q
        · exact hfu q
end RT
