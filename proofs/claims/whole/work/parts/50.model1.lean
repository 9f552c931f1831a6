/-! The reference: its object at M, its arrays behind -/
abbrev mo_o (M n ln cm ul : Nat) (a b t : Int32) : va_E := .inr (4, [.int (nI n), .ref (M + 1), .ref (M + 2), .ref (M + 3), .int (nI ln), .ref (M + 4), .int (nI cm), .ref (M + 5), .int (nI ul), .int a, .int b, .int t, .ref (M + 6), .ref (M + 7)])
abbrev ma (z : Nat) (f : Nat → Int32) : va_E := .inl (0, z, .inl f)
abbrev mz (z : Nat) (f : Nat → Int32) : va_E := .inl (1, z, .inl f)
def rw_ok (fk fm fl : Nat → Int32) (i : Nat) (l : sp_Ln) : Prop := fk i = nI l.1 ∧ fm i = nI l.2.length ∧ (∀ j, j < l.2.length → fl (128 * i + j) = nI (l.2.getD j 0)) ∧ ln_ok l.2 ∧ l.1 ≤ 3
def rows (hp : mj_H) (M : Nat) (C : Nat → sp_Ln) : Prop := ∃ (fk fm fl : Nat → Int32), hp.1 (M + 1) = some (ma 160 fk) ∧ hp.1 (M + 2) = some (ma 160 fm) ∧ hp.1 (M + 3) = some (ma 20480 fl) ∧ ∀ i, i < 160 → rw_ok fk fm fl i (C i)
def mo_c (hp : mj_H) (M : Nat) (col : List Nat) : Prop := ∃ fc, hp.1 (M + 4) = some (ma 128 fc) ∧ (∀ j, j < col.length → fc j = nI (col.getD j 0)) ∧ ln_ok col
def mo_u (hp : mj_H) (M : Nat) (xs : List Nat) : Prop := ∃ fu, hp.1 (M + 5) = some (ma 4000 fu) ∧ (∀ j, j < xs.length → fu j = nI (xs.getD j 0)) ∧ xs.length ≤ 4000 ∧ ∀ c ∈ xs, c < 256
def mo_h (hp : mj_H) (M : Nat) : Prop := (∃ fh, hp.1 (M + 6) = some (mz 128 fh)) ∧ ∃ fr, hp.1 (M + 7) = some (mz 80 fr)
def mo_at (hp : mj_H) (M : Nat) (s : sp_S) : Prop := (1 ≤ s.1 ∧ s.1 ≤ 64) ∧ ∃ (a b t : Int32) (C : Nat → sp_Ln), hp.1 M = some (mo_o M s.1 s.2.2.1.length s.2.1.length s.2.2.2.length a b t) ∧ rows hp M C ∧ (List.range s.2.2.1.length).map C = s.2.2.1 ∧ s.2.2.1.length ≤ 80 ∧ (∀ l ∈ s.2.2.1, lv s.1 l) ∧ mo_c hp M s.2.1 ∧ (∀ c ∈ s.2.1, c < 2 * s.1) ∧ mo_u hp M s.2.2.2 ∧ mo_h hp M
theorem mw_d2ir {m n a : Nat} {L : mj_L} {st : List Value} {hp : mj_H} {Q : mj_Q} {x : Int32} : mj_wpR m L hp Q (mj_d2 n L (.int x :: .ref a :: st) hp) = mj_wp m n L (.int x :: .ref a :: .int x :: .ref a :: st) hp Q := rfl
theorem nz0 : (narrow .boolean (.int 0) = .int 0) = True := eq_true rfl
theorem nz1 : (narrow .boolean (.int 1) = .int 1) = True := eq_true rfl
theorem ix128 (i j : Nat) : (128 : Int32) * nI i + nI j = nI (128 * i + j) := by
  show nI 128 * nI i + nI j = _
  rw [pk_mul, nI_add]
theorem dbl (j : Nat) : (2 : Int32) * nI j = nI (2 * j) := pk_mul 2 j
theorem upd_at {f : Nat → Int32} {i : Nat} {x : Int32} : upd f i x i = x := by simp [upd]
theorem upd_off {f : Nat → Int32} {i j : Nat} {x : Int32} (h : j ≠ i) : upd f i x j = f j := by simp [upd, h]
theorem rw_set {fk fm fl fk' fm' fl' : Nat → Int32} {C : Nat → sp_Ln} {i0 : Nat} {l : sp_Ln} (h : ∀ i, i < 160 → rw_ok fk fm fl i (C i)) (h0 : rw_ok fk' fm' fl' i0 l) (hne : ∀ i, i ≠ i0 → fk' i = fk i ∧ fm' i = fm i ∧ ∀ j, j < 128 → fl' (128 * i + j) = fl (128 * i + j)) : ∀ i, i < 160 → rw_ok fk' fm' fl' i (va_up C i0 l i) := by
  intro i hi
  by_cases hii : i = i0
  · subst hii; rw [va_up_self]; exact h0
  · rw [va_up_ne _ _ hii]
    obtain ⟨a1, a2, a3, a4, a5⟩ := h i hi
    obtain ⟨b1, b2, b3⟩ := hne i hii
    have := ln_len a4
    exact ⟨b1.trans a1, b2.trans a2, fun j hj => (b3 j (by omega)).trans (a3 j hj), a4, a5⟩
theorem rows.keep {hp hp' : mj_H} {M : Nat} {C : Nat → sp_Ln} (h : rows hp M C) (h1 : hp'.1 (M + 1) = hp.1 (M + 1)) (h2 : hp'.1 (M + 2) = hp.1 (M + 2)) (h3 : hp'.1 (M + 3) = hp.1 (M + 3)) : rows hp' M C := by
  obtain ⟨fk, fm, fl, a1, a2, a3, a4⟩ := h
  exact ⟨fk, fm, fl, h1.trans a1, h2.trans a2, h3.trans a3, a4⟩
theorem rows.ok {hp : mj_H} {M i : Nat} {C : Nat → sp_Ln} (h : rows hp M C) (hi : i < 160) : ln_ok (C i).2 ∧ (C i).1 ≤ 3 := by
  obtain ⟨fk, fm, fl, a1, a2, a3, a4⟩ := h
  exact ⟨(a4 i hi).2.2.2.1, (a4 i hi).2.2.2.2⟩
theorem mo_c.keep {hp hp' : mj_H} {M : Nat} {col : List Nat} (h : mo_c hp M col) (h4 : hp'.1 (M + 4) = hp.1 (M + 4)) : mo_c hp' M col := by
  obtain ⟨f, a1, a2⟩ := h
  exact ⟨f, h4.trans a1, a2⟩
theorem mo_u.keep {hp hp' : mj_H} {M : Nat} {xs : List Nat} (h : mo_u hp M xs) (h5 : hp'.1 (M + 5) = hp.1 (M + 5)) : mo_u hp' M xs := by
  obtain ⟨f, a1, a2⟩ := h
  exact ⟨f, h5.trans a1, a2⟩
theorem mo_h.keep {hp hp' : mj_H} {M : Nat} (h : mo_h hp M) (h6 : hp'.1 (M + 6) = hp.1 (M + 6)) (h7 : hp'.1 (M + 7) = hp.1 (M + 7)) : mo_h hp' M := ⟨by obtain ⟨⟨f, a1⟩, -⟩ := h; exact ⟨f, h6.trans a1⟩, by obtain ⟨-, f, a1⟩ := h; exact ⟨f, h7.trans a1⟩⟩
section MO
variable {hp : mj_H} {Q : mj_Q} {M n ln cm ul : Nat} {a b t : Int32} {C : Nat → sp_Ln}
theorem m_isThing (x : Int32) (h : hp.1 M = some (mo_o M n ln cm ul a b t)) : mj_call 75 [.ref M, .int x] hp Q = Q (some (.int (if 0 ≤ x ∧ x < nI n then 1 else 0))) hp := by
  rw [en_75]
  simp only [x_75_0, x_75_1, x_75_4, x_75_5, x_75_6, x_75_9, x_75_12, x_75_13, x_75_16, x_75_17, mw_nx, mw_no, mw_ite, mw_call, mw_ret, mw_cst, mw_ii, mw_i1, mw_ll, mw_l1, mw_li, mw_i2l, mw_l2i, mw_lcm, mw_if, mw_ic, mw_ifnN, mw_ifnR, mw_go, mw_dupi, mw_dupr, mw_popi, mw_popr, mw_nw, mw_rti, mw_rtl, mw_rtr, mw_rtn, mw_rtv, mw_rt0, mw_rt1, mj_ild, mj_lld, mj_ald, mj_ist, mj_lst, mj_ast, mj_inc, mj_iz, mj_get, mj_put, mj_len, mj_iar, mj_aar, mj_iaw, mj_aaw, mj_ivs, mj_ivv, mj_ivi, mj_ob, mj_tk, mj_cat, mj_st1, mj_st2, mj_clr, mj_nwi, mj_nwq, List.getElem?_cons_zero, List.getElem?_cons_succ, List.length_cons, List.length_nil, List.set_cons_zero, List.set_cons_succ, Value.category, decide_eq_true_eq, List.map_cons, List.map_nil, List.sum_cons, List.sum_nil, Option.toList, List.cons_append, List.nil_append, ite_true, ite_false, if_true, if_false, reduceCtorEq, true_and, and_true, narrow_i, narrow_l, narrow_r, narrow_n, fits_i, fits_l, fits_ro, fits_ra, fits_no, fits_na, Nat.reduceAdd, Nat.reduceLT, Nat.reduceLeDiff, Nat.reduceEqDiff, Nat.reduceSub, zero_add0, true_or, or_true, false_or, or_false, not_true_eq_false, not_false_eq_true, eq_self, i10, i01, im0, im1, h]
  by_cases h1 : x < 0
  · have h3 : ¬ 0 ≤ x := by rw [Int32.le_iff_toInt_le]; rw [Int32.lt_iff_toInt_lt] at h1; omega
    simp [h1, h3]
  · have h3 : 0 ≤ x := by rw [Int32.le_iff_toInt_le]; rw [Int32.lt_iff_toInt_lt] at h1; omega
    by_cases h2 : nI n ≤ x
    · have h4 : ¬ x < nI n := by rw [Int32.lt_iff_toInt_lt]; rw [Int32.le_iff_toInt_le] at h2; omega
      simp [h1, h2, h4]
    · have h4 : x < nI n := by rw [Int32.lt_iff_toInt_lt]; rw [Int32.le_iff_toInt_le] at h2; omega
      simp [h1, h2, h3, h4]
theorem m_litOf (t z : Int32) (hp : mj_H) (Q : mj_Q) : mj_call 76 [.int t, .int z] hp Q = Q (some (.int (2 * t + (if z = 0 then 0 else 1)))) hp := by
  rw [en_76]
  simp only [x_76_0, x_76_1, x_76_2, x_76_3, x_76_4, x_76_7, x_76_8, x_76_11, x_76_12, x_76_13, mw_nx, mw_no, mw_ite, mw_call, mw_ret, mw_cst, mw_ii, mw_i1, mw_ll, mw_l1, mw_li, mw_i2l, mw_l2i, mw_lcm, mw_if, mw_ic, mw_ifnN, mw_ifnR, mw_go, mw_dupi, mw_dupr, mw_popi, mw_popr, mw_nw, mw_rti, mw_rtl, mw_rtr, mw_rtn, mw_rtv, mw_rt0, mw_rt1, mj_ild, mj_lld, mj_ald, mj_ist, mj_lst, mj_ast, mj_inc, mj_iz, mj_get, mj_put, mj_len, mj_iar, mj_aar, mj_iaw, mj_aaw, mj_ivs, mj_ivv, mj_ivi, mj_ob, mj_tk, mj_cat, mj_st1, mj_st2, mj_clr, mj_nwi, mj_nwq, List.getElem?_cons_zero, List.getElem?_cons_succ, List.length_cons, List.length_nil, List.set_cons_zero, List.set_cons_succ, Value.category, decide_eq_true_eq, List.map_cons, List.map_nil, List.sum_cons, List.sum_nil, Option.toList, List.cons_append, List.nil_append, ite_true, ite_false, if_true, if_false, reduceCtorEq, true_and, and_true, narrow_i, narrow_l, narrow_r, narrow_n, fits_i, fits_l, fits_ro, fits_ra, fits_no, fits_na, Nat.reduceAdd, Nat.reduceLT, Nat.reduceLeDiff, Nat.reduceEqDiff, Nat.reduceSub, zero_add0, true_or, or_true, false_or, or_false, not_true_eq_false, not_false_eq_true, eq_self, i10, i01, im0, im1]
  split <;> rfl
theorem m_hasI (h : hp.1 M = some (mo_o M n ln cm ul a b t)) (hr : rows hp M C) {i k : Nat} (hi : i < 160) (hk : k < 2 ^ 31) (h1 : k ∈ (C i).2 → Q (some (.int 1)) hp) (h0 : ¬ k ∈ (C i).2 → Q (some (.int 0)) hp) : mj_call 77 [.ref M, .int (nI i), .int (nI k)] hp Q := by
  obtain ⟨fk, fm, fl, r1, r2, r3, r4⟩ := hr
  obtain ⟨a1, a2, a3, a4, a5⟩ := r4 i hi
  have hlen := ln_len a4
  have i0 : ¬ nI i < 0 := nI_pos (by omega)
  have i1 : (nI i).toNatClampNeg = i := nI_clamp (by omega)
  have i2 : ¬ 160 ≤ i := by omega
  have key : ∀ (rest done : List Nat), (C i).2 = done ++ rest → ¬ k ∈ done → mj_wp 77 2 [some (.ref M), some (.int (nI i)), some (.int (nI k)), some (.int (nI done.length))] [] hp Q := by
    intro rest
    induction rest with
    | nil =>
      intro done hd hno
      rw [List.append_nil] at hd
      have e1 : nI (C i).2.length ≤ nI done.length := by rw [hd]; exact nI_le (Nat.le_refl _) (by rw [hd] at hlen; omega)
      rw [x_77_2]
      simp only [x_77_3, x_77_4, x_77_7, x_77_8, x_77_9, x_77_36, x_77_37, mw_nx, mw_no, mw_ite, mw_call, mw_ret, mw_cst, mw_ii, mw_i1, mw_ll, mw_l1, mw_li, mw_i2l, mw_l2i, mw_lcm, mw_if, mw_ic, mw_ifnN, mw_ifnR, mw_go, mw_dupi, mw_dupr, mw_popi, mw_popr, mw_nw, mw_rti, mw_rtl, mw_rtr, mw_rtn, mw_rtv, mw_rt0, mw_rt1, mj_ild, mj_lld, mj_ald, mj_ist, mj_lst, mj_ast, mj_inc, mj_iz, mj_get, mj_put, mj_len, mj_iar, mj_aar, mj_iaw, mj_aaw, mj_ivs, mj_ivv, mj_ivi, mj_ob, mj_tk, mj_cat, mj_st1, mj_st2, mj_clr, mj_nwi, mj_nwq, List.getElem?_cons_zero, List.getElem?_cons_succ, List.length_cons, List.length_nil, List.set_cons_zero, List.set_cons_succ, Value.category, decide_eq_true_eq, List.map_cons, List.map_nil, List.sum_cons, List.sum_nil, Option.toList, List.cons_append, List.nil_append, ite_true, ite_false, if_true, if_false, reduceCtorEq, true_and, and_true, narrow_i, narrow_l, narrow_r, narrow_n, fits_i, fits_l, fits_ro, fits_ra, fits_no, fits_na, Nat.reduceAdd, Nat.reduceLT, Nat.reduceLeDiff, Nat.reduceEqDiff, Nat.reduceSub, zero_add0, true_or, or_true, false_or, or_false, not_true_eq_false, not_false_eq_true, eq_self, i10, i01, im0, im1, h, r2, at_0, i0, i1, i2, a2, e1]
      exact h0 (by rw [hd]; exact hno)
    | cons c rest ih =>
      intro done hd hno
      have hlt : done.length < (C i).2.length := by rw [hd]; simp
      have hc : (C i).2.getD done.length 0 = c := by rw [hd]; simp [List.getD_eq_getElem?_getD]
      have hc2 : c < 128 := a4.2 c (by rw [hd]; simp)
      have e1 : ¬ nI (C i).2.length ≤ nI done.length := nI_ge hlt (by omega)
      have j0 : ¬ nI (128 * i + done.length) < 0 := nI_pos (by omega)
      have j1 : (nI (128 * i + done.length)).toNatClampNeg = 128 * i + done.length := nI_clamp (by omega)
      have j2 : ¬ 20480 ≤ 128 * i + done.length := by omega
      have e2 : fl (128 * i + done.length) = nI c := by rw [a3 _ hlt, hc]
      have e3 : (nI c = nI k) = (c = k) := propext (nI_eq (by omega) hk)
      rw [x_77_2]
      by_cases w : c = k
      · have q := eq_true w
        simp only [x_77_3, x_77_4, x_77_7, x_77_8, x_77_9, x_77_12, x_77_13, x_77_16, x_77_19, x_77_20, x_77_21, x_77_22, x_77_23, x_77_24, x_77_25, x_77_28, x_77_29, mw_nx, mw_no, mw_ite, mw_call, mw_ret, mw_cst, mw_ii, mw_i1, mw_ll, mw_l1, mw_li, mw_i2l, mw_l2i, mw_lcm, mw_if, mw_ic, mw_ifnN, mw_ifnR, mw_go, mw_dupi, mw_dupr, mw_popi, mw_popr, mw_nw, mw_rti, mw_rtl, mw_rtr, mw_rtn, mw_rtv, mw_rt0, mw_rt1, mj_ild, mj_lld, mj_ald, mj_ist, mj_lst, mj_ast, mj_inc, mj_iz, mj_get, mj_put, mj_len, mj_iar, mj_aar, mj_iaw, mj_aaw, mj_ivs, mj_ivv, mj_ivi, mj_ob, mj_tk, mj_cat, mj_st1, mj_st2, mj_clr, mj_nwi, mj_nwq, List.getElem?_cons_zero, List.getElem?_cons_succ, List.length_cons, List.length_nil, List.set_cons_zero, List.set_cons_succ, Value.category, decide_eq_true_eq, List.map_cons, List.map_nil, List.sum_cons, List.sum_nil, Option.toList, List.cons_append, List.nil_append, ite_true, ite_false, if_true, if_false, reduceCtorEq, true_and, and_true, narrow_i, narrow_l, narrow_r, narrow_n, fits_i, fits_l, fits_ro, fits_ra, fits_no, fits_na, Nat.reduceAdd, Nat.reduceLT, Nat.reduceLeDiff, Nat.reduceEqDiff, Nat.reduceSub, zero_add0, true_or, or_true, false_or, or_false, not_true_eq_false, not_false_eq_true, eq_self, i10, i01, im0, im1, h, r2, r3, at_0, i0, i1, i2, a2, e1, ix128, j0, j1, j2, e2, e3, q]
        exact h1 (by rw [hd, ← w]; simp)
      · have q := eq_false w
        simp only [x_77_3, x_77_4, x_77_7, x_77_8, x_77_9, x_77_12, x_77_13, x_77_16, x_77_19, x_77_20, x_77_21, x_77_22, x_77_23, x_77_24, x_77_25, x_77_28, x_77_29, x_77_30, x_77_33, mw_nx, mw_no, mw_ite, mw_call, mw_ret, mw_cst, mw_ii, mw_i1, mw_ll, mw_l1, mw_li, mw_i2l, mw_l2i, mw_lcm, mw_if, mw_ic, mw_ifnN, mw_ifnR, mw_go, mw_dupi, mw_dupr, mw_popi, mw_popr, mw_nw, mw_rti, mw_rtl, mw_rtr, mw_rtn, mw_rtv, mw_rt0, mw_rt1, mj_ild, mj_lld, mj_ald, mj_ist, mj_lst, mj_ast, mj_inc, mj_iz, mj_get, mj_put, mj_len, mj_iar, mj_aar, mj_iaw, mj_aaw, mj_ivs, mj_ivv, mj_ivi, mj_ob, mj_tk, mj_cat, mj_st1, mj_st2, mj_clr, mj_nwi, mj_nwq, List.getElem?_cons_zero, List.getElem?_cons_succ, List.length_cons, List.length_nil, List.set_cons_zero, List.set_cons_succ, Value.category, decide_eq_true_eq, List.map_cons, List.map_nil, List.sum_cons, List.sum_nil, Option.toList, List.cons_append, List.nil_append, ite_true, ite_false, if_true, if_false, reduceCtorEq, true_and, and_true, narrow_i, narrow_l, narrow_r, narrow_n, fits_i, fits_l, fits_ro, fits_ra, fits_no, fits_na, Nat.reduceAdd, Nat.reduceLT, Nat.reduceLeDiff, Nat.reduceEqDiff, Nat.reduceSub, zero_add0, true_or, or_true, false_or, or_false, not_true_eq_false, not_false_eq_true, eq_self, i10, i01, im0, im1, h, r2, r3, at_0, i0, i1, i2, a2, e1, ix128, j0, j1, j2, e2, e3, q, nI_1]
        have := ih (done ++ [c]) (by rw [hd]; simp) (by
          intro hm
          rcases List.mem_append.mp hm with z | z
          · exact hno z
          · rw [List.mem_singleton] at z; exact w z.symm)
        simpa using this
  rw [en_77]
  simp only [x_77_0, x_77_1, mw_nx, mw_no, mw_ite, mw_call, mw_ret, mw_cst, mw_ii, mw_i1, mw_ll, mw_l1, mw_li, mw_i2l, mw_l2i, mw_lcm, mw_if, mw_ic, mw_ifnN, mw_ifnR, mw_go, mw_dupi, mw_dupr, mw_popi, mw_popr, mw_nw, mw_rti, mw_rtl, mw_rtr, mw_rtn, mw_rtv, mw_rt0, mw_rt1, mj_ild, mj_lld, mj_ald, mj_ist, mj_lst, mj_ast, mj_inc, mj_iz, mj_get, mj_put, mj_len, mj_iar, mj_aar, mj_iaw, mj_aaw, mj_ivs, mj_ivv, mj_ivi, mj_ob, mj_tk, mj_cat, mj_st1, mj_st2, mj_clr, mj_nwi, mj_nwq, List.getElem?_cons_zero, List.getElem?_cons_succ, List.length_cons, List.length_nil, List.set_cons_zero, List.set_cons_succ, Value.category, decide_eq_true_eq, List.map_cons, List.map_nil, List.sum_cons, List.sum_nil, Option.toList, List.cons_append, List.nil_append, ite_true, ite_false, if_true, if_false, reduceCtorEq, true_and, and_true, narrow_i, narrow_l, narrow_r, narrow_n, fits_i, fits_l, fits_ro, fits_ra, fits_no, fits_na, Nat.reduceAdd, Nat.reduceLT, Nat.reduceLeDiff, Nat.reduceEqDiff, Nat.reduceSub, zero_add0, true_or, or_true, false_or, or_false, not_true_eq_false, not_false_eq_true, eq_self, i10, i01, im0, im1]
  exact key (C i).2 [] rfl List.not_mem_nil
theorem m_has (h : hp.1 M = some (mo_o M n ln cm ul a b t)) (hr : rows hp M C) {i k : Nat} (hi : i < 160) (hk : k < 2 ^ 31) : mj_call 77 [.ref M, .int (nI i), .int (nI k)] hp Q = Q (some (.int (if k ∈ (C i).2 then 1 else 0))) hp := mj_call_det (m_hasI h hr hi hk (fun q => by rw [if_pos q]; exact ⟨rfl, rfl⟩) (fun q => by rw [if_neg q]; exact ⟨rfl, rfl⟩)) Q
theorem m_add (h : hp.1 M = some (mo_o M n ln cm ul a b t)) (hr : rows hp M C) {i k : Nat} (hi : i < 160) (hk : k < 128) (hno : ¬ k ∈ (C i).2) (hQ : ∀ hp' : mj_H, rows hp' M (va_up C i ((C i).1, (C i).2 ++ [k])) → sm hp hp' (M + 1) (M + 4) → Q none hp') : mj_call 78 [.ref M, .int (nI i), .int (nI k)] hp Q := by
  obtain ⟨fk, fm, fl, r1, r2, r3, r4⟩ := hr
  obtain ⟨a1, a2, a3, a4, a5⟩ := r4 i hi
  have hlen := ln_len1 a4 hk hno
  have i0 : ¬ nI i < 0 := nI_pos (by omega)
  have i1 : (nI i).toNatClampNeg = i := nI_clamp (by omega)
  have i2 : ¬ 160 ≤ i := by omega
  have j0 : ¬ nI (128 * i + (C i).2.length) < 0 := nI_pos (by omega)
  have j1 : (nI (128 * i + (C i).2.length)).toNatClampNeg = 128 * i + (C i).2.length := nI_clamp (by omega)
  have j2 : ¬ 20480 ≤ 128 * i + (C i).2.length := by omega
  rw [en_78]
  simp only [x_78_0, x_78_1, x_78_4, x_78_7, x_78_8, x_78_9, x_78_10, x_78_13, x_78_14, x_78_15, x_78_16, x_78_17, x_78_18, x_78_19, x_78_22, x_78_23, x_78_24, x_78_25, x_78_26, x_78_27, x_78_28, mw_nx, mw_no, mw_ite, mw_call, mw_ret, mw_cst, mw_ii, mw_i1, mw_ll, mw_l1, mw_li, mw_i2l, mw_l2i, mw_lcm, mw_if, mw_ic, mw_ifnN, mw_ifnR, mw_go, mw_dupi, mw_dupr, mw_popi, mw_popr, mw_nw, mw_rti, mw_rtl, mw_rtr, mw_rtn, mw_rtv, mw_rt0, mw_rt1, mj_ild, mj_lld, mj_ald, mj_ist, mj_lst, mj_ast, mj_inc, mj_iz, mj_get, mj_put, mj_len, mj_iar, mj_aar, mj_iaw, mj_aaw, mj_ivs, mj_ivv, mj_ivi, mj_ob, mj_tk, mj_cat, mj_st1, mj_st2, mj_clr, mj_nwi, mj_nwq, List.getElem?_cons_zero, List.getElem?_cons_succ, List.length_cons, List.length_nil, List.set_cons_zero, List.set_cons_succ, Value.category, decide_eq_true_eq, List.map_cons, List.map_nil, List.sum_cons, List.sum_nil, Option.toList, List.cons_append, List.nil_append, ite_true, ite_false, if_true, if_false, reduceCtorEq, true_and, and_true, narrow_i, narrow_l, narrow_r, narrow_n, fits_i, fits_l, fits_ro, fits_ra, fits_no, fits_na, Nat.reduceAdd, Nat.reduceLT, Nat.reduceLeDiff, Nat.reduceEqDiff, Nat.reduceSub, zero_add0, true_or, or_true, false_or, or_false, not_true_eq_false, not_false_eq_true, eq_self, i10, i01, im0, im1, mw_d2ir, h, r2, r3, at_0, i0, i1, i2, a2, ix128, j0, j1, j2, u_0_1, u_0_2, u_0_3, u_0_4, u_0_5, u_0_6, u_0_7, u_1_0, u_1_2, u_1_3, u_1_4, u_1_5, u_1_6, u_1_7, u_2_0, u_2_1, u_2_3, u_2_4, u_2_5, u_2_6, u_2_7, u_3_0, u_3_1, u_3_2, u_3_4, u_3_5, u_3_6, u_3_7, u_4_0, u_4_1, u_4_2, u_4_3, u_4_5, u_4_6, u_4_7, u_5_0, u_5_1, u_5_2, u_5_3, u_5_4, u_5_6, u_5_7, u_6_0, u_6_1, u_6_2, u_6_3, u_6_4, u_6_5, u_6_7, u_7_0, u_7_1, u_7_2, u_7_3, u_7_4, u_7_5, u_7_6, nI_1]
  refine hQ _ ⟨fk, upd fm i (nI ((C i).2.length + 1)), upd fl (128 * i + (C i).2.length) (nI k), ?_, ?_, ?_, rw_set r4 ⟨a1, ?_, fun j hj => ?_, ln_ok_add a4 hk hno, a5⟩ (fun i' hne => ⟨rfl, upd_off hne, fun j hj => upd_off (by omega)⟩)⟩ ((sm.up (by omega) (by omega)).tr (sm.up (by omega) (by omega)))
  · rw [u_2_1, u_3_1]; exact r1
  · rw [mj_up_at]
  · rw [u_2_3, mj_up_at]
  · rw [upd_at]; simp
  · dsimp only at hj ⊢
    by_cases hj2 : j = (C i).2.length
    · subst hj2
      rw [upd_at]
      simp
    · have hj3 : j < (C i).2.length := by simp at hj; omega
      rw [upd_off (by omega), a3 j hj3, getD_app_l hj3]
theorem m_newLine (h : hp.1 M = some (mo_o M n ln cm ul a b t)) (hr : rows hp M C) (hl : ln ≤ 80) {s : Nat} (hs : s ≤ 3) (hf : ln = 80 → Q (some (.int (-1))) hp) (ht : ln < 80 → ∀ hp' : mj_H, hp'.1 M = some (mo_o M n (ln + 1) cm ul a b t) → rows hp' M (va_up C ln (s, [])) → sm hp hp' M (M + 4) → Q (some (.int (nI ln))) hp') : mj_call 79 [.ref M, .int (nI s)] hp Q := by
  obtain ⟨fk, fm, fl, r1, r2, r3, r4⟩ := hr
  have e1 : (nI ln = 80) = (ln = 80) := propext (nI_eq (b := 80) (by omega) (by omega))
  rw [en_79]
  by_cases w : ln = 80
  · have q := eq_true w
    simp only [x_79_0, x_79_1, x_79_4, x_79_6, x_79_9, x_79_10, mw_nx, mw_no, mw_ite, mw_call, mw_ret, mw_cst, mw_ii, mw_i1, mw_ll, mw_l1, mw_li, mw_i2l, mw_l2i, mw_lcm, mw_if, mw_ic, mw_ifnN, mw_ifnR, mw_go, mw_dupi, mw_dupr, mw_popi, mw_popr, mw_nw, mw_rti, mw_rtl, mw_rtr, mw_rtn, mw_rtv, mw_rt0, mw_rt1, mj_ild, mj_lld, mj_ald, mj_ist, mj_lst, mj_ast, mj_inc, mj_iz, mj_get, mj_put, mj_len, mj_iar, mj_aar, mj_iaw, mj_aaw, mj_ivs, mj_ivv, mj_ivi, mj_ob, mj_tk, mj_cat, mj_st1, mj_st2, mj_clr, mj_nwi, mj_nwq, List.getElem?_cons_zero, List.getElem?_cons_succ, List.length_cons, List.length_nil, List.set_cons_zero, List.set_cons_succ, Value.category, decide_eq_true_eq, List.map_cons, List.map_nil, List.sum_cons, List.sum_nil, Option.toList, List.cons_append, List.nil_append, ite_true, ite_false, if_true, if_false, reduceCtorEq, true_and, and_true, narrow_i, narrow_l, narrow_r, narrow_n, fits_i, fits_l, fits_ro, fits_ra, fits_no, fits_na, Nat.reduceAdd, Nat.reduceLT, Nat.reduceLeDiff, Nat.reduceEqDiff, Nat.reduceSub, zero_add0, true_or, or_true, false_or, or_false, not_true_eq_false, not_false_eq_true, eq_self, i10, i01, im0, im1, h, e1, q]
    exact hf w
  · have q := eq_false w
    have i0 : ¬ nI ln < 0 := nI_pos (by omega)
    have i1 : (nI ln).toNatClampNeg = ln := nI_clamp (by omega)
    have i2 : ¬ 160 ≤ ln := by omega
    simp only [x_79_0, x_79_1, x_79_4, x_79_6, x_79_9, x_79_10, x_79_11, x_79_12, x_79_15, x_79_16, x_79_19, x_79_20, x_79_21, x_79_22, x_79_25, x_79_26, x_79_29, x_79_30, x_79_31, x_79_32, x_79_33, x_79_36, x_79_37, x_79_38, x_79_41, x_79_42, x_79_45, x_79_46, x_79_47, mw_nx, mw_no, mw_ite, mw_call, mw_ret, mw_cst, mw_ii, mw_i1, mw_ll, mw_l1, mw_li, mw_i2l, mw_l2i, mw_lcm, mw_if, mw_ic, mw_ifnN, mw_ifnR, mw_go, mw_dupi, mw_dupr, mw_popi, mw_popr, mw_nw, mw_rti, mw_rtl, mw_rtr, mw_rtn, mw_rtv, mw_rt0, mw_rt1, mj_ild, mj_lld, mj_ald, mj_ist, mj_lst, mj_ast, mj_inc, mj_iz, mj_get, mj_put, mj_len, mj_iar, mj_aar, mj_iaw, mj_aaw, mj_ivs, mj_ivv, mj_ivi, mj_ob, mj_tk, mj_cat, mj_st1, mj_st2, mj_clr, mj_nwi, mj_nwq, List.getElem?_cons_zero, List.getElem?_cons_succ, List.length_cons, List.length_nil, List.set_cons_zero, List.set_cons_succ, Value.category, decide_eq_true_eq, List.map_cons, List.map_nil, List.sum_cons, List.sum_nil, Option.toList, List.cons_append, List.nil_append, ite_true, ite_false, if_true, if_false, reduceCtorEq, true_and, and_true, narrow_i, narrow_l, narrow_r, narrow_n, fits_i, fits_l, fits_ro, fits_ra, fits_no, fits_na, Nat.reduceAdd, Nat.reduceLT, Nat.reduceLeDiff, Nat.reduceEqDiff, Nat.reduceSub, zero_add0, true_or, or_true, false_or, or_false, not_true_eq_false, not_false_eq_true, eq_self, i10, i01, im0, im1, h, r1, r2, e1, q, at_0, i0, i1, i2, u_0_1, u_0_2, u_0_3, u_0_4, u_0_5, u_0_6, u_0_7, u_1_0, u_1_2, u_1_3, u_1_4, u_1_5, u_1_6, u_1_7, u_2_0, u_2_1, u_2_3, u_2_4, u_2_5, u_2_6, u_2_7, u_3_0, u_3_1, u_3_2, u_3_4, u_3_5, u_3_6, u_3_7, u_4_0, u_4_1, u_4_2, u_4_3, u_4_5, u_4_6, u_4_7, u_5_0, u_5_1, u_5_2, u_5_3, u_5_4, u_5_6, u_5_7, u_6_0, u_6_1, u_6_2, u_6_3, u_6_4, u_6_5, u_6_7, u_7_0, u_7_1, u_7_2, u_7_3, u_7_4, u_7_5, u_7_6, nI_1, mj_up_at, nI_pred]
    refine ht (by omega) _ mj_up_at ⟨upd fk ln (nI s), upd fm ln 0, fl, ?_, ?_, ?_, rw_set r4 ⟨upd_at, upd_at, fun j hj => absurd hj (by simp), ⟨List.nodup_nil, fun c hc => absurd hc List.not_mem_nil⟩, hs⟩ (fun i' hne => ⟨upd_off hne, upd_off hne, fun j hj => rfl⟩)⟩ (((sm.up (by omega) (by omega)).tr (sm.up (by omega) (by omega))).tr (sm.up (by omega) (by omega)))
    · rw [u_0_1, u_2_1, mj_up_at]
    · rw [u_0_2, mj_up_at]
    · rw [u_0_3, u_2_3, u_1_3]; exact r3
theorem m_isLast (h : hp.1 M = some (mo_o M n ln cm ul a b t)) (hr : rows hp M C) (hl : ln ≤ 80) (x : Int32) {s : Nat} (hs : s ≤ 3) : mj_call 82 [.ref M, .int x, .int (nI s)] hp Q = Q (some (.int (if 0 < ln ∧ x = nI (ln - 1) ∧ (C (ln - 1)).1 = s then 1 else 0))) hp := by
  obtain ⟨fk, fm, fl, r1, r2, r3, r4⟩ := hr
  rw [en_82]
  by_cases x0 : x < 0
  · have w : ¬ (0 < ln ∧ x = nI (ln - 1) ∧ (C (ln - 1)).1 = s) := by
      rintro ⟨q1, q2, -⟩
      rw [q2] at x0
      exact nI_pos (by omega) x0
    rw [if_neg w]
    simp only [x_82_0, x_82_1, x_82_4, x_82_5, x_82_6, x_82_9, x_82_10, x_82_11, x_82_14, x_82_15, x_82_18, x_82_19, x_82_20, x_82_21, x_82_24, x_82_25, x_82_28, x_82_29, mw_nx, mw_no, mw_ite, mw_call, mw_ret, mw_cst, mw_ii, mw_i1, mw_ll, mw_l1, mw_li, mw_i2l, mw_l2i, mw_lcm, mw_if, mw_ic, mw_ifnN, mw_ifnR, mw_go, mw_dupi, mw_dupr, mw_popi, mw_popr, mw_nw, mw_rti, mw_rtl, mw_rtr, mw_rtn, mw_rtv, mw_rt0, mw_rt1, mj_ild, mj_lld, mj_ald, mj_ist, mj_lst, mj_ast, mj_inc, mj_iz, mj_get, mj_put, mj_len, mj_iar, mj_aar, mj_iaw, mj_aaw, mj_ivs, mj_ivv, mj_ivi, mj_ob, mj_tk, mj_cat, mj_st1, mj_st2, mj_clr, mj_nwi, mj_nwq, List.getElem?_cons_zero, List.getElem?_cons_succ, List.length_cons, List.length_nil, List.set_cons_zero, List.set_cons_succ, Value.category, decide_eq_true_eq, List.map_cons, List.map_nil, List.sum_cons, List.sum_nil, Option.toList, List.cons_append, List.nil_append, ite_true, ite_false, if_true, if_false, reduceCtorEq, true_and, and_true, narrow_i, narrow_l, narrow_r, narrow_n, fits_i, fits_l, fits_ro, fits_ra, fits_no, fits_na, Nat.reduceAdd, Nat.reduceLT, Nat.reduceLeDiff, Nat.reduceEqDiff, Nat.reduceSub, zero_add0, true_or, or_true, false_or, or_false, not_true_eq_false, not_false_eq_true, eq_self, i10, i01, im0, im1, x0]
  · by_cases hl0 : ln = 0
    · subst hl0
      have e1 : nI 0 - 1 = -1 := rfl
      have e2 : ¬ x = -1 := fun q => x0 (by rw [q]; decide)
      rw [if_neg (by omega)]
      simp only [x_82_0, x_82_1, x_82_4, x_82_5, x_82_6, x_82_9, x_82_10, x_82_11, x_82_14, x_82_15, x_82_18, x_82_19, x_82_20, x_82_21, x_82_24, x_82_25, x_82_28, x_82_29, mw_nx, mw_no, mw_ite, mw_call, mw_ret, mw_cst, mw_ii, mw_i1, mw_ll, mw_l1, mw_li, mw_i2l, mw_l2i, mw_lcm, mw_if, mw_ic, mw_ifnN, mw_ifnR, mw_go, mw_dupi, mw_dupr, mw_popi, mw_popr, mw_nw, mw_rti, mw_rtl, mw_rtr, mw_rtn, mw_rtv, mw_rt0, mw_rt1, mj_ild, mj_lld, mj_ald, mj_ist, mj_lst, mj_ast, mj_inc, mj_iz, mj_get, mj_put, mj_len, mj_iar, mj_aar, mj_iaw, mj_aaw, mj_ivs, mj_ivv, mj_ivi, mj_ob, mj_tk, mj_cat, mj_st1, mj_st2, mj_clr, mj_nwi, mj_nwq, List.getElem?_cons_zero, List.getElem?_cons_succ, List.length_cons, List.length_nil, List.set_cons_zero, List.set_cons_succ, Value.category, decide_eq_true_eq, List.map_cons, List.map_nil, List.sum_cons, List.sum_nil, Option.toList, List.cons_append, List.nil_append, ite_true, ite_false, if_true, if_false, reduceCtorEq, true_and, and_true, narrow_i, narrow_l, narrow_r, narrow_n, fits_i, fits_l, fits_ro, fits_ra, fits_no, fits_na, Nat.reduceAdd, Nat.reduceLT, Nat.reduceLeDiff, Nat.reduceEqDiff, Nat.reduceSub, zero_add0, true_or, or_true, false_or, or_false, not_true_eq_false, not_false_eq_true, eq_self, i10, i01, im0, im1, x0, h, e1, e2]
    · have e1 : nI ln - 1 = nI (ln - 1) := pk_sub (b := 1) (by omega)
      by_cases hx : x = nI (ln - 1)
      · subst hx
        obtain ⟨a1, a2, a3, a4, a5⟩ := r4 (ln - 1) (by omega)
        have i1 : (nI (ln - 1)).toNatClampNeg = ln - 1 := nI_clamp (by omega)
        have i2 : ¬ 160 ≤ ln - 1 := by omega
        have e2 : (nI (C (ln - 1)).1 = nI s) = ((C (ln - 1)).1 = s) := propext (nI_eq (by omega) (by omega))
        have hl1 : 0 < ln := by omega
        by_cases w : (C (ln - 1)).1 = s
        · have q := eq_true w
          rw [if_pos ⟨hl1, rfl, w⟩]
          simp only [x_82_0, x_82_1, x_82_4, x_82_5, x_82_6, x_82_9, x_82_10, x_82_11, x_82_14, x_82_15, x_82_18, x_82_19, x_82_20, x_82_21, x_82_24, x_82_25, x_82_28, x_82_29, mw_nx, mw_no, mw_ite, mw_call, mw_ret, mw_cst, mw_ii, mw_i1, mw_ll, mw_l1, mw_li, mw_i2l, mw_l2i, mw_lcm, mw_if, mw_ic, mw_ifnN, mw_ifnR, mw_go, mw_dupi, mw_dupr, mw_popi, mw_popr, mw_nw, mw_rti, mw_rtl, mw_rtr, mw_rtn, mw_rtv, mw_rt0, mw_rt1, mj_ild, mj_lld, mj_ald, mj_ist, mj_lst, mj_ast, mj_inc, mj_iz, mj_get, mj_put, mj_len, mj_iar, mj_aar, mj_iaw, mj_aaw, mj_ivs, mj_ivv, mj_ivi, mj_ob, mj_tk, mj_cat, mj_st1, mj_st2, mj_clr, mj_nwi, mj_nwq, List.getElem?_cons_zero, List.getElem?_cons_succ, List.length_cons, List.length_nil, List.set_cons_zero, List.set_cons_succ, Value.category, decide_eq_true_eq, List.map_cons, List.map_nil, List.sum_cons, List.sum_nil, Option.toList, List.cons_append, List.nil_append, ite_true, ite_false, if_true, if_false, reduceCtorEq, true_and, and_true, narrow_i, narrow_l, narrow_r, narrow_n, fits_i, fits_l, fits_ro, fits_ra, fits_no, fits_na, Nat.reduceAdd, Nat.reduceLT, Nat.reduceLeDiff, Nat.reduceEqDiff, Nat.reduceSub, zero_add0, true_or, or_true, false_or, or_false, not_true_eq_false, not_false_eq_true, eq_self, i10, i01, im0, im1, x0, h, e1, r1, at_0, i1, i2, a1, e2, q]
        · have q := eq_false w
          rw [if_neg (fun z => w z.2.2)]
          simp only [x_82_0, x_82_1, x_82_4, x_82_5, x_82_6, x_82_9, x_82_10, x_82_11, x_82_14, x_82_15, x_82_18, x_82_19, x_82_20, x_82_21, x_82_24, x_82_25, x_82_28, x_82_29, mw_nx, mw_no, mw_ite, mw_call, mw_ret, mw_cst, mw_ii, mw_i1, mw_ll, mw_l1, mw_li, mw_i2l, mw_l2i, mw_lcm, mw_if, mw_ic, mw_ifnN, mw_ifnR, mw_go, mw_dupi, mw_dupr, mw_popi, mw_popr, mw_nw, mw_rti, mw_rtl, mw_rtr, mw_rtn, mw_rtv, mw_rt0, mw_rt1, mj_ild, mj_lld, mj_ald, mj_ist, mj_lst, mj_ast, mj_inc, mj_iz, mj_get, mj_put, mj_len, mj_iar, mj_aar, mj_iaw, mj_aaw, mj_ivs, mj_ivv, mj_ivi, mj_ob, mj_tk, mj_cat, mj_st1, mj_st2, mj_clr, mj_nwi, mj_nwq, List.getElem?_cons_zero, List.getElem?_cons_succ, List.length_cons, List.length_nil, List.set_cons_zero, List.set_cons_succ, Value.category, decide_eq_true_eq, List.map_cons, List.map_nil, List.sum_cons, List.sum_nil, Option.toList, List.cons_append, List.nil_append, ite_true, ite_false, if_true, if_false, reduceCtorEq, true_and, and_true, narrow_i, narrow_l, narrow_r, narrow_n, fits_i, fits_l, fits_ro, fits_ra, fits_no, fits_na, Nat.reduceAdd, Nat.reduceLT, Nat.reduceLeDiff, Nat.reduceEqDiff, Nat.reduceSub, zero_add0, true_or, or_true, false_or, or_false, not_true_eq_false, not_false_eq_true, eq_self, i10, i01, im0, im1, x0, h, e1, r1, at_0, i1, i2, a1, e2, q]
      · have q := eq_false hx
        rw [if_neg (fun z => hx z.2.1)]
        simp only [x_82_0, x_82_1, x_82_4, x_82_5, x_82_6, x_82_9, x_82_10, x_82_11, x_82_14, x_82_15, x_82_18, x_82_19, x_82_20, x_82_21, x_82_24, x_82_25, x_82_28, x_82_29, mw_nx, mw_no, mw_ite, mw_call, mw_ret, mw_cst, mw_ii, mw_i1, mw_ll, mw_l1, mw_li, mw_i2l, mw_l2i, mw_lcm, mw_if, mw_ic, mw_ifnN, mw_ifnR, mw_go, mw_dupi, mw_dupr, mw_popi, mw_popr, mw_nw, mw_rti, mw_rtl, mw_rtr, mw_rtn, mw_rtv, mw_rt0, mw_rt1, mj_ild, mj_lld, mj_ald, mj_ist, mj_lst, mj_ast, mj_inc, mj_iz, mj_get, mj_put, mj_len, mj_iar, mj_aar, mj_iaw, mj_aaw, mj_ivs, mj_ivv, mj_ivi, mj_ob, mj_tk, mj_cat, mj_st1, mj_st2, mj_clr, mj_nwi, mj_nwq, List.getElem?_cons_zero, List.getElem?_cons_succ, List.length_cons, List.length_nil, List.set_cons_zero, List.set_cons_succ, Value.category, decide_eq_true_eq, List.map_cons, List.map_nil, List.sum_cons, List.sum_nil, Option.toList, List.cons_append, List.nil_append, ite_true, ite_false, if_true, if_false, reduceCtorEq, true_and, and_true, narrow_i, narrow_l, narrow_r, narrow_n, fits_i, fits_l, fits_ro, fits_ra, fits_no, fits_na, Nat.reduceAdd, Nat.reduceLT, Nat.reduceLeDiff, Nat.reduceEqDiff, Nat.reduceSub, zero_add0, true_or, or_true, false_or, or_false, not_true_eq_false, not_false_eq_true, eq_self, i10, i01, im0, im1, x0, h, e1, q]
end MO
