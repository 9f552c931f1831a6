/-! A Reader: a line, the whole text -/
theorem lv_add {n s c : Nat} {cs : List Nat} (h : lv n (s, cs)) (hc : c < 2 * n) (htk : ln_takes (s, cs) c) : lv n (s, cs ++ [c]) := by
  refine ⟨fun d hd => ?_, fun h3 d hd => ?_⟩
  · rcases List.mem_append.mp hd with q | q
    · exact h.1 d q
    · rw [List.mem_singleton] at q; rw [q]; exact hc
  · have hno : ¬ un_neg c ∈ cs := by
      rcases htk.2 with q | q
      · exact absurd h3 q
      · exact q
    intro hm
    rcases List.mem_append.mp hd with q | q
    · rcases List.mem_append.mp hm with w | w
      · exact h.2 h3 d q w
      · rw [List.mem_singleton] at w
        apply hno
        rw [← w, un_neg_neg]; exact q
    · rw [List.mem_singleton] at q
      subst q
      rcases List.mem_append.mp hm with w | w
      · exact hno w
      · rw [List.mem_singleton] at w; exact un_neg_ne _ w
theorem rd_kind_le {xs : List Nat} {p k : Nat} (h : rd_kind xs p = some k) : k ≤ 3 ∧ p < xs.length := by
  unfold rd_kind at h
  split at h
  · next w => cases h; exact ⟨by omega, get_lt w⟩
  · split at h
    · next w => cases h; exact ⟨by omega, get_lt w⟩
    · split at h
      · next w => cases h; exact ⟨by omega, get_lt w⟩
      · split at h
        · next w => cases h; exact ⟨by omega, get_lt w⟩
        · cases h
theorem va_up_up2 {α : Type} {C : Nat → α} {i : Nat} {x y : α} : va_up (va_up C i x) i y = va_up C i y := by
  funext j
  by_cases hj : j = i
  · subst hj; rw [va_up_self, va_up_self]
  · rw [va_up_ne _ _ hj, va_up_ne _ _ hj, va_up_ne _ _ hj]
section RL
variable {hp : mj_H} {Q : mj_Q} {R P n p k : Nat} {xs : List Nat} {ρ : Nat → Option Nat} {g : Nat → Int32} {π : Nat → Nat} {C : Nat → Nat × List Nat}
theorem pf_set2 {hp hp' : mj_H} {P i n k R : Nat} {ρ : Nat → Option Nat} {g : Nat → Int32} {π : Nat → Nat} {C : Nat → Nat × List Nat} {l : Nat × List Nat} (hr : pf_r hp P n k ρ g) (h : pf_k hp P ρ π C) (hi : i < 80) (hRP : R + 2 ≤ P) (hl : ln_at hp' (P + 3 + 2 * π i) l) (hs : sm2 hp hp' R (P + 3 + 2 * π i) (P + 3 + 2 * π i + 2)) : pf_r hp' P n k ρ g ∧ pf_k hp' P ρ π (va_up C i l) := by
  refine ⟨⟨(hs.2 _ (by omega) (by omega)).trans hr.1, (hs.2 _ (by omega) (by omega)).trans hr.2.1, (hs.2 _ (by omega) (by omega)).trans hr.2.2⟩, fun j hj => ?_, h.2⟩
  obtain ⟨a1, a2, a3⟩ := h.1 j hj
  refine ⟨a1, a2, ?_⟩
  by_cases hji : j = i
  · subst hji
    rw [va_up_self]
    exact hl
  · rw [va_up_ne _ _ hji]
    have hne : π j ≠ π i := fun e => hji (h.2 j i hj hi e)
    exact a3.keep (hs.2 _ (by omega) (by omega)) (hs.2 _ (by omega) (by omega))
theorem pf_keep {hp hp' : mj_H} {P n k a b : Nat} {ρ : Nat → Option Nat} {g : Nat → Int32} {π : Nat → Nat} {C : Nat → Nat × List Nat} (hr : pf_r hp P n k ρ g) (h : pf_k hp P ρ π C) (hs : sm hp hp' a b) (hd : P + 163 ≤ a ∨ b ≤ P) : pf_r hp' P n k ρ g ∧ pf_k hp' P ρ π C := by
  refine ⟨⟨(hs.2 _ (by omega)).trans hr.1, (hs.2 _ (by omega)).trans hr.2.1, (hs.2 _ (by omega)).trans hr.2.2⟩, fun j hj => ?_, h.2⟩
  obtain ⟨a1, a2, a3⟩ := h.1 j hj
  exact ⟨a1, a2, a3.sm hs (by omega)⟩
theorem c_fillLine (h : re_at hp R n xs p) (hple : p ≤ xs.length) (hn : n ≤ 64) (hr : pf_r hp P n k ρ g) (hk : k ≤ 80) (hpk : pf_k hp P ρ π C) (hRP : R + 2 ≤ P)
    (hQ1 : ∀ (l : sp_Ln) (p' : Nat) (hp' : mj_H), rd_line xs n k p = .inl (l, p') → p' ≤ xs.length → k < 80 → lv n l → re_at hp' R n xs p' → pf_r hp' P n (k + 1) ρ g → pf_k hp' P ρ π (va_up C k l) → sm2 hp hp' R P (P + 163) → Q (some (.int 1)) hp')
    (hQ0 : ∀ (e k' : Nat) (C' : Nat → Nat × List Nat) (hp' : mj_H), rd_line xs n k p = .inr e → e ≤ xs.length → k' ≤ 80 → re_at hp' R n xs e → pf_r hp' P n k' ρ g → pf_k hp' P ρ π C' → sm2 hp hp' R P (P + 163) → Q (some (.int 0)) hp') : mj_call 69 [.ref R, .ref P] hp Q := by
  have hx4 : xs.length ≤ 4000 := by obtain ⟨-, f, -, -, q, -⟩ := h; exact q
  have hb : ∀ c ∈ xs, c < 256 := by obtain ⟨-, f, -, -, -, q⟩ := h; exact q
  have hR := h.1
  have hP := hr.1
  have v32 : ∀ q, (hv xs q = 32) = (xs[q]? = some 32) := fun q => hv_eq (v := 32) hb (by decide)
  have v10 : ∀ q, (hv xs q = 10) = (xs[q]? = some 10) := fun q => hv_eq (v := 10) hb (by decide)
  rw [en_69]
  cases hkd : rd_kind xs p with
  | none =>
    have so : ∀ (Q : mj_Q), mj_call 73 [.int (hv xs p)] hp Q = Q (some (.int (-1))) hp := by intro Q; rw [c_sortOf hb, hkd]
    simp only [x_69_0, x_69_1, x_69_4, x_69_7, x_69_8, x_69_9, x_69_10, x_69_13, x_69_14, x_69_17, x_69_18, x_69_19, x_69_22, x_69_23, x_69_24, x_69_27, x_69_28, mw_nx, mw_no, mw_ite, mw_call, mw_ret, mw_cst, mw_ii, mw_i1, mw_ll, mw_l1, mw_li, mw_i2l, mw_l2i, mw_lcm, mw_if, mw_ic, mw_ifnN, mw_ifnR, mw_go, mw_dupi, mw_dupr, mw_popi, mw_popr, mw_nw, mw_rti, mw_rtl, mw_rtr, mw_rtn, mw_rtv, mw_rt0, mw_rt1, mj_ild, mj_lld, mj_ald, mj_ist, mj_lst, mj_ast, mj_inc, mj_iz, mj_get, mj_put, mj_len, mj_iar, mj_aar, mj_iaw, mj_aaw, mj_ivs, mj_ivv, mj_ivi, mj_ob, mj_tk, mj_cat, mj_st1, mj_st2, mj_clr, mj_nwi, mj_nwq, List.getElem?_cons_zero, List.getElem?_cons_succ, List.length_cons, List.length_nil, List.set_cons_zero, List.set_cons_succ, Value.category, decide_eq_true_eq, List.map_cons, List.map_nil, List.sum_cons, List.sum_nil, Option.toList, List.cons_append, List.nil_append, ite_true, ite_false, if_true, if_false, reduceCtorEq, true_and, and_true, narrow_i, narrow_l, narrow_r, narrow_n, fits_i, fits_l, fits_ro, fits_ra, fits_no, fits_na, Nat.reduceAdd, Nat.reduceLT, Nat.reduceLeDiff, Nat.reduceEqDiff, Nat.reduceSub, zero_add0, true_or, or_true, false_or, or_false, not_true_eq_false, not_false_eq_true, eq_self, i10, i01, im0, im1, hR, c_here h (show p < 2 ^ 31 by omega), so]
    refine hQ0 p k C hp ?_ hple hk h hr hpk sm2.rf
    unfold rd_line; rw [hkd]
  | some s =>
    obtain ⟨hs3, hplt⟩ := rd_kind_le hkd
    have so : ∀ (Q : mj_Q), mj_call 73 [.int (hv xs p)] hp Q = Q (some (.int (nI s))) hp := by intro Q; rw [c_sortOf hb, hkd]
    have sm1 : (nI s = -1) = False := eq_false (fun q => nI_pos (n := s) (by omega) (by rw [q]; decide))
    simp only [x_69_0, x_69_1, x_69_4, x_69_7, x_69_8, x_69_9, x_69_10, x_69_13, x_69_14, x_69_17, x_69_18, x_69_19, mw_nx, mw_no, mw_ite, mw_call, mw_ret, mw_cst, mw_ii, mw_i1, mw_ll, mw_l1, mw_li, mw_i2l, mw_l2i, mw_lcm, mw_if, mw_ic, mw_ifnN, mw_ifnR, mw_go, mw_dupi, mw_dupr, mw_popi, mw_popr, mw_nw, mw_rti, mw_rtl, mw_rtr, mw_rtn, mw_rtv, mw_rt0, mw_rt1, mj_ild, mj_lld, mj_ald, mj_ist, mj_lst, mj_ast, mj_inc, mj_iz, mj_get, mj_put, mj_len, mj_iar, mj_aar, mj_iaw, mj_aaw, mj_ivs, mj_ivv, mj_ivi, mj_ob, mj_tk, mj_cat, mj_st1, mj_st2, mj_clr, mj_nwi, mj_nwq, List.getElem?_cons_zero, List.getElem?_cons_succ, List.length_cons, List.length_nil, List.set_cons_zero, List.set_cons_succ, Value.category, decide_eq_true_eq, List.map_cons, List.map_nil, List.sum_cons, List.sum_nil, Option.toList, List.cons_append, List.nil_append, ite_true, ite_false, if_true, if_false, reduceCtorEq, true_and, and_true, narrow_i, narrow_l, narrow_r, narrow_n, fits_i, fits_l, fits_ro, fits_ra, fits_no, fits_na, Nat.reduceAdd, Nat.reduceLT, Nat.reduceLeDiff, Nat.reduceEqDiff, Nat.reduceSub, zero_add0, true_or, or_true, false_or, or_false, not_true_eq_false, not_false_eq_true, eq_self, i10, i01, im0, im1, hR, hP, c_here h (show p < 2 ^ 31 by omega), so, sm1]
    refine c_open hr hk hpk hs3 (fun hk8 => ?_) (fun hk8 hp1 r1 k1 s1 => ?_)
    · simp only [x_69_22, x_69_23, x_69_24, x_69_27, x_69_28, mw_nx, mw_no, mw_ite, mw_call, mw_ret, mw_cst, mw_ii, mw_i1, mw_ll, mw_l1, mw_li, mw_i2l, mw_l2i, mw_lcm, mw_if, mw_ic, mw_ifnN, mw_ifnR, mw_go, mw_dupi, mw_dupr, mw_popi, mw_popr, mw_nw, mw_rti, mw_rtl, mw_rtr, mw_rtn, mw_rtv, mw_rt0, mw_rt1, mj_ild, mj_lld, mj_ald, mj_ist, mj_lst, mj_ast, mj_inc, mj_iz, mj_get, mj_put, mj_len, mj_iar, mj_aar, mj_iaw, mj_aaw, mj_ivs, mj_ivv, mj_ivi, mj_ob, mj_tk, mj_cat, mj_st1, mj_st2, mj_clr, mj_nwi, mj_nwq, List.getElem?_cons_zero, List.getElem?_cons_succ, List.length_cons, List.length_nil, List.set_cons_zero, List.set_cons_succ, Value.category, decide_eq_true_eq, List.map_cons, List.map_nil, List.sum_cons, List.sum_nil, Option.toList, List.cons_append, List.nil_append, ite_true, ite_false, if_true, if_false, reduceCtorEq, true_and, and_true, narrow_i, narrow_l, narrow_r, narrow_n, fits_i, fits_l, fits_ro, fits_ra, fits_no, fits_na, Nat.reduceAdd, Nat.reduceLT, Nat.reduceLeDiff, Nat.reduceEqDiff, Nat.reduceSub, zero_add0, true_or, or_true, false_or, or_false, not_true_eq_false, not_false_eq_true, eq_self, i10, i01, im0, im1]
      refine hQ0 p k C hp ?_ hple hk h hr hpk sm2.rf
      unfold rd_line; rw [hkd]; dsimp only; rw [if_pos hk8]
    · have h1 := h.sm s1 (by omega)
      have hR1 := h1.1
      have hline : rd_line xs n k p = match rd_lits 4000 xs n s [] (p + 1) with
        | .inr e => .inr e
        | .inl (cs, q) => if xs[q]? = some 10 then .inl ((s, cs), q + 1) else .inr q := by
        unfold rd_line; rw [hkd]; dsimp only; rw [if_neg (by omega)]
        rcases rd_lits 4000 xs n s [] (p + 1) with ⟨cs, q⟩ | e <;> rfl
      simp only [x_69_22, x_69_23, x_69_24, x_69_27, x_69_28, x_69_29, x_69_30, x_69_31, x_69_34, x_69_35, x_69_36, x_69_39, x_69_40, mw_nx, mw_no, mw_ite, mw_call, mw_ret, mw_cst, mw_ii, mw_i1, mw_ll, mw_l1, mw_li, mw_i2l, mw_l2i, mw_lcm, mw_if, mw_ic, mw_ifnN, mw_ifnR, mw_go, mw_dupi, mw_dupr, mw_popi, mw_popr, mw_nw, mw_rti, mw_rtl, mw_rtr, mw_rtn, mw_rtv, mw_rt0, mw_rt1, mj_ild, mj_lld, mj_ald, mj_ist, mj_lst, mj_ast, mj_inc, mj_iz, mj_get, mj_put, mj_len, mj_iar, mj_aar, mj_iaw, mj_aaw, mj_ivs, mj_ivv, mj_ivi, mj_ob, mj_tk, mj_cat, mj_st1, mj_st2, mj_clr, mj_nwi, mj_nwq, List.getElem?_cons_zero, List.getElem?_cons_succ, List.length_cons, List.length_nil, List.set_cons_zero, List.set_cons_succ, Value.category, decide_eq_true_eq, List.map_cons, List.map_nil, List.sum_cons, List.sum_nil, Option.toList, List.cons_append, List.nil_append, ite_true, ite_false, if_true, if_false, reduceCtorEq, true_and, and_true, narrow_i, narrow_l, narrow_r, narrow_n, fits_i, fits_l, fits_ro, fits_ra, fits_no, fits_na, Nat.reduceAdd, Nat.reduceLT, Nat.reduceLeDiff, Nat.reduceEqDiff, Nat.reduceSub, zero_add0, true_or, or_true, false_or, or_false, not_true_eq_false, not_false_eq_true, eq_self, i10, i01, im0, im1, hR1, nI_1]
      have key : ∀ (f i : Nat) (cs : List Nat) (q : Nat) (hp2 : mj_H), i + f = 4000 → q ≤ xs.length → lv n (s, cs) → re_at hp2 R n xs q → pf_r hp2 P n (k + 1) ρ g → pf_k hp2 P ρ π (va_up C k (s, cs)) → sm2 hp hp2 R P (P + 163) → rd_lits f xs n s cs q = rd_lits 4000 xs n s [] (p + 1) → mj_wp 69 42 [some (.ref R), some (.ref P), some (.int (nI s)), some (.ref (P + 3 + 2 * π k)), some (.int (nI i))] [] hp2 Q := by
        intro f
        induction f with
        | zero =>
          intro i cs q hp2 hi hq hlv h2 r2 k2 s2 he
          obtain rfl : i = 4000 := by omega
          have e1 : (4000 : Int32) ≤ nI 4000 := by decide
          have hR2 := h2.1
          rw [rd_lits] at he
          rw [← he] at hline
          dsimp only at hline
          rw [x_69_42]
          by_cases w : xs[q]? = some 10
          · have q1 := eq_true w
            rw [if_pos w] at hline
            simp only [x_69_44, x_69_47, x_69_50, x_69_51, x_69_54, x_69_56, x_69_59, x_69_60, x_69_61, x_69_64, x_69_65, x_69_66, x_69_69, x_69_70, x_69_71, x_69_74, x_69_77, x_69_78, x_69_79, x_69_82, x_69_85, x_69_86, x_69_89, x_69_91, x_69_94, x_69_95, x_69_96, x_69_97, x_69_98, x_69_101, x_69_102, x_69_103, x_69_106, x_69_107, mw_nx, mw_no, mw_ite, mw_call, mw_ret, mw_cst, mw_ii, mw_i1, mw_ll, mw_l1, mw_li, mw_i2l, mw_l2i, mw_lcm, mw_if, mw_ic, mw_ifnN, mw_ifnR, mw_go, mw_dupi, mw_dupr, mw_popi, mw_popr, mw_nw, mw_rti, mw_rtl, mw_rtr, mw_rtn, mw_rtv, mw_rt0, mw_rt1, mj_ild, mj_lld, mj_ald, mj_ist, mj_lst, mj_ast, mj_inc, mj_iz, mj_get, mj_put, mj_len, mj_iar, mj_aar, mj_iaw, mj_aaw, mj_ivs, mj_ivv, mj_ivi, mj_ob, mj_tk, mj_cat, mj_st1, mj_st2, mj_clr, mj_nwi, mj_nwq, List.getElem?_cons_zero, List.getElem?_cons_succ, List.length_cons, List.length_nil, List.set_cons_zero, List.set_cons_succ, Value.category, decide_eq_true_eq, List.map_cons, List.map_nil, List.sum_cons, List.sum_nil, Option.toList, List.cons_append, List.nil_append, ite_true, ite_false, if_true, if_false, reduceCtorEq, true_and, and_true, narrow_i, narrow_l, narrow_r, narrow_n, fits_i, fits_l, fits_ro, fits_ra, fits_no, fits_na, Nat.reduceAdd, Nat.reduceLT, Nat.reduceLeDiff, Nat.reduceEqDiff, Nat.reduceSub, zero_add0, true_or, or_true, false_or, or_false, not_true_eq_false, not_false_eq_true, eq_self, i10, i01, im0, im1, e1, hR2, c_here h2 (show q < 2 ^ 31 by omega), v10, q1, nI_1]
            obtain ⟨r3, k3⟩ := pf_keep r2 k2 (sm.up (hp := hp2) (lo := R) (hi := R + 1) (a := R) (e := re_o R n xs.length (q + 1)) (by omega) (by omega)) (by omega)
            exact hQ1 _ _ _ hline (get_lt w) hk8 hlv (h2.pl (q + 1)) r3 k3 (s2.tr (sm.l (sm.up (by omega) (by omega))))
          · have q1 := eq_false w
            rw [if_neg w] at hline
            simp only [x_69_44, x_69_47, x_69_50, x_69_51, x_69_54, x_69_56, x_69_59, x_69_60, x_69_61, x_69_64, x_69_65, x_69_66, x_69_69, x_69_70, x_69_71, x_69_74, x_69_77, x_69_78, x_69_79, x_69_82, x_69_85, x_69_86, x_69_89, x_69_91, x_69_94, x_69_95, x_69_96, x_69_97, x_69_98, x_69_101, x_69_102, x_69_103, x_69_106, x_69_107, mw_nx, mw_no, mw_ite, mw_call, mw_ret, mw_cst, mw_ii, mw_i1, mw_ll, mw_l1, mw_li, mw_i2l, mw_l2i, mw_lcm, mw_if, mw_ic, mw_ifnN, mw_ifnR, mw_go, mw_dupi, mw_dupr, mw_popi, mw_popr, mw_nw, mw_rti, mw_rtl, mw_rtr, mw_rtn, mw_rtv, mw_rt0, mw_rt1, mj_ild, mj_lld, mj_ald, mj_ist, mj_lst, mj_ast, mj_inc, mj_iz, mj_get, mj_put, mj_len, mj_iar, mj_aar, mj_iaw, mj_aaw, mj_ivs, mj_ivv, mj_ivi, mj_ob, mj_tk, mj_cat, mj_st1, mj_st2, mj_clr, mj_nwi, mj_nwq, List.getElem?_cons_zero, List.getElem?_cons_succ, List.length_cons, List.length_nil, List.set_cons_zero, List.set_cons_succ, Value.category, decide_eq_true_eq, List.map_cons, List.map_nil, List.sum_cons, List.sum_nil, Option.toList, List.cons_append, List.nil_append, ite_true, ite_false, if_true, if_false, reduceCtorEq, true_and, and_true, narrow_i, narrow_l, narrow_r, narrow_n, fits_i, fits_l, fits_ro, fits_ra, fits_no, fits_na, Nat.reduceAdd, Nat.reduceLT, Nat.reduceLeDiff, Nat.reduceEqDiff, Nat.reduceSub, zero_add0, true_or, or_true, false_or, or_false, not_true_eq_false, not_false_eq_true, eq_self, i10, i01, im0, im1, e1, hR2, c_here h2 (show q < 2 ^ 31 by omega), v10, q1, nI_1]
            exact hQ0 q (k + 1) _ hp2 hline hq hk8 h2 r2 k2 s2
        | succ f ih =>
          intro i cs q hp2 hi hq hlv h2 r2 k2 s2 he
          have e1 : ¬ (4000 : Int32) ≤ nI i := nI_ge (b := 4000) (by omega) (by omega)
          have hR2 := h2.1
          rw [rd_lits] at he
          rw [x_69_42]
          by_cases w3 : xs[q]? = some 32
          · have q3 := eq_true w3
            rw [if_pos w3] at he
            have hqlt := get_lt w3
            obtain ⟨r3, k3⟩ := pf_keep r2 k2 (sm.up (hp := hp2) (lo := R) (hi := R + 1) (a := R) (e := re_o R n xs.length (q + 1)) (by omega) (by omega)) (by omega)
            have h3 := h2.pl (q + 1)
            have hR3 := h3.1
            have hl3 := (k3.1 k hk8).2.2
            rw [va_up_self] at hl3
            obtain ⟨hπ8, -, -⟩ := k3.1 k hk8
            simp only [x_69_44, x_69_47, x_69_50, x_69_51, x_69_54, x_69_56, x_69_59, x_69_60, x_69_61, x_69_64, x_69_65, x_69_66, x_69_69, x_69_70, x_69_71, mw_nx, mw_no, mw_ite, mw_call, mw_ret, mw_cst, mw_ii, mw_i1, mw_ll, mw_l1, mw_li, mw_i2l, mw_l2i, mw_lcm, mw_if, mw_ic, mw_ifnN, mw_ifnR, mw_go, mw_dupi, mw_dupr, mw_popi, mw_popr, mw_nw, mw_rti, mw_rtl, mw_rtr, mw_rtn, mw_rtv, mw_rt0, mw_rt1, mj_ild, mj_lld, mj_ald, mj_ist, mj_lst, mj_ast, mj_inc, mj_iz, mj_get, mj_put, mj_len, mj_iar, mj_aar, mj_iaw, mj_aaw, mj_ivs, mj_ivv, mj_ivi, mj_ob, mj_tk, mj_cat, mj_st1, mj_st2, mj_clr, mj_nwi, mj_nwq, List.getElem?_cons_zero, List.getElem?_cons_succ, List.length_cons, List.length_nil, List.set_cons_zero, List.set_cons_succ, Value.category, decide_eq_true_eq, List.map_cons, List.map_nil, List.sum_cons, List.sum_nil, Option.toList, List.cons_append, List.nil_append, ite_true, ite_false, if_true, if_false, reduceCtorEq, true_and, and_true, narrow_i, narrow_l, narrow_r, narrow_n, fits_i, fits_l, fits_ro, fits_ra, fits_no, fits_na, Nat.reduceAdd, Nat.reduceLT, Nat.reduceLeDiff, Nat.reduceEqDiff, Nat.reduceSub, zero_add0, true_or, or_true, false_or, or_false, not_true_eq_false, not_false_eq_true, eq_self, i10, i01, im0, im1, e1, hR2, c_here h2 (show q < 2 ^ 31 by omega), v32, q3, nI_1, mj_up_at]
            refine c_fillLiteral h3 hqlt hn hl3 (by omega) (fun c p' hp4 hlit hp'le hc htk h4 hl4 s4 => ?_) (fun e hp4 hlit hele h4 hl4 s4 => ?_)
            · rw [hlit] at he
              dsimp only at he
              simp only [x_69_74, x_69_77, x_69_78, x_69_79, x_69_82, mw_nx, mw_no, mw_ite, mw_call, mw_ret, mw_cst, mw_ii, mw_i1, mw_ll, mw_l1, mw_li, mw_i2l, mw_l2i, mw_lcm, mw_if, mw_ic, mw_ifnN, mw_ifnR, mw_go, mw_dupi, mw_dupr, mw_popi, mw_popr, mw_nw, mw_rti, mw_rtl, mw_rtr, mw_rtn, mw_rtv, mw_rt0, mw_rt1, mj_ild, mj_lld, mj_ald, mj_ist, mj_lst, mj_ast, mj_inc, mj_iz, mj_get, mj_put, mj_len, mj_iar, mj_aar, mj_iaw, mj_aaw, mj_ivs, mj_ivv, mj_ivi, mj_ob, mj_tk, mj_cat, mj_st1, mj_st2, mj_clr, mj_nwi, mj_nwq, List.getElem?_cons_zero, List.getElem?_cons_succ, List.length_cons, List.length_nil, List.set_cons_zero, List.set_cons_succ, Value.category, decide_eq_true_eq, List.map_cons, List.map_nil, List.sum_cons, List.sum_nil, Option.toList, List.cons_append, List.nil_append, ite_true, ite_false, if_true, if_false, reduceCtorEq, true_and, and_true, narrow_i, narrow_l, narrow_r, narrow_n, fits_i, fits_l, fits_ro, fits_ra, fits_no, fits_na, Nat.reduceAdd, Nat.reduceLT, Nat.reduceLeDiff, Nat.reduceEqDiff, Nat.reduceSub, zero_add0, true_or, or_true, false_or, or_false, not_true_eq_false, not_false_eq_true, eq_self, i10, i01, im0, im1, nI_1]
              obtain ⟨r5, k5⟩ := pf_set2 r3 k3 hk8 hRP hl4 s4
              rw [va_up_up2] at k5
              exact ih (i + 1) (cs ++ [c]) p' hp4 (by omega) hp'le (lv_add hlv hc htk) h4 r5 k5 ((s2.tr (sm.l (sm.up (by omega) (by omega)))).tr (s4.mono (by omega) (by omega))) he
            · rw [hlit] at he
              dsimp only at he
              rw [← he] at hline
              dsimp only at hline
              simp only [x_69_74, x_69_77, x_69_78, mw_nx, mw_no, mw_ite, mw_call, mw_ret, mw_cst, mw_ii, mw_i1, mw_ll, mw_l1, mw_li, mw_i2l, mw_l2i, mw_lcm, mw_if, mw_ic, mw_ifnN, mw_ifnR, mw_go, mw_dupi, mw_dupr, mw_popi, mw_popr, mw_nw, mw_rti, mw_rtl, mw_rtr, mw_rtn, mw_rtv, mw_rt0, mw_rt1, mj_ild, mj_lld, mj_ald, mj_ist, mj_lst, mj_ast, mj_inc, mj_iz, mj_get, mj_put, mj_len, mj_iar, mj_aar, mj_iaw, mj_aaw, mj_ivs, mj_ivv, mj_ivi, mj_ob, mj_tk, mj_cat, mj_st1, mj_st2, mj_clr, mj_nwi, mj_nwq, List.getElem?_cons_zero, List.getElem?_cons_succ, List.length_cons, List.length_nil, List.set_cons_zero, List.set_cons_succ, Value.category, decide_eq_true_eq, List.map_cons, List.map_nil, List.sum_cons, List.sum_nil, Option.toList, List.cons_append, List.nil_append, ite_true, ite_false, if_true, if_false, reduceCtorEq, true_and, and_true, narrow_i, narrow_l, narrow_r, narrow_n, fits_i, fits_l, fits_ro, fits_ra, fits_no, fits_na, Nat.reduceAdd, Nat.reduceLT, Nat.reduceLeDiff, Nat.reduceEqDiff, Nat.reduceSub, zero_add0, true_or, or_true, false_or, or_false, not_true_eq_false, not_false_eq_true, eq_self, i10, i01, im0, im1]
              obtain ⟨r5, k5⟩ := pf_set2 r3 k3 hk8 hRP hl4 s4
              exact hQ0 e (k + 1) _ hp4 hline hele hk8 h4 r5 k5 ((s2.tr (sm.l (sm.up (by omega) (by omega)))).tr (s4.mono (by omega) (by omega)))
          · have q3 := eq_false w3
            rw [if_neg w3] at he
            rw [← he] at hline
            dsimp only at hline
            by_cases w : xs[q]? = some 10
            · have q1 := eq_true w
              rw [if_pos w] at hline
              simp only [x_69_44, x_69_47, x_69_50, x_69_51, x_69_54, x_69_56, x_69_85, x_69_86, x_69_89, x_69_91, x_69_94, x_69_95, x_69_96, x_69_97, x_69_98, x_69_101, x_69_102, x_69_103, x_69_106, x_69_107, mw_nx, mw_no, mw_ite, mw_call, mw_ret, mw_cst, mw_ii, mw_i1, mw_ll, mw_l1, mw_li, mw_i2l, mw_l2i, mw_lcm, mw_if, mw_ic, mw_ifnN, mw_ifnR, mw_go, mw_dupi, mw_dupr, mw_popi, mw_popr, mw_nw, mw_rti, mw_rtl, mw_rtr, mw_rtn, mw_rtv, mw_rt0, mw_rt1, mj_ild, mj_lld, mj_ald, mj_ist, mj_lst, mj_ast, mj_inc, mj_iz, mj_get, mj_put, mj_len, mj_iar, mj_aar, mj_iaw, mj_aaw, mj_ivs, mj_ivv, mj_ivi, mj_ob, mj_tk, mj_cat, mj_st1, mj_st2, mj_clr, mj_nwi, mj_nwq, List.getElem?_cons_zero, List.getElem?_cons_succ, List.length_cons, List.length_nil, List.set_cons_zero, List.set_cons_succ, Value.category, decide_eq_true_eq, List.map_cons, List.map_nil, List.sum_cons, List.sum_nil, Option.toList, List.cons_append, List.nil_append, ite_true, ite_false, if_true, if_false, reduceCtorEq, true_and, and_true, narrow_i, narrow_l, narrow_r, narrow_n, fits_i, fits_l, fits_ro, fits_ra, fits_no, fits_na, Nat.reduceAdd, Nat.reduceLT, Nat.reduceLeDiff, Nat.reduceEqDiff, Nat.reduceSub, zero_add0, true_or, or_true, false_or, or_false, not_true_eq_false, not_false_eq_true, eq_self, i10, i01, im0, im1, e1, hR2, c_here h2 (show q < 2 ^ 31 by omega), v32, q3, v10, q1, nI_1]
              obtain ⟨r3, k3⟩ := pf_keep r2 k2 (sm.up (hp := hp2) (lo := R) (hi := R + 1) (a := R) (e := re_o R n xs.length (q + 1)) (by omega) (by omega)) (by omega)
              exact hQ1 _ _ _ hline (get_lt w) hk8 hlv (h2.pl (q + 1)) r3 k3 (s2.tr (sm.l (sm.up (by omega) (by omega))))
            · have q1 := eq_false w
              rw [if_neg w] at hline
              simp only [x_69_44, x_69_47, x_69_50, x_69_51, x_69_54, x_69_56, x_69_85, x_69_86, x_69_89, x_69_91, x_69_94, x_69_95, x_69_96, x_69_97, x_69_98, x_69_101, x_69_102, x_69_103, x_69_106, x_69_107, mw_nx, mw_no, mw_ite, mw_call, mw_ret, mw_cst, mw_ii, mw_i1, mw_ll, mw_l1, mw_li, mw_i2l, mw_l2i, mw_lcm, mw_if, mw_ic, mw_ifnN, mw_ifnR, mw_go, mw_dupi, mw_dupr, mw_popi, mw_popr, mw_nw, mw_rti, mw_rtl, mw_rtr, mw_rtn, mw_rtv, mw_rt0, mw_rt1, mj_ild, mj_lld, mj_ald, mj_ist, mj_lst, mj_ast, mj_inc, mj_iz, mj_get, mj_put, mj_len, mj_iar, mj_aar, mj_iaw, mj_aaw, mj_ivs, mj_ivv, mj_ivi, mj_ob, mj_tk, mj_cat, mj_st1, mj_st2, mj_clr, mj_nwi, mj_nwq, List.getElem?_cons_zero, List.getElem?_cons_succ, List.length_cons, List.length_nil, List.set_cons_zero, List.set_cons_succ, Value.category, decide_eq_true_eq, List.map_cons, List.map_nil, List.sum_cons, List.sum_nil, Option.toList, List.cons_append, List.nil_append, ite_true, ite_false, if_true, if_false, reduceCtorEq, true_and, and_true, narrow_i, narrow_l, narrow_r, narrow_n, fits_i, fits_l, fits_ro, fits_ra, fits_no, fits_na, Nat.reduceAdd, Nat.reduceLT, Nat.reduceLeDiff, Nat.reduceEqDiff, Nat.reduceSub, zero_add0, true_or, or_true, false_or, or_false, not_true_eq_false, not_false_eq_true, eq_self, i10, i01, im0, im1, e1, hR2, c_here h2 (show q < 2 ^ 31 by omega), v32, q3, v10, q1, nI_1]
              exact hQ0 q (k + 1) _ hp2 hline hq hk8 h2 r2 k2 s2
      obtain ⟨r3, k3⟩ := pf_keep r1 k1 (sm.up (hp := hp1) (lo := R) (hi := R + 1) (a := R) (e := re_o R n xs.length (p + 1)) (by omega) (by omega)) (by omega)
      exact key 4000 0 [] (p + 1) _ rfl hplt ⟨fun c hc => absurd hc List.not_mem_nil, fun _ c hc => absurd hc List.not_mem_nil⟩ (h1.pl (p + 1)) r3 k3 (s1.r.tr (sm.l (sm.up (by omega) (by omega)))) rfl
theorem c_fill (h : re_at hp R n xs p) (hn : n ≤ 64) (hr : pf_r hp P n k ρ g) (hk : k ≤ 80) (hpk : pf_k hp P ρ π C) (hRP : R + 2 ≤ P)
    (hQ1 : ∀ (ls : List sp_Ln) (p' : Nat) (C' : Nat → Nat × List Nat) (hp' : mj_H), rd_all 4000 xs n [] 0 = .inl ls → ls.length ≤ 80 → (List.range ls.length).map C' = ls → (∀ j, j < ls.length → lv n (C' j)) → re_at hp' R n xs p' → pf_r hp' P n ls.length ρ g → pf_k hp' P ρ π C' → sm2 hp hp' R P (P + 163) → Q (some (.int 1)) hp')
    (hQ0 : ∀ (e k' : Nat) (C' : Nat → Nat × List Nat) (hp' : mj_H), rd_all 4000 xs n [] 0 = .inr e → e ≤ xs.length → k' ≤ 80 → re_at hp' R n xs e → pf_r hp' P n k' ρ g → pf_k hp' P ρ π C' → sm2 hp hp' R P (P + 163) → Q (some (.int 0)) hp') : mj_call 68 [.ref R, .ref P] hp Q := by
  have hx4 : xs.length ≤ 4000 := by obtain ⟨-, f, -, -, q, -⟩ := h; exact q
  have key : ∀ (f i : Nat) (ls : List sp_Ln) (C1 : Nat → Nat × List Nat) (q : Nat) (hp2 : mj_H), i + f = 4000 → q ≤ xs.length → ls.length ≤ 80 → (List.range ls.length).map C1 = ls → (∀ j, j < ls.length → lv n (C1 j)) → re_at hp2 R n xs q → pf_r hp2 P n ls.length ρ g → pf_k hp2 P ρ π C1 → sm2 hp hp2 R P (P + 163) → rd_all f xs n ls q = rd_all 4000 xs n [] 0 → mj_wp 68 11 [some (.ref R), some (.ref P), some (.int (nI i))] [] hp2 Q := by
    intro f
    induction f with
    | zero =>
      intro i ls C1 q hp2 hi hq hl8 hmap hlv h2 r2 k2 s2 he
      obtain rfl : i = 4000 := by omega
      have e1 : (4000 : Int32) ≤ nI 4000 := by decide
      rw [x_68_11]
      simp only [x_68_12, x_68_15, x_68_45, x_68_46, mw_nx, mw_no, mw_ite, mw_call, mw_ret, mw_cst, mw_ii, mw_i1, mw_ll, mw_l1, mw_li, mw_i2l, mw_l2i, mw_lcm, mw_if, mw_ic, mw_ifnN, mw_ifnR, mw_go, mw_dupi, mw_dupr, mw_popi, mw_popr, mw_nw, mw_rti, mw_rtl, mw_rtr, mw_rtn, mw_rtv, mw_rt0, mw_rt1, mj_ild, mj_lld, mj_ald, mj_ist, mj_lst, mj_ast, mj_inc, mj_iz, mj_get, mj_put, mj_len, mj_iar, mj_aar, mj_iaw, mj_aaw, mj_ivs, mj_ivv, mj_ivi, mj_ob, mj_tk, mj_cat, mj_st1, mj_st2, mj_clr, mj_nwi, mj_nwq, List.getElem?_cons_zero, List.getElem?_cons_succ, List.length_cons, List.length_nil, List.set_cons_zero, List.set_cons_succ, Value.category, decide_eq_true_eq, List.map_cons, List.map_nil, List.sum_cons, List.sum_nil, Option.toList, List.cons_append, List.nil_append, ite_true, ite_false, if_true, if_false, reduceCtorEq, true_and, and_true, narrow_i, narrow_l, narrow_r, narrow_n, fits_i, fits_l, fits_ro, fits_ra, fits_no, fits_na, Nat.reduceAdd, Nat.reduceLT, Nat.reduceLeDiff, Nat.reduceEqDiff, Nat.reduceSub, zero_add0, true_or, or_true, false_or, or_false, not_true_eq_false, not_false_eq_true, eq_self, i10, i01, im0, im1, e1]
      exact hQ1 ls q C1 hp2 (by rw [← he, rd_all]) hl8 hmap hlv h2 r2 k2 s2
    | succ f ih =>
      intro i ls C1 q hp2 hi hq hl8 hmap hlv h2 r2 k2 s2 he
      have e1 : ¬ (4000 : Int32) ≤ nI i := nI_ge (b := 4000) (by omega) (by omega)
      have e2 : (nI xs.length ≤ nI q) = (xs.length ≤ q) := propext (nI_leI (by omega) (by omega))
      have hR2 := h2.1
      rw [rd_all] at he
      rw [x_68_11]
      by_cases w : q < xs.length
      · have w2 : ¬ xs.length ≤ q := by omega
        have q2 := eq_false w2
        rw [if_pos w] at he
        simp only [x_68_12, x_68_15, x_68_18, x_68_19, x_68_22, x_68_23, x_68_26, x_68_29, x_68_30, x_68_31, mw_nx, mw_no, mw_ite, mw_call, mw_ret, mw_cst, mw_ii, mw_i1, mw_ll, mw_l1, mw_li, mw_i2l, mw_l2i, mw_lcm, mw_if, mw_ic, mw_ifnN, mw_ifnR, mw_go, mw_dupi, mw_dupr, mw_popi, mw_popr, mw_nw, mw_rti, mw_rtl, mw_rtr, mw_rtn, mw_rtv, mw_rt0, mw_rt1, mj_ild, mj_lld, mj_ald, mj_ist, mj_lst, mj_ast, mj_inc, mj_iz, mj_get, mj_put, mj_len, mj_iar, mj_aar, mj_iaw, mj_aaw, mj_ivs, mj_ivv, mj_ivi, mj_ob, mj_tk, mj_cat, mj_st1, mj_st2, mj_clr, mj_nwi, mj_nwq, List.getElem?_cons_zero, List.getElem?_cons_succ, List.length_cons, List.length_nil, List.set_cons_zero, List.set_cons_succ, Value.category, decide_eq_true_eq, List.map_cons, List.map_nil, List.sum_cons, List.sum_nil, Option.toList, List.cons_append, List.nil_append, ite_true, ite_false, if_true, if_false, reduceCtorEq, true_and, and_true, narrow_i, narrow_l, narrow_r, narrow_n, fits_i, fits_l, fits_ro, fits_ra, fits_no, fits_na, Nat.reduceAdd, Nat.reduceLT, Nat.reduceLeDiff, Nat.reduceEqDiff, Nat.reduceSub, zero_add0, true_or, or_true, false_or, or_false, not_true_eq_false, not_false_eq_true, eq_self, i10, i01, im0, im1, e1, e2, q2, hR2]
        refine c_fillLine h2 hq hn r2 hl8 k2 hRP (fun l p' hp3 hline hple hk8 hlv3 h3 r3 k3 s3 => ?_) (fun e k' C' hp3 hline hele hk' h3 r3 k3 s3 => ?_)
        · rw [hline] at he
          dsimp only at he
          simp only [x_68_34, x_68_37, x_68_38, x_68_39, x_68_42, mw_nx, mw_no, mw_ite, mw_call, mw_ret, mw_cst, mw_ii, mw_i1, mw_ll, mw_l1, mw_li, mw_i2l, mw_l2i, mw_lcm, mw_if, mw_ic, mw_ifnN, mw_ifnR, mw_go, mw_dupi, mw_dupr, mw_popi, mw_popr, mw_nw, mw_rti, mw_rtl, mw_rtr, mw_rtn, mw_rtv, mw_rt0, mw_rt1, mj_ild, mj_lld, mj_ald, mj_ist, mj_lst, mj_ast, mj_inc, mj_iz, mj_get, mj_put, mj_len, mj_iar, mj_aar, mj_iaw, mj_aaw, mj_ivs, mj_ivv, mj_ivi, mj_ob, mj_tk, mj_cat, mj_st1, mj_st2, mj_clr, mj_nwi, mj_nwq, List.getElem?_cons_zero, List.getElem?_cons_succ, List.length_cons, List.length_nil, List.set_cons_zero, List.set_cons_succ, Value.category, decide_eq_true_eq, List.map_cons, List.map_nil, List.sum_cons, List.sum_nil, Option.toList, List.cons_append, List.nil_append, ite_true, ite_false, if_true, if_false, reduceCtorEq, true_and, and_true, narrow_i, narrow_l, narrow_r, narrow_n, fits_i, fits_l, fits_ro, fits_ra, fits_no, fits_na, Nat.reduceAdd, Nat.reduceLT, Nat.reduceLeDiff, Nat.reduceEqDiff, Nat.reduceSub, zero_add0, true_or, or_true, false_or, or_false, not_true_eq_false, not_false_eq_true, eq_self, i10, i01, im0, im1, nI_1]
          have hlen : (ls ++ [l]).length = ls.length + 1 := by simp
          refine ih (i + 1) (ls ++ [l]) (va_up C1 ls.length l) p' hp3 (by omega) hple (by omega) ?_ ?_ h3 (by rw [hlen]; exact r3) k3 (s2.tr s3) he
          · rw [hlen, List.range_succ, List.map_append, map_up, hmap, List.map_singleton, va_up_self]
          · intro j hj
            by_cases hj2 : j = ls.length
            · subst hj2; rw [va_up_self]; exact hlv3
            · rw [va_up_ne _ _ hj2]; exact hlv j (by omega)
        · rw [hline] at he
          dsimp only at he
          simp only [x_68_34, x_68_37, x_68_38, mw_nx, mw_no, mw_ite, mw_call, mw_ret, mw_cst, mw_ii, mw_i1, mw_ll, mw_l1, mw_li, mw_i2l, mw_l2i, mw_lcm, mw_if, mw_ic, mw_ifnN, mw_ifnR, mw_go, mw_dupi, mw_dupr, mw_popi, mw_popr, mw_nw, mw_rti, mw_rtl, mw_rtr, mw_rtn, mw_rtv, mw_rt0, mw_rt1, mj_ild, mj_lld, mj_ald, mj_ist, mj_lst, mj_ast, mj_inc, mj_iz, mj_get, mj_put, mj_len, mj_iar, mj_aar, mj_iaw, mj_aaw, mj_ivs, mj_ivv, mj_ivi, mj_ob, mj_tk, mj_cat, mj_st1, mj_st2, mj_clr, mj_nwi, mj_nwq, List.getElem?_cons_zero, List.getElem?_cons_succ, List.length_cons, List.length_nil, List.set_cons_zero, List.set_cons_succ, Value.category, decide_eq_true_eq, List.map_cons, List.map_nil, List.sum_cons, List.sum_nil, Option.toList, List.cons_append, List.nil_append, ite_true, ite_false, if_true, if_false, reduceCtorEq, true_and, and_true, narrow_i, narrow_l, narrow_r, narrow_n, fits_i, fits_l, fits_ro, fits_ra, fits_no, fits_na, Nat.reduceAdd, Nat.reduceLT, Nat.reduceLeDiff, Nat.reduceEqDiff, Nat.reduceSub, zero_add0, true_or, or_true, false_or, or_false, not_true_eq_false, not_false_eq_true, eq_self, i10, i01, im0, im1]
          exact hQ0 e k' C' hp3 he.symm hele hk' h3 r3 k3 (s2.tr s3)
      · have w2 : xs.length ≤ q := by omega
        have q2 := eq_true w2
        rw [if_neg w] at he
        simp only [x_68_12, x_68_15, x_68_18, x_68_19, x_68_22, x_68_23, x_68_26, x_68_45, x_68_46, mw_nx, mw_no, mw_ite, mw_call, mw_ret, mw_cst, mw_ii, mw_i1, mw_ll, mw_l1, mw_li, mw_i2l, mw_l2i, mw_lcm, mw_if, mw_ic, mw_ifnN, mw_ifnR, mw_go, mw_dupi, mw_dupr, mw_popi, mw_popr, mw_nw, mw_rti, mw_rtl, mw_rtr, mw_rtn, mw_rtv, mw_rt0, mw_rt1, mj_ild, mj_lld, mj_ald, mj_ist, mj_lst, mj_ast, mj_inc, mj_iz, mj_get, mj_put, mj_len, mj_iar, mj_aar, mj_iaw, mj_aaw, mj_ivs, mj_ivv, mj_ivi, mj_ob, mj_tk, mj_cat, mj_st1, mj_st2, mj_clr, mj_nwi, mj_nwq, List.getElem?_cons_zero, List.getElem?_cons_succ, List.length_cons, List.length_nil, List.set_cons_zero, List.set_cons_succ, Value.category, decide_eq_true_eq, List.map_cons, List.map_nil, List.sum_cons, List.sum_nil, Option.toList, List.cons_append, List.nil_append, ite_true, ite_false, if_true, if_false, reduceCtorEq, true_and, and_true, narrow_i, narrow_l, narrow_r, narrow_n, fits_i, fits_l, fits_ro, fits_ra, fits_no, fits_na, Nat.reduceAdd, Nat.reduceLT, Nat.reduceLeDiff, Nat.reduceEqDiff, Nat.reduceSub, zero_add0, true_or, or_true, false_or, or_false, not_true_eq_false, not_false_eq_true, eq_self, i10, i01, im0, im1, e1, e2, q2, hR2]
        exact hQ1 ls q C1 hp2 he.symm hl8 hmap hlv h2 r2 k2 s2
  have hP := hr.1
  have o1 : ∀ (e : va_E), (mj_up hp P e).1 R = hp.1 R := fun _ => mj_up_off (by omega)
  have hR := h.1
  rw [en_68]
  simp only [x_68_0, x_68_1, x_68_4, x_68_5, x_68_6, x_68_9, x_68_10, mw_nx, mw_no, mw_ite, mw_call, mw_ret, mw_cst, mw_ii, mw_i1, mw_ll, mw_l1, mw_li, mw_i2l, mw_l2i, mw_lcm, mw_if, mw_ic, mw_ifnN, mw_ifnR, mw_go, mw_dupi, mw_dupr, mw_popi, mw_popr, mw_nw, mw_rti, mw_rtl, mw_rtr, mw_rtn, mw_rtv, mw_rt0, mw_rt1, mj_ild, mj_lld, mj_ald, mj_ist, mj_lst, mj_ast, mj_inc, mj_iz, mj_get, mj_put, mj_len, mj_iar, mj_aar, mj_iaw, mj_aaw, mj_ivs, mj_ivv, mj_ivi, mj_ob, mj_tk, mj_cat, mj_st1, mj_st2, mj_clr, mj_nwi, mj_nwq, List.getElem?_cons_zero, List.getElem?_cons_succ, List.length_cons, List.length_nil, List.set_cons_zero, List.set_cons_succ, Value.category, decide_eq_true_eq, List.map_cons, List.map_nil, List.sum_cons, List.sum_nil, Option.toList, List.cons_append, List.nil_append, ite_true, ite_false, if_true, if_false, reduceCtorEq, true_and, and_true, narrow_i, narrow_l, narrow_r, narrow_n, fits_i, fits_l, fits_ro, fits_ra, fits_no, fits_na, Nat.reduceAdd, Nat.reduceLT, Nat.reduceLeDiff, Nat.reduceEqDiff, Nat.reduceSub, zero_add0, true_or, or_true, false_or, or_false, not_true_eq_false, not_false_eq_true, eq_self, i10, i01, im0, im1, hP, c_clear hr, o1, hR]
  have r1 : pf_r (mj_up hp P (pf_o P n 0)) P n 0 ρ g := ⟨mj_up_at, by rw [mj_up_off (by omega)]; exact hr.2.1, by rw [mj_up_off (by omega)]; exact hr.2.2⟩
  have k1 : pf_k (mj_up hp P (pf_o P n 0)) P ρ π C := ⟨fun j hj => ⟨(hpk.1 j hj).1, (hpk.1 j hj).2.1, (hpk.1 j hj).2.2.keep (mj_up_off (by omega)) (mj_up_off (by omega))⟩, hpk.2⟩
  have h1 : re_at (mj_up hp P (pf_o P n 0)) R n xs p := h.keep (mj_up_off (by omega)) (mj_up_off (by omega))
  obtain ⟨r3, k3⟩ := pf_keep r1 k1 (sm.up (hp := mj_up hp P (pf_o P n 0)) (lo := R) (hi := R + 1) (a := R) (e := re_o R n xs.length 0) (by omega) (by omega)) (by omega)
  exact key 4000 0 [] C 0 _ rfl (by omega) (by simp) rfl (fun j hj => by simp at hj) (h1.pl 0) r3 k3 ((sm.r (sm.up (by omega) (by omega))).tr (sm.l (sm.up (by omega) (by omega)))) rfl
end RL
