/-! The reference: a line read, the whole text read -/
section MS
variable {hp : mj_H} {Q : mj_Q} {M n ln cm p : Nat} {C : Nat → sp_Ln} {xs : List Nat}
theorem m_readLine (h : hp.1 M = some (mo_o M n ln cm xs.length (nI p) (-1) 0)) (hu : mo_u hp M xs) (hr : rows hp M C) (hn : n ≤ 64) (hple : p ≤ xs.length) {m : Nat} (hm : m ≤ 80)
    (hQ1 : ∀ (l : sp_Ln) (p' : Nat) (hp' : mj_H), rd_line xs n m p = .inl (l, p') → p < p' → p' ≤ xs.length → m < 80 → lv n l → hp'.1 M = some (mo_o M n ln cm xs.length (nI p') (-1) 0) → rows hp' M (va_up C (80 + m) l) → sm hp hp' M (M + 4) → Q none hp')
    (hQ0 : ∀ (e : Nat) (a : Int32) (C' : Nat → sp_Ln) (hp' : mj_H), rd_line xs n m p = .inr e → e ≤ xs.length → hp'.1 M = some (mo_o M n ln cm xs.length a (nI e) 0) → rows hp' M C' → (∀ j, j < 80 → C' j = C j) → sm hp hp' M (M + 4) → Q none hp') : mj_call 116 [.ref M, .int (nI (80 + m))] hp Q := by
  have hx4 : xs.length ≤ 4000 := by obtain ⟨f, -, -, q, -⟩ := hu; exact q
  have hb : ∀ c ∈ xs, c < 256 := by obtain ⟨f, -, -, -, q⟩ := hu; exact q
  have v32 : ∀ q, (hv xs q = 32) = (xs[q]? = some 32) := fun q => hv_eq (v := 32) hb (by decide)
  have v10 : ∀ q, (hv xs q = 10) = (xs[q]? = some 10) := fun q => hv_eq (v := 10) hb (by decide)
  have n1 : ((-1 : Int32) < 0) = True := by decide
  have n2 : ((0 : Int32) ≤ -1) = False := by decide
  rw [en_116]
  cases hkd : rd_kind xs p with
  | none =>
    have so : ∀ (Q : mj_Q), mj_call 110 [.int (hv xs p)] hp Q = Q (some (.int (-1))) hp := by intro Q; rw [m_kindOf hb, hkd]
    simp only [x_116_0, x_116_1, x_116_4, x_116_7, x_116_8, x_116_9, x_116_19, x_116_20, x_116_21, x_116_24, x_116_27, mw_nx, mw_no, mw_ite, mw_call, mw_ret, mw_cst, mw_ii, mw_i1, mw_ll, mw_l1, mw_li, mw_i2l, mw_l2i, mw_lcm, mw_if, mw_ic, mw_ifnN, mw_ifnR, mw_go, mw_dupi, mw_dupr, mw_popi, mw_popr, mw_nw, mw_rti, mw_rtl, mw_rtr, mw_rtn, mw_rtv, mw_rt0, mw_rt1, mj_ild, mj_lld, mj_ald, mj_ist, mj_lst, mj_ast, mj_inc, mj_iz, mj_get, mj_put, mj_len, mj_iar, mj_aar, mj_iaw, mj_aaw, mj_ivs, mj_ivv, mj_ivi, mj_ob, mj_tk, mj_cat, mj_st1, mj_st2, mj_clr, mj_nwi, mj_nwq, List.getElem?_cons_zero, List.getElem?_cons_succ, List.length_cons, List.length_nil, List.set_cons_zero, List.set_cons_succ, Value.category, decide_eq_true_eq, List.map_cons, List.map_nil, List.sum_cons, List.sum_nil, Option.toList, List.cons_append, List.nil_append, ite_true, ite_false, if_true, if_false, reduceCtorEq, true_and, and_true, narrow_i, narrow_l, narrow_r, narrow_n, fits_i, fits_l, fits_ro, fits_ra, fits_no, fits_na, Nat.reduceAdd, Nat.reduceLT, Nat.reduceLeDiff, Nat.reduceEqDiff, Nat.reduceSub, zero_add0, true_or, or_true, false_or, or_false, not_true_eq_false, not_false_eq_true, eq_self, i10, i01, im0, im1, h, m_look h hu (show p < 2 ^ 31 by omega), so, n1, m_fail _ h]
    exact hQ0 p _ C _ (by unfold rd_line; rw [hkd]) hple mj_up_at (hr.keep (mj_up_off (by omega)) (mj_up_off (by omega)) (mj_up_off (by omega))) (fun _ _ => rfl) (sm.up (by omega) (by omega))
  | some s =>
    obtain ⟨hs3, hplt⟩ := rd_kind_le hkd
    have so : ∀ (Q : mj_Q), mj_call 110 [.int (hv xs p)] hp Q = Q (some (.int (nI s))) hp := by intro Q; rw [m_kindOf hb, hkd]
    have s0 : ¬ nI s < 0 := nI_pos (by omega)
    have e1 : (nI (80 + m) = 160) = (80 + m = 160) := propext (nI_eq (b := 160) (by omega) (by omega))
    by_cases w : m = 80
    · have q := eq_true (show 80 + m = 160 by omega)
      simp only [x_116_0, x_116_1, x_116_4, x_116_7, x_116_8, x_116_9, x_116_12, x_116_13, x_116_16, x_116_19, x_116_20, x_116_21, x_116_24, x_116_27, mw_nx, mw_no, mw_ite, mw_call, mw_ret, mw_cst, mw_ii, mw_i1, mw_ll, mw_l1, mw_li, mw_i2l, mw_l2i, mw_lcm, mw_if, mw_ic, mw_ifnN, mw_ifnR, mw_go, mw_dupi, mw_dupr, mw_popi, mw_popr, mw_nw, mw_rti, mw_rtl, mw_rtr, mw_rtn, mw_rtv, mw_rt0, mw_rt1, mj_ild, mj_lld, mj_ald, mj_ist, mj_lst, mj_ast, mj_inc, mj_iz, mj_get, mj_put, mj_len, mj_iar, mj_aar, mj_iaw, mj_aaw, mj_ivs, mj_ivv, mj_ivi, mj_ob, mj_tk, mj_cat, mj_st1, mj_st2, mj_clr, mj_nwi, mj_nwq, List.getElem?_cons_zero, List.getElem?_cons_succ, List.length_cons, List.length_nil, List.set_cons_zero, List.set_cons_succ, Value.category, decide_eq_true_eq, List.map_cons, List.map_nil, List.sum_cons, List.sum_nil, Option.toList, List.cons_append, List.nil_append, ite_true, ite_false, if_true, if_false, reduceCtorEq, true_and, and_true, narrow_i, narrow_l, narrow_r, narrow_n, fits_i, fits_l, fits_ro, fits_ra, fits_no, fits_na, Nat.reduceAdd, Nat.reduceLT, Nat.reduceLeDiff, Nat.reduceEqDiff, Nat.reduceSub, zero_add0, true_or, or_true, false_or, or_false, not_true_eq_false, not_false_eq_true, eq_self, i10, i01, im0, im1, h, m_look h hu (show p < 2 ^ 31 by omega), so, s0, e1, q, m_fail _ h]
      exact hQ0 p _ C _ (by unfold rd_line; rw [hkd]; dsimp only; rw [if_pos w]) hple mj_up_at (hr.keep (mj_up_off (by omega)) (mj_up_off (by omega)) (mj_up_off (by omega))) (fun _ _ => rfl) (sm.up (by omega) (by omega))
    · have q := eq_false (show ¬ 80 + m = 160 by omega)
      have hline : rd_line xs n m p = match rd_lits 4000 xs n s [] (p + 1) with
        | .inr e => .inr e
        | .inl (cs, q) => if xs[q]? = some 10 then .inl ((s, cs), q + 1) else .inr q := by
        unfold rd_line; rw [hkd]; dsimp only; rw [if_neg w]
        rcases rd_lits 4000 xs n s [] (p + 1) with ⟨cs, q⟩ | e <;> rfl
      have i0 : ¬ nI (80 + m) < 0 := nI_pos (by omega)
      have i1 : (nI (80 + m)).toNatClampNeg = 80 + m := nI_clamp (by omega)
      have i2 : ¬ 160 ≤ 80 + m := by omega
      have hoff : ∀ (l : sp_Ln) (j : Nat), j < 80 → va_up C (80 + m) l j = C j := fun l j hj => va_up_ne _ _ (by omega)
      have last : ∀ (cs : List Nat) (q : Nat) (hp2 : mj_H), q ≤ xs.length → p < q → lv n (s, cs) → .inl (cs, q) = rd_lits 4000 xs n s [] (p + 1) → hp2.1 M = some (mo_o M n ln cm xs.length (nI q) (-1) 0) → mo_u hp2 M xs → rows hp2 M (va_up C (80 + m) (s, cs)) → sm hp hp2 M (M + 4) → mj_wp 116 86 [some (.ref M), some (.int (nI (80 + m))), some (.int (nI s))] [] hp2 Q := by
        intro cs q hp2 hq hpq hlv he h2 u2 r2 s2
        rw [← he] at hline
        dsimp only at hline
        by_cases w1 : xs[q]? = some 10
        · have q1 := eq_true w1
          rw [if_pos w1] at hline
          simp only [x_116_86, x_116_87, x_116_90, x_116_93, x_116_94, x_116_97, x_116_99, x_116_110, x_116_111, x_116_112, x_116_115, x_116_116, x_116_117, x_116_120, mw_nx, mw_no, mw_ite, mw_call, mw_ret, mw_cst, mw_ii, mw_i1, mw_ll, mw_l1, mw_li, mw_i2l, mw_l2i, mw_lcm, mw_if, mw_ic, mw_ifnN, mw_ifnR, mw_go, mw_dupi, mw_dupr, mw_popi, mw_popr, mw_nw, mw_rti, mw_rtl, mw_rtr, mw_rtn, mw_rtv, mw_rt0, mw_rt1, mj_ild, mj_lld, mj_ald, mj_ist, mj_lst, mj_ast, mj_inc, mj_iz, mj_get, mj_put, mj_len, mj_iar, mj_aar, mj_iaw, mj_aaw, mj_ivs, mj_ivv, mj_ivi, mj_ob, mj_tk, mj_cat, mj_st1, mj_st2, mj_clr, mj_nwi, mj_nwq, List.getElem?_cons_zero, List.getElem?_cons_succ, List.length_cons, List.length_nil, List.set_cons_zero, List.set_cons_succ, Value.category, decide_eq_true_eq, List.map_cons, List.map_nil, List.sum_cons, List.sum_nil, Option.toList, List.cons_append, List.nil_append, ite_true, ite_false, if_true, if_false, reduceCtorEq, true_and, and_true, narrow_i, narrow_l, narrow_r, narrow_n, fits_i, fits_l, fits_ro, fits_ra, fits_no, fits_na, Nat.reduceAdd, Nat.reduceLT, Nat.reduceLeDiff, Nat.reduceEqDiff, Nat.reduceSub, zero_add0, true_or, or_true, false_or, or_false, not_true_eq_false, not_false_eq_true, eq_self, i10, i01, im0, im1, h2, n2, m_look h2 u2 (show q < 2 ^ 31 by omega), v10, q1, nI_1]
          exact hQ1 _ _ _ hline (by omega) (get_lt w1) (by omega) hlv mj_up_at (r2.keep (mj_up_off (by omega)) (mj_up_off (by omega)) (mj_up_off (by omega))) (s2.tr (sm.up (by omega) (by omega)))
        · have q1 := eq_false w1
          rw [if_neg w1] at hline
          simp only [x_116_86, x_116_87, x_116_90, x_116_93, x_116_94, x_116_97, x_116_99, x_116_102, x_116_103, x_116_104, x_116_107, x_116_110, x_116_111, x_116_112, x_116_115, x_116_116, x_116_117, x_116_120, mw_nx, mw_no, mw_ite, mw_call, mw_ret, mw_cst, mw_ii, mw_i1, mw_ll, mw_l1, mw_li, mw_i2l, mw_l2i, mw_lcm, mw_if, mw_ic, mw_ifnN, mw_ifnR, mw_go, mw_dupi, mw_dupr, mw_popi, mw_popr, mw_nw, mw_rti, mw_rtl, mw_rtr, mw_rtn, mw_rtv, mw_rt0, mw_rt1, mj_ild, mj_lld, mj_ald, mj_ist, mj_lst, mj_ast, mj_inc, mj_iz, mj_get, mj_put, mj_len, mj_iar, mj_aar, mj_iaw, mj_aaw, mj_ivs, mj_ivv, mj_ivi, mj_ob, mj_tk, mj_cat, mj_st1, mj_st2, mj_clr, mj_nwi, mj_nwq, List.getElem?_cons_zero, List.getElem?_cons_succ, List.length_cons, List.length_nil, List.set_cons_zero, List.set_cons_succ, Value.category, decide_eq_true_eq, List.map_cons, List.map_nil, List.sum_cons, List.sum_nil, Option.toList, List.cons_append, List.nil_append, ite_true, ite_false, if_true, if_false, reduceCtorEq, true_and, and_true, narrow_i, narrow_l, narrow_r, narrow_n, fits_i, fits_l, fits_ro, fits_ra, fits_no, fits_na, Nat.reduceAdd, Nat.reduceLT, Nat.reduceLeDiff, Nat.reduceEqDiff, Nat.reduceSub, zero_add0, true_or, or_true, false_or, or_false, not_true_eq_false, not_false_eq_true, eq_self, i10, i01, im0, im1, h2, n2, m_look h2 u2 (show q < 2 ^ 31 by omega), v10, q1, m_fail _ h2, mj_up_at, nI_1]
          exact hQ0 q _ _ _ hline hq mj_up_at ((r2.keep (mj_up_off (by omega)) (mj_up_off (by omega)) (mj_up_off (by omega))).keep (mj_up_off (by omega)) (mj_up_off (by omega)) (mj_up_off (by omega))) (hoff _) ((s2.tr (sm.up (by omega) (by omega))).tr (sm.up (by omega) (by omega)))
      have key : ∀ (f : Nat) (cs : List Nat) (q : Nat) (hp2 : mj_H), xs.length ≤ q + f → q ≤ xs.length → p < q → lv n (s, cs) → rd_lits f xs n s cs q = rd_lits 4000 xs n s [] (p + 1) → hp2.1 M = some (mo_o M n ln cm xs.length (nI q) (-1) 0) → mo_u hp2 M xs → rows hp2 M (va_up C (80 + m) (s, cs)) → sm hp hp2 M (M + 4) → mj_wp 116 52 [some (.ref M), some (.int (nI (80 + m))), some (.int (nI s))] [] hp2 Q := by
        intro f
        induction f with
        | zero =>
          intro cs q hp2 hf hq hpq hlv he h2 u2 r2 s2
          rw [rd_lits] at he
          have w3 : (xs[q]? = some 32) = False := eq_false (fun z => by have := get_lt z; omega)
          rw [x_116_52]
          simp only [x_116_53, x_116_56, x_116_59, x_116_60, x_116_63, x_116_65, mw_nx, mw_no, mw_ite, mw_call, mw_ret, mw_cst, mw_ii, mw_i1, mw_ll, mw_l1, mw_li, mw_i2l, mw_l2i, mw_lcm, mw_if, mw_ic, mw_ifnN, mw_ifnR, mw_go, mw_dupi, mw_dupr, mw_popi, mw_popr, mw_nw, mw_rti, mw_rtl, mw_rtr, mw_rtn, mw_rtv, mw_rt0, mw_rt1, mj_ild, mj_lld, mj_ald, mj_ist, mj_lst, mj_ast, mj_inc, mj_iz, mj_get, mj_put, mj_len, mj_iar, mj_aar, mj_iaw, mj_aaw, mj_ivs, mj_ivv, mj_ivi, mj_ob, mj_tk, mj_cat, mj_st1, mj_st2, mj_clr, mj_nwi, mj_nwq, List.getElem?_cons_zero, List.getElem?_cons_succ, List.length_cons, List.length_nil, List.set_cons_zero, List.set_cons_succ, Value.category, decide_eq_true_eq, List.map_cons, List.map_nil, List.sum_cons, List.sum_nil, Option.toList, List.cons_append, List.nil_append, ite_true, ite_false, if_true, if_false, reduceCtorEq, true_and, and_true, narrow_i, narrow_l, narrow_r, narrow_n, fits_i, fits_l, fits_ro, fits_ra, fits_no, fits_na, Nat.reduceAdd, Nat.reduceLT, Nat.reduceLeDiff, Nat.reduceEqDiff, Nat.reduceSub, zero_add0, true_or, or_true, false_or, or_false, not_true_eq_false, not_false_eq_true, eq_self, i10, i01, im0, im1, h2, n2, m_look h2 u2 (show q < 2 ^ 31 by omega), v32, w3]
          exact last cs q hp2 hq hpq hlv he h2 u2 r2 s2
        | succ f ih =>
          intro cs q hp2 hf hq hpq hlv he h2 u2 r2 s2
          rw [rd_lits] at he
          rw [x_116_52]
          by_cases w3 : xs[q]? = some 32
          · have q3 := eq_true w3
            rw [if_pos w3] at he
            have hqlt := get_lt w3
            have h3 : (mj_up hp2 M (mo_o M n ln cm xs.length (nI (q + 1)) (-1) 0)).1 M = some (mo_o M n ln cm xs.length (nI (q + 1)) (-1) 0) := mj_up_at
            have u3 : mo_u (mj_up hp2 M (mo_o M n ln cm xs.length (nI (q + 1)) (-1) 0)) M xs := u2.keep (mj_up_off (by omega))
            have r3 : rows (mj_up hp2 M (mo_o M n ln cm xs.length (nI (q + 1)) (-1) 0)) M (va_up C (80 + m) (s, cs)) := r2.keep (mj_up_off (by omega)) (mj_up_off (by omega)) (mj_up_off (by omega))
            simp only [x_116_53, x_116_56, x_116_59, x_116_60, x_116_63, x_116_65, x_116_68, x_116_69, x_116_70, x_116_73, x_116_74, x_116_75, x_116_78, x_116_79, x_116_80, mw_nx, mw_no, mw_ite, mw_call, mw_ret, mw_cst, mw_ii, mw_i1, mw_ll, mw_l1, mw_li, mw_i2l, mw_l2i, mw_lcm, mw_if, mw_ic, mw_ifnN, mw_ifnR, mw_go, mw_dupi, mw_dupr, mw_popi, mw_popr, mw_nw, mw_rti, mw_rtl, mw_rtr, mw_rtn, mw_rtv, mw_rt0, mw_rt1, mj_ild, mj_lld, mj_ald, mj_ist, mj_lst, mj_ast, mj_inc, mj_iz, mj_get, mj_put, mj_len, mj_iar, mj_aar, mj_iaw, mj_aaw, mj_ivs, mj_ivv, mj_ivi, mj_ob, mj_tk, mj_cat, mj_st1, mj_st2, mj_clr, mj_nwi, mj_nwq, List.getElem?_cons_zero, List.getElem?_cons_succ, List.length_cons, List.length_nil, List.set_cons_zero, List.set_cons_succ, Value.category, decide_eq_true_eq, List.map_cons, List.map_nil, List.sum_cons, List.sum_nil, Option.toList, List.cons_append, List.nil_append, ite_true, ite_false, if_true, if_false, reduceCtorEq, true_and, and_true, narrow_i, narrow_l, narrow_r, narrow_n, fits_i, fits_l, fits_ro, fits_ra, fits_no, fits_na, Nat.reduceAdd, Nat.reduceLT, Nat.reduceLeDiff, Nat.reduceEqDiff, Nat.reduceSub, zero_add0, true_or, or_true, false_or, or_false, not_true_eq_false, not_false_eq_true, eq_self, i10, i01, im0, im1, h2, n2, m_look h2 u2 (show q < 2 ^ 31 by omega), v32, q3, nI_1, mj_up_at]
            refine m_readLiteral h3 u3 r3 hn hqlt (show 80 + m < 160 by omega) (fun c p' hp4 hlit hpp hp'le hc htk h4 r4 s4 => ?_) (fun e q' hp4 hlit hele hq' h4 r4 s4 => ?_)
            · rw [va_up_self] at hlit htk r4
              rw [va_up_up2] at r4
              rw [hlit] at he
              dsimp only at he
              simp only [x_116_83, mw_nx, mw_no, mw_ite, mw_call, mw_ret, mw_cst, mw_ii, mw_i1, mw_ll, mw_l1, mw_li, mw_i2l, mw_l2i, mw_lcm, mw_if, mw_ic, mw_ifnN, mw_ifnR, mw_go, mw_dupi, mw_dupr, mw_popi, mw_popr, mw_nw, mw_rti, mw_rtl, mw_rtr, mw_rtn, mw_rtv, mw_rt0, mw_rt1, mj_ild, mj_lld, mj_ald, mj_ist, mj_lst, mj_ast, mj_inc, mj_iz, mj_get, mj_put, mj_len, mj_iar, mj_aar, mj_iaw, mj_aaw, mj_ivs, mj_ivv, mj_ivi, mj_ob, mj_tk, mj_cat, mj_st1, mj_st2, mj_clr, mj_nwi, mj_nwq, List.getElem?_cons_zero, List.getElem?_cons_succ, List.length_cons, List.length_nil, List.set_cons_zero, List.set_cons_succ, Value.category, decide_eq_true_eq, List.map_cons, List.map_nil, List.sum_cons, List.sum_nil, Option.toList, List.cons_append, List.nil_append, ite_true, ite_false, if_true, if_false, reduceCtorEq, true_and, and_true, narrow_i, narrow_l, narrow_r, narrow_n, fits_i, fits_l, fits_ro, fits_ra, fits_no, fits_na, Nat.reduceAdd, Nat.reduceLT, Nat.reduceLeDiff, Nat.reduceEqDiff, Nat.reduceSub, zero_add0, true_or, or_true, false_or, or_false, not_true_eq_false, not_false_eq_true, eq_self, i10, i01, im0, im1]
              exact ih (cs ++ [c]) p' hp4 (by omega) hp'le (by omega) (lv_add hlv hc htk) he h4 (u3.keep (s4.2 _ (by omega))) r4 ((s2.tr (sm.up (by omega) (by omega))).tr s4)
            · rw [va_up_self] at hlit
              rw [hlit] at he
              dsimp only at he
              rw [← he] at hline
              dsimp only at hline
              have e0 : (0 : Int32) ≤ nI e := by
                have := nI_pos (n := e) (by omega)
                rw [Int32.le_iff_toInt_le]; rw [Int32.lt_iff_toInt_lt] at this; omega
              simp only [x_116_83, mw_nx, mw_no, mw_ite, mw_call, mw_ret, mw_cst, mw_ii, mw_i1, mw_ll, mw_l1, mw_li, mw_i2l, mw_l2i, mw_lcm, mw_if, mw_ic, mw_ifnN, mw_ifnR, mw_go, mw_dupi, mw_dupr, mw_popi, mw_popr, mw_nw, mw_rti, mw_rtl, mw_rtr, mw_rtn, mw_rtv, mw_rt0, mw_rt1, mj_ild, mj_lld, mj_ald, mj_ist, mj_lst, mj_ast, mj_inc, mj_iz, mj_get, mj_put, mj_len, mj_iar, mj_aar, mj_iaw, mj_aaw, mj_ivs, mj_ivv, mj_ivi, mj_ob, mj_tk, mj_cat, mj_st1, mj_st2, mj_clr, mj_nwi, mj_nwq, List.getElem?_cons_zero, List.getElem?_cons_succ, List.length_cons, List.length_nil, List.set_cons_zero, List.set_cons_succ, Value.category, decide_eq_true_eq, List.map_cons, List.map_nil, List.sum_cons, List.sum_nil, Option.toList, List.cons_append, List.nil_append, ite_true, ite_false, if_true, if_false, reduceCtorEq, true_and, and_true, narrow_i, narrow_l, narrow_r, narrow_n, fits_i, fits_l, fits_ro, fits_ra, fits_no, fits_na, Nat.reduceAdd, Nat.reduceLT, Nat.reduceLeDiff, Nat.reduceEqDiff, Nat.reduceSub, zero_add0, true_or, or_true, false_or, or_false, not_true_eq_false, not_false_eq_true, eq_self, i10, i01, im0, im1]
              rw [x_116_52]
              simp only [x_116_53, x_116_56, x_116_86, x_116_87, x_116_90, x_116_110, x_116_111, x_116_112, x_116_115, x_116_116, x_116_117, x_116_120, mw_nx, mw_no, mw_ite, mw_call, mw_ret, mw_cst, mw_ii, mw_i1, mw_ll, mw_l1, mw_li, mw_i2l, mw_l2i, mw_lcm, mw_if, mw_ic, mw_ifnN, mw_ifnR, mw_go, mw_dupi, mw_dupr, mw_popi, mw_popr, mw_nw, mw_rti, mw_rtl, mw_rtr, mw_rtn, mw_rtv, mw_rt0, mw_rt1, mj_ild, mj_lld, mj_ald, mj_ist, mj_lst, mj_ast, mj_inc, mj_iz, mj_get, mj_put, mj_len, mj_iar, mj_aar, mj_iaw, mj_aaw, mj_ivs, mj_ivv, mj_ivi, mj_ob, mj_tk, mj_cat, mj_st1, mj_st2, mj_clr, mj_nwi, mj_nwq, List.getElem?_cons_zero, List.getElem?_cons_succ, List.length_cons, List.length_nil, List.set_cons_zero, List.set_cons_succ, Value.category, decide_eq_true_eq, List.map_cons, List.map_nil, List.sum_cons, List.sum_nil, Option.toList, List.cons_append, List.nil_append, ite_true, ite_false, if_true, if_false, reduceCtorEq, true_and, and_true, narrow_i, narrow_l, narrow_r, narrow_n, fits_i, fits_l, fits_ro, fits_ra, fits_no, fits_na, Nat.reduceAdd, Nat.reduceLT, Nat.reduceLeDiff, Nat.reduceEqDiff, Nat.reduceSub, zero_add0, true_or, or_true, false_or, or_false, not_true_eq_false, not_false_eq_true, eq_self, i10, i01, im0, im1, h4, e0]
              exact hQ0 e _ _ _ hline hele mj_up_at (r4.keep (mj_up_off (by omega)) (mj_up_off (by omega)) (mj_up_off (by omega))) (hoff _) (((s2.tr (sm.up (by omega) (by omega))).tr s4).tr (sm.up (by omega) (by omega)))
          · have q3 := eq_false w3
            rw [if_neg w3] at he
            simp only [x_116_53, x_116_56, x_116_59, x_116_60, x_116_63, x_116_65, mw_nx, mw_no, mw_ite, mw_call, mw_ret, mw_cst, mw_ii, mw_i1, mw_ll, mw_l1, mw_li, mw_i2l, mw_l2i, mw_lcm, mw_if, mw_ic, mw_ifnN, mw_ifnR, mw_go, mw_dupi, mw_dupr, mw_popi, mw_popr, mw_nw, mw_rti, mw_rtl, mw_rtr, mw_rtn, mw_rtv, mw_rt0, mw_rt1, mj_ild, mj_lld, mj_ald, mj_ist, mj_lst, mj_ast, mj_inc, mj_iz, mj_get, mj_put, mj_len, mj_iar, mj_aar, mj_iaw, mj_aaw, mj_ivs, mj_ivv, mj_ivi, mj_ob, mj_tk, mj_cat, mj_st1, mj_st2, mj_clr, mj_nwi, mj_nwq, List.getElem?_cons_zero, List.getElem?_cons_succ, List.length_cons, List.length_nil, List.set_cons_zero, List.set_cons_succ, Value.category, decide_eq_true_eq, List.map_cons, List.map_nil, List.sum_cons, List.sum_nil, Option.toList, List.cons_append, List.nil_append, ite_true, ite_false, if_true, if_false, reduceCtorEq, true_and, and_true, narrow_i, narrow_l, narrow_r, narrow_n, fits_i, fits_l, fits_ro, fits_ra, fits_no, fits_na, Nat.reduceAdd, Nat.reduceLT, Nat.reduceLeDiff, Nat.reduceEqDiff, Nat.reduceSub, zero_add0, true_or, or_true, false_or, or_false, not_true_eq_false, not_false_eq_true, eq_self, i10, i01, im0, im1, h2, n2, m_look h2 u2 (show q < 2 ^ 31 by omega), v32, q3]
            exact last cs q hp2 hq hpq hlv he h2 u2 r2 s2
      obtain ⟨fk, fm, fl, k1, k2, k3, k4⟩ := hr
      simp only [x_116_0, x_116_1, x_116_4, x_116_7, x_116_8, x_116_9, x_116_12, x_116_13, x_116_16, x_116_28, x_116_29, x_116_32, x_116_33, x_116_34, x_116_35, x_116_36, x_116_39, x_116_40, x_116_41, x_116_42, x_116_43, x_116_44, x_116_47, x_116_48, x_116_49, mw_nx, mw_no, mw_ite, mw_call, mw_ret, mw_cst, mw_ii, mw_i1, mw_ll, mw_l1, mw_li, mw_i2l, mw_l2i, mw_lcm, mw_if, mw_ic, mw_ifnN, mw_ifnR, mw_go, mw_dupi, mw_dupr, mw_popi, mw_popr, mw_nw, mw_rti, mw_rtl, mw_rtr, mw_rtn, mw_rtv, mw_rt0, mw_rt1, mj_ild, mj_lld, mj_ald, mj_ist, mj_lst, mj_ast, mj_inc, mj_iz, mj_get, mj_put, mj_len, mj_iar, mj_aar, mj_iaw, mj_aaw, mj_ivs, mj_ivv, mj_ivi, mj_ob, mj_tk, mj_cat, mj_st1, mj_st2, mj_clr, mj_nwi, mj_nwq, List.getElem?_cons_zero, List.getElem?_cons_succ, List.length_cons, List.length_nil, List.set_cons_zero, List.set_cons_succ, Value.category, decide_eq_true_eq, List.map_cons, List.map_nil, List.sum_cons, List.sum_nil, Option.toList, List.cons_append, List.nil_append, ite_true, ite_false, if_true, if_false, reduceCtorEq, true_and, and_true, narrow_i, narrow_l, narrow_r, narrow_n, fits_i, fits_l, fits_ro, fits_ra, fits_no, fits_na, Nat.reduceAdd, Nat.reduceLT, Nat.reduceLeDiff, Nat.reduceEqDiff, Nat.reduceSub, zero_add0, true_or, or_true, false_or, or_false, not_true_eq_false, not_false_eq_true, eq_self, i10, i01, im0, im1, h, m_look h hu (show p < 2 ^ 31 by omega), so, s0, e1, q, k1, k2, at_0, i0, i1, i2, u_0_1, u_0_2, u_0_3, u_0_4, u_0_5, u_0_6, u_0_7, u_1_0, u_1_2, u_1_3, u_1_4, u_1_5, u_1_6, u_1_7, u_2_0, u_2_1, u_2_3, u_2_4, u_2_5, u_2_6, u_2_7, u_3_0, u_3_1, u_3_2, u_3_4, u_3_5, u_3_6, u_3_7, u_4_0, u_4_1, u_4_2, u_4_3, u_4_5, u_4_6, u_4_7, u_5_0, u_5_1, u_5_2, u_5_3, u_5_4, u_5_6, u_5_7, u_6_0, u_6_1, u_6_2, u_6_3, u_6_4, u_6_5, u_6_7, u_7_0, u_7_1, u_7_2, u_7_3, u_7_4, u_7_5, u_7_6, nI_1]
      refine key 4000 [] (p + 1) _ (by omega) hplt (by omega) ⟨fun c hc => absurd hc List.not_mem_nil, fun _ c hc => absurd hc List.not_mem_nil⟩ rfl mj_up_at (hu.keep ?_) ⟨upd fk (80 + m) (nI s), upd fm (80 + m) 0, fl, ?_, ?_, ?_, rw_set k4 ⟨?_, ?_, fun j hj => absurd hj (by simp), ⟨List.nodup_nil, fun c hc => absurd hc List.not_mem_nil⟩, hs3⟩ (fun i' hne => ⟨upd_off hne, upd_off hne, fun _ _ => rfl⟩)⟩ (((sm.up (by omega) (by omega)).tr (sm.up (by omega) (by omega))).tr (sm.up (by omega) (by omega)))
      · rw [mj_up_off (by omega), mj_up_off (by omega), mj_up_off (by omega)]
      · rw [mj_up_off (by omega), mj_up_off (by omega), mj_up_at]
      · rw [mj_up_off (by omega), mj_up_at]
      · rw [mj_up_off (by omega), mj_up_off (by omega), mj_up_off (by omega)]; exact k3
      · rw [upd_at]
      · rw [upd_at]; rfl
/-- the rows read, k of them brought to their places -/
def cp (C : Nat → sp_Ln) (k : Nat) : Nat → sp_Ln := fun j => if j < k then C (80 + j) else C j
theorem cp_step {C : Nat → sp_Ln} {k : Nat} : va_up (cp C k) k (cp C k (80 + k)) = cp C (k + 1) := by
  funext j
  by_cases hj : j = k
  · subst hj
    rw [va_up_self]
    unfold cp
    rw [if_neg (by omega), if_pos (by omega)]
  · rw [va_up_ne _ _ hj]
    unfold cp
    by_cases w : j < k
    · rw [if_pos w, if_pos (by omega)]
    · rw [if_neg w, if_neg (by omega)]
theorem e_read {s : sp_S} (h : mo_at hp M s) (hQ : ∀ hp' : mj_H, mo_at hp' M (so_read s).1 → sm hp hp' M (M + 8) → Q (some (.int (so_read s).2)) hp') : mj_call 117 [.ref M] hp Q := by
  obtain ⟨a, b, t0, C, hw⟩ := mo_w_of h
  have ho := hw.2.1
  have n2 : ((0 : Int32) ≤ -1) = False := by decide
  have n1 : ((-1 : Int32) < 0) = True := by decide
  have body : ∀ hp0 : mj_H, mo_w hp0 M 0 (-1) 0 C s → sm hp hp0 M (M + 8) → mj_wp 117 17 [some (.ref M), some (.int (nI 0)), none] [] hp0 Q := by
    obtain ⟨n, col, ls, xs⟩ := s
    intro hp0 hw0 s0
    obtain ⟨hn, ho, hr, hmap, hk, hlv, hc, hcb, hu, hh⟩ := hw0
    dsimp only at *
    have hx4 : xs.length ≤ 4000 := by obtain ⟨f, -, -, q, -⟩ := hu; exact q
    unfold so_read at hQ
    dsimp only at hQ
    have copy : ∀ (C1 : Nat → sp_Ln) (ys : List sp_Ln), rd_all 4000 xs n [] 0 = .inl ys → ys.length ≤ 80 → (List.range ys.length).map (fun j => C1 (80 + j)) = ys → (∀ l ∈ ys, lv n l) → ∀ (d k : Nat) (a b : Int32) (hp1 : mj_H), k + d = ys.length → hp1.1 M = some (mo_o M n ls.length col.length 0 a b 0) → rows hp1 M (cp C1 k) → sm hp0 hp1 M (M + 4) → mj_wp 117 70 [some (.ref M), some (.int (nI ys.length)), some (.int (nI k))] [] hp1 Q := by
      intro C1 ys he hy8 hym hylv d
      induction d with
      | zero =>
        intro k a b hp1 hd h1 r1 s1
        obtain rfl : k = ys.length := by omega
        have e1 : nI ys.length ≤ nI ys.length := nI_le (Nat.le_refl _) (by omega)
        rw [he] at hQ
        dsimp only at hQ
        rw [x_117_70]
        simp only [x_117_71, x_117_72, x_117_90, x_117_91, x_117_92, x_117_95, x_117_96, mw_nx, mw_no, mw_ite, mw_call, mw_ret, mw_cst, mw_ii, mw_i1, mw_ll, mw_l1, mw_li, mw_i2l, mw_l2i, mw_lcm, mw_if, mw_ic, mw_ifnN, mw_ifnR, mw_go, mw_dupi, mw_dupr, mw_popi, mw_popr, mw_nw, mw_rti, mw_rtl, mw_rtr, mw_rtn, mw_rtv, mw_rt0, mw_rt1, mj_ild, mj_lld, mj_ald, mj_ist, mj_lst, mj_ast, mj_inc, mj_iz, mj_get, mj_put, mj_len, mj_iar, mj_aar, mj_iaw, mj_aaw, mj_ivs, mj_ivv, mj_ivi, mj_ob, mj_tk, mj_cat, mj_st1, mj_st2, mj_clr, mj_nwi, mj_nwq, List.getElem?_cons_zero, List.getElem?_cons_succ, List.length_cons, List.length_nil, List.set_cons_zero, List.set_cons_succ, Value.category, decide_eq_true_eq, List.map_cons, List.map_nil, List.sum_cons, List.sum_nil, Option.toList, List.cons_append, List.nil_append, ite_true, ite_false, if_true, if_false, reduceCtorEq, true_and, and_true, narrow_i, narrow_l, narrow_r, narrow_n, fits_i, fits_l, fits_ro, fits_ra, fits_no, fits_na, Nat.reduceAdd, Nat.reduceLT, Nat.reduceLeDiff, Nat.reduceEqDiff, Nat.reduceSub, zero_add0, true_or, or_true, false_or, or_false, not_true_eq_false, not_false_eq_true, eq_self, i10, i01, im0, im1, h1, e1]
        obtain ⟨fu, u1, -, -, -⟩ := hu
        refine hQ _ ⟨hn, a, b, 0, cp C1 ys.length, mj_up_at, r1.keep (mj_up_off (by omega)) (mj_up_off (by omega)) (mj_up_off (by omega)), ?_, hy8, hylv, hc.keep ?_, hcb, ⟨fu, ?_, fun j hj => absurd hj (by simp), by simp, fun c hc => absurd hc List.not_mem_nil⟩, hh.keep ?_ ?_⟩ ((s0.tr (s1.mono (by omega) (by omega))).tr (sm.up (by omega) (by omega)))
        · dsimp only
          conv => rhs; rw [← hym]
          apply List.map_congr_left
          intro j hj
          unfold cp
          rw [if_pos (List.mem_range.mp hj)]
        · rw [mj_up_off (by omega)]; exact s1.2 _ (by omega)
        · rw [mj_up_off (by omega), s1.2 _ (by omega)]; exact u1
        · rw [mj_up_off (by omega)]; exact s1.2 _ (by omega)
        · rw [mj_up_off (by omega)]; exact s1.2 _ (by omega)
      | succ d ih =>
        intro k a b hp1 hd h1 r1 s1
        have e1 : ¬ nI ys.length ≤ nI k := nI_ge (by omega) (by omega)
        have e2 : (80 : Int32) + nI k = nI (80 + k) := nI_add 80 k
        rw [x_117_70]
        simp only [x_117_71, x_117_72, x_117_75, x_117_76, x_117_78, x_117_79, x_117_80, x_117_81, mw_nx, mw_no, mw_ite, mw_call, mw_ret, mw_cst, mw_ii, mw_i1, mw_ll, mw_l1, mw_li, mw_i2l, mw_l2i, mw_lcm, mw_if, mw_ic, mw_ifnN, mw_ifnR, mw_go, mw_dupi, mw_dupr, mw_popi, mw_popr, mw_nw, mw_rti, mw_rtl, mw_rtr, mw_rtn, mw_rtv, mw_rt0, mw_rt1, mj_ild, mj_lld, mj_ald, mj_ist, mj_lst, mj_ast, mj_inc, mj_iz, mj_get, mj_put, mj_len, mj_iar, mj_aar, mj_iaw, mj_aaw, mj_ivs, mj_ivv, mj_ivi, mj_ob, mj_tk, mj_cat, mj_st1, mj_st2, mj_clr, mj_nwi, mj_nwq, List.getElem?_cons_zero, List.getElem?_cons_succ, List.length_cons, List.length_nil, List.set_cons_zero, List.set_cons_succ, Value.category, decide_eq_true_eq, List.map_cons, List.map_nil, List.sum_cons, List.sum_nil, Option.toList, List.cons_append, List.nil_append, ite_true, ite_false, if_true, if_false, reduceCtorEq, true_and, and_true, narrow_i, narrow_l, narrow_r, narrow_n, fits_i, fits_l, fits_ro, fits_ra, fits_no, fits_na, Nat.reduceAdd, Nat.reduceLT, Nat.reduceLeDiff, Nat.reduceEqDiff, Nat.reduceSub, zero_add0, true_or, or_true, false_or, or_false, not_true_eq_false, not_false_eq_true, eq_self, i10, i01, im0, im1, h1, e1, e2]
        refine m_copyLine h1 r1 (show 80 + k < 160 by omega) (show k < 160 by omega) (by omega) (fun hp2 r2 s2 => ?_)
        rw [cp_step] at r2
        simp only [x_117_84, x_117_87, mw_nx, mw_no, mw_ite, mw_call, mw_ret, mw_cst, mw_ii, mw_i1, mw_ll, mw_l1, mw_li, mw_i2l, mw_l2i, mw_lcm, mw_if, mw_ic, mw_ifnN, mw_ifnR, mw_go, mw_dupi, mw_dupr, mw_popi, mw_popr, mw_nw, mw_rti, mw_rtl, mw_rtr, mw_rtn, mw_rtv, mw_rt0, mw_rt1, mj_ild, mj_lld, mj_ald, mj_ist, mj_lst, mj_ast, mj_inc, mj_iz, mj_get, mj_put, mj_len, mj_iar, mj_aar, mj_iaw, mj_aaw, mj_ivs, mj_ivv, mj_ivi, mj_ob, mj_tk, mj_cat, mj_st1, mj_st2, mj_clr, mj_nwi, mj_nwq, List.getElem?_cons_zero, List.getElem?_cons_succ, List.length_cons, List.length_nil, List.set_cons_zero, List.set_cons_succ, Value.category, decide_eq_true_eq, List.map_cons, List.map_nil, List.sum_cons, List.sum_nil, Option.toList, List.cons_append, List.nil_append, ite_true, ite_false, if_true, if_false, reduceCtorEq, true_and, and_true, narrow_i, narrow_l, narrow_r, narrow_n, fits_i, fits_l, fits_ro, fits_ra, fits_no, fits_na, Nat.reduceAdd, Nat.reduceLT, Nat.reduceLeDiff, Nat.reduceEqDiff, Nat.reduceSub, zero_add0, true_or, or_true, false_or, or_false, not_true_eq_false, not_false_eq_true, eq_self, i10, i01, im0, im1, nI_1]
        exact ih (k + 1) a b hp2 (by omega) ((s2.2 _ (by omega)).trans h1) r2 (s1.tr (s2.mono (by omega) (by omega)))
    have fin : ∀ (C1 : Nat → sp_Ln) (ys : List sp_Ln) (q : Nat) (hp1 : mj_H) (o2 : Option Value), rd_all 4000 xs n [] 0 = .inl ys → ys.length ≤ 80 → (List.range ys.length).map (fun j => C1 (80 + j)) = ys → (∀ l ∈ ys, lv n l) → hp1.1 M = some (mo_o M n ls.length col.length xs.length (nI q) (-1) 0) → rows hp1 M C1 → sm hp0 hp1 M (M + 4) → mj_wp 117 49 [some (.ref M), some (.int (nI ys.length)), o2] [] hp1 Q := by
      intro C1 ys q hp1 o2 he hy8 hym hylv h1 r1 s1
      simp only [x_117_49, x_117_50, x_117_51, x_117_54, x_117_55, x_117_58, x_117_61, x_117_62, x_117_63, x_117_66, x_117_67, x_117_68, x_117_69, mw_nx, mw_no, mw_ite, mw_call, mw_ret, mw_cst, mw_ii, mw_i1, mw_ll, mw_l1, mw_li, mw_i2l, mw_l2i, mw_lcm, mw_if, mw_ic, mw_ifnN, mw_ifnR, mw_go, mw_dupi, mw_dupr, mw_popi, mw_popr, mw_nw, mw_rti, mw_rtl, mw_rtr, mw_rtn, mw_rtv, mw_rt0, mw_rt1, mj_ild, mj_lld, mj_ald, mj_ist, mj_lst, mj_ast, mj_inc, mj_iz, mj_get, mj_put, mj_len, mj_iar, mj_aar, mj_iaw, mj_aaw, mj_ivs, mj_ivv, mj_ivi, mj_ob, mj_tk, mj_cat, mj_st1, mj_st2, mj_clr, mj_nwi, mj_nwq, List.getElem?_cons_zero, List.getElem?_cons_succ, List.length_cons, List.length_nil, List.set_cons_zero, List.set_cons_succ, Value.category, decide_eq_true_eq, List.map_cons, List.map_nil, List.sum_cons, List.sum_nil, Option.toList, List.cons_append, List.nil_append, ite_true, ite_false, if_true, if_false, reduceCtorEq, true_and, and_true, narrow_i, narrow_l, narrow_r, narrow_n, fits_i, fits_l, fits_ro, fits_ra, fits_no, fits_na, Nat.reduceAdd, Nat.reduceLT, Nat.reduceLeDiff, Nat.reduceEqDiff, Nat.reduceSub, zero_add0, true_or, or_true, false_or, or_false, not_true_eq_false, not_false_eq_true, eq_self, i10, i01, im0, im1, h1, mj_up_at, n1]
      have h00 : cp C1 0 = C1 := by
        funext j; unfold cp; rw [if_neg (by omega)]
      exact copy C1 ys he hy8 hym hylv ys.length 0 _ _ _ (by omega) mj_up_at (by rw [h00]; exact r1.keep (mj_up_off (by omega)) (mj_up_off (by omega)) (mj_up_off (by omega))) (s1.tr (sm.up (by omega) (by omega)))
    have key : ∀ (f : Nat) (ys : List sp_Ln) (C1 : Nat → sp_Ln) (q : Nat) (hp1 : mj_H) (o2 : Option Value), xs.length ≤ q + f → q ≤ xs.length → ys.length ≤ 80 → (List.range ys.length).map (fun j => C1 (80 + j)) = ys → (∀ j, j < 80 → C1 j = C j) → (∀ l ∈ ys, lv n l) → rd_all f xs n ys q = rd_all 4000 xs n [] 0 → hp1.1 M = some (mo_o M n ls.length col.length xs.length (nI q) (-1) 0) → rows hp1 M C1 → sm hp0 hp1 M (M + 4) → mj_wp 117 17 [some (.ref M), some (.int (nI ys.length)), o2] [] hp1 Q := by
      intro f
      induction f with
      | zero =>
        intro ys C1 q hp1 o2 hf hq hy8 hym hC1 hylv he h1 r1 s1
        have e2 : nI xs.length ≤ nI q := nI_le (by omega) (by omega)
        rw [x_117_17]
        simp only [x_117_18, x_117_21, x_117_24, x_117_25, x_117_28, x_117_29, x_117_32, mw_nx, mw_no, mw_ite, mw_call, mw_ret, mw_cst, mw_ii, mw_i1, mw_ll, mw_l1, mw_li, mw_i2l, mw_l2i, mw_lcm, mw_if, mw_ic, mw_ifnN, mw_ifnR, mw_go, mw_dupi, mw_dupr, mw_popi, mw_popr, mw_nw, mw_rti, mw_rtl, mw_rtr, mw_rtn, mw_rtv, mw_rt0, mw_rt1, mj_ild, mj_lld, mj_ald, mj_ist, mj_lst, mj_ast, mj_inc, mj_iz, mj_get, mj_put, mj_len, mj_iar, mj_aar, mj_iaw, mj_aaw, mj_ivs, mj_ivv, mj_ivi, mj_ob, mj_tk, mj_cat, mj_st1, mj_st2, mj_clr, mj_nwi, mj_nwq, List.getElem?_cons_zero, List.getElem?_cons_succ, List.length_cons, List.length_nil, List.set_cons_zero, List.set_cons_succ, Value.category, decide_eq_true_eq, List.map_cons, List.map_nil, List.sum_cons, List.sum_nil, Option.toList, List.cons_append, List.nil_append, ite_true, ite_false, if_true, if_false, reduceCtorEq, true_and, and_true, narrow_i, narrow_l, narrow_r, narrow_n, fits_i, fits_l, fits_ro, fits_ra, fits_no, fits_na, Nat.reduceAdd, Nat.reduceLT, Nat.reduceLeDiff, Nat.reduceEqDiff, Nat.reduceSub, zero_add0, true_or, or_true, false_or, or_false, not_true_eq_false, not_false_eq_true, eq_self, i10, i01, im0, im1, h1, n2, e2]
        exact fin C1 ys q hp1 o2 (by rw [← he, rd_all]) hy8 hym hylv h1 r1 s1
      | succ f ih =>
        intro ys C1 q hp1 o2 hf hq hy8 hym hC1 hylv he h1 r1 s1
        have e2 : (nI xs.length ≤ nI q) = (xs.length ≤ q) := propext (nI_leI (by omega) (by omega))
        have e3 : (80 : Int32) + nI ys.length = nI (80 + ys.length) := nI_add 80 _
        rw [rd_all] at he
        rw [x_117_17]
        by_cases w : q < xs.length
        · have q2 := eq_false (show ¬ xs.length ≤ q by omega)
          rw [if_pos w] at he
          simp only [x_117_18, x_117_21, x_117_24, x_117_25, x_117_28, x_117_29, x_117_32, x_117_35, x_117_36, x_117_38, x_117_39, x_117_40, mw_nx, mw_no, mw_ite, mw_call, mw_ret, mw_cst, mw_ii, mw_i1, mw_ll, mw_l1, mw_li, mw_i2l, mw_l2i, mw_lcm, mw_if, mw_ic, mw_ifnN, mw_ifnR, mw_go, mw_dupi, mw_dupr, mw_popi, mw_popr, mw_nw, mw_rti, mw_rtl, mw_rtr, mw_rtn, mw_rtv, mw_rt0, mw_rt1, mj_ild, mj_lld, mj_ald, mj_ist, mj_lst, mj_ast, mj_inc, mj_iz, mj_get, mj_put, mj_len, mj_iar, mj_aar, mj_iaw, mj_aaw, mj_ivs, mj_ivv, mj_ivi, mj_ob, mj_tk, mj_cat, mj_st1, mj_st2, mj_clr, mj_nwi, mj_nwq, List.getElem?_cons_zero, List.getElem?_cons_succ, List.length_cons, List.length_nil, List.set_cons_zero, List.set_cons_succ, Value.category, decide_eq_true_eq, List.map_cons, List.map_nil, List.sum_cons, List.sum_nil, Option.toList, List.cons_append, List.nil_append, ite_true, ite_false, if_true, if_false, reduceCtorEq, true_and, and_true, narrow_i, narrow_l, narrow_r, narrow_n, fits_i, fits_l, fits_ro, fits_ra, fits_no, fits_na, Nat.reduceAdd, Nat.reduceLT, Nat.reduceLeDiff, Nat.reduceEqDiff, Nat.reduceSub, zero_add0, true_or, or_true, false_or, or_false, not_true_eq_false, not_false_eq_true, eq_self, i10, i01, im0, im1, h1, n2, e2, q2, e3]
          refine m_readLine h1 (hu.keep (s1.2 _ (by omega))) r1 hn.2 hq hy8 (fun l p' hp2 hline hpp hp'le hm8 hlv2 h2 r2 s2 => ?_) (fun e a2 C2 hp2 hline hele h2 r2 hC2 s2 => ?_)
          · rw [hline] at he
            dsimp only at he
            simp only [x_117_43, x_117_46, mw_nx, mw_no, mw_ite, mw_call, mw_ret, mw_cst, mw_ii, mw_i1, mw_ll, mw_l1, mw_li, mw_i2l, mw_l2i, mw_lcm, mw_if, mw_ic, mw_ifnN, mw_ifnR, mw_go, mw_dupi, mw_dupr, mw_popi, mw_popr, mw_nw, mw_rti, mw_rtl, mw_rtr, mw_rtn, mw_rtv, mw_rt0, mw_rt1, mj_ild, mj_lld, mj_ald, mj_ist, mj_lst, mj_ast, mj_inc, mj_iz, mj_get, mj_put, mj_len, mj_iar, mj_aar, mj_iaw, mj_aaw, mj_ivs, mj_ivv, mj_ivi, mj_ob, mj_tk, mj_cat, mj_st1, mj_st2, mj_clr, mj_nwi, mj_nwq, List.getElem?_cons_zero, List.getElem?_cons_succ, List.length_cons, List.length_nil, List.set_cons_zero, List.set_cons_succ, Value.category, decide_eq_true_eq, List.map_cons, List.map_nil, List.sum_cons, List.sum_nil, Option.toList, List.cons_append, List.nil_append, ite_true, ite_false, if_true, if_false, reduceCtorEq, true_and, and_true, narrow_i, narrow_l, narrow_r, narrow_n, fits_i, fits_l, fits_ro, fits_ra, fits_no, fits_na, Nat.reduceAdd, Nat.reduceLT, Nat.reduceLeDiff, Nat.reduceEqDiff, Nat.reduceSub, zero_add0, true_or, or_true, false_or, or_false, not_true_eq_false, not_false_eq_true, eq_self, i10, i01, im0, im1, nI_1]
            have hlen : (ys ++ [l]).length = ys.length + 1 := by simp
            have := ih (ys ++ [l]) (va_up C1 (80 + ys.length) l) p' hp2 o2 (by omega) hp'le (by omega) ?_ ?_ ?_ he h2 r2 (s1.tr s2)
            · rw [hlen] at this
              exact this
            · rw [hlen, List.range_succ, List.map_append, List.map_singleton, va_up_self]
              congr 1
              conv => rhs; rw [← hym]
              apply List.map_congr_left
              intro j hj
              exact va_up_ne _ _ (by have := List.mem_range.mp hj; omega)
            · intro j hj
              rw [va_up_ne _ _ (by omega)]
              exact hC1 j hj
            · intro l' hl'
              rcases List.mem_append.mp hl' with z | z
              · exact hylv l' z
              · rw [List.mem_singleton] at z; rw [z]; exact hlv2
          · rw [hline] at he
            dsimp only at he
            rw [← he] at hQ
            dsimp only at hQ
            have e0 : (0 : Int32) ≤ nI e := by
              have := nI_pos (n := e) (by omega)
              rw [Int32.le_iff_toInt_le]; rw [Int32.lt_iff_toInt_lt] at this; omega
            have e1 : ¬ nI e < 0 := nI_pos (by omega)
            simp only [x_117_43, x_117_46, mw_nx, mw_no, mw_ite, mw_call, mw_ret, mw_cst, mw_ii, mw_i1, mw_ll, mw_l1, mw_li, mw_i2l, mw_l2i, mw_lcm, mw_if, mw_ic, mw_ifnN, mw_ifnR, mw_go, mw_dupi, mw_dupr, mw_popi, mw_popr, mw_nw, mw_rti, mw_rtl, mw_rtr, mw_rtn, mw_rtv, mw_rt0, mw_rt1, mj_ild, mj_lld, mj_ald, mj_ist, mj_lst, mj_ast, mj_inc, mj_iz, mj_get, mj_put, mj_len, mj_iar, mj_aar, mj_iaw, mj_aaw, mj_ivs, mj_ivv, mj_ivi, mj_ob, mj_tk, mj_cat, mj_st1, mj_st2, mj_clr, mj_nwi, mj_nwq, List.getElem?_cons_zero, List.getElem?_cons_succ, List.length_cons, List.length_nil, List.set_cons_zero, List.set_cons_succ, Value.category, decide_eq_true_eq, List.map_cons, List.map_nil, List.sum_cons, List.sum_nil, Option.toList, List.cons_append, List.nil_append, ite_true, ite_false, if_true, if_false, reduceCtorEq, true_and, and_true, narrow_i, narrow_l, narrow_r, narrow_n, fits_i, fits_l, fits_ro, fits_ra, fits_no, fits_na, Nat.reduceAdd, Nat.reduceLT, Nat.reduceLeDiff, Nat.reduceEqDiff, Nat.reduceSub, zero_add0, true_or, or_true, false_or, or_false, not_true_eq_false, not_false_eq_true, eq_self, i10, i01, im0, im1, nI_1]
            rw [x_117_17]
            simp only [x_117_18, x_117_21, x_117_49, x_117_50, x_117_51, x_117_54, x_117_55, x_117_58, x_117_61, x_117_62, x_117_63, x_117_66, x_117_67, mw_nx, mw_no, mw_ite, mw_call, mw_ret, mw_cst, mw_ii, mw_i1, mw_ll, mw_l1, mw_li, mw_i2l, mw_l2i, mw_lcm, mw_if, mw_ic, mw_ifnN, mw_ifnR, mw_go, mw_dupi, mw_dupr, mw_popi, mw_popr, mw_nw, mw_rti, mw_rtl, mw_rtr, mw_rtn, mw_rtv, mw_rt0, mw_rt1, mj_ild, mj_lld, mj_ald, mj_ist, mj_lst, mj_ast, mj_inc, mj_iz, mj_get, mj_put, mj_len, mj_iar, mj_aar, mj_iaw, mj_aaw, mj_ivs, mj_ivv, mj_ivi, mj_ob, mj_tk, mj_cat, mj_st1, mj_st2, mj_clr, mj_nwi, mj_nwq, List.getElem?_cons_zero, List.getElem?_cons_succ, List.length_cons, List.length_nil, List.set_cons_zero, List.set_cons_succ, Value.category, decide_eq_true_eq, List.map_cons, List.map_nil, List.sum_cons, List.sum_nil, Option.toList, List.cons_append, List.nil_append, ite_true, ite_false, if_true, if_false, reduceCtorEq, true_and, and_true, narrow_i, narrow_l, narrow_r, narrow_n, fits_i, fits_l, fits_ro, fits_ra, fits_no, fits_na, Nat.reduceAdd, Nat.reduceLT, Nat.reduceLeDiff, Nat.reduceEqDiff, Nat.reduceSub, zero_add0, true_or, or_true, false_or, or_false, not_true_eq_false, not_false_eq_true, eq_self, i10, i01, im0, im1, h2, e0, mj_up_at, e1]
            obtain ⟨fu, u1, -, -, -⟩ := hu
            refine hQ _ ⟨hn, _, _, 0, C2, mj_up_at, r2.keep (mj_up_off (by omega)) (mj_up_off (by omega)) (mj_up_off (by omega)), ?_, hk, hlv, hc.keep ?_, hcb, ⟨fu, ?_, fun j hj => absurd hj (by simp), by simp, fun c hc => absurd hc List.not_mem_nil⟩, hh.keep ?_ ?_⟩ ((s0.tr ((s1.tr s2).mono (by omega) (by omega))).tr (sm.up (by omega) (by omega)))
            · dsimp only
              conv => rhs; rw [← hmap]
              apply List.map_congr_left
              intro j hj
              have := List.mem_range.mp hj
              rw [hC2 j (by omega), hC1 j (by omega)]
            · rw [mj_up_off (by omega)]; exact (s1.tr s2).2 _ (by omega)
            · rw [mj_up_off (by omega), (s1.tr s2).2 _ (by omega)]; exact u1
            · rw [mj_up_off (by omega)]; exact (s1.tr s2).2 _ (by omega)
            · rw [mj_up_off (by omega)]; exact (s1.tr s2).2 _ (by omega)
        · have q2 := eq_true (show xs.length ≤ q by omega)
          rw [if_neg w] at he
          simp only [x_117_18, x_117_21, x_117_24, x_117_25, x_117_28, x_117_29, x_117_32, mw_nx, mw_no, mw_ite, mw_call, mw_ret, mw_cst, mw_ii, mw_i1, mw_ll, mw_l1, mw_li, mw_i2l, mw_l2i, mw_lcm, mw_if, mw_ic, mw_ifnN, mw_ifnR, mw_go, mw_dupi, mw_dupr, mw_popi, mw_popr, mw_nw, mw_rti, mw_rtl, mw_rtr, mw_rtn, mw_rtv, mw_rt0, mw_rt1, mj_ild, mj_lld, mj_ald, mj_ist, mj_lst, mj_ast, mj_inc, mj_iz, mj_get, mj_put, mj_len, mj_iar, mj_aar, mj_iaw, mj_aaw, mj_ivs, mj_ivv, mj_ivi, mj_ob, mj_tk, mj_cat, mj_st1, mj_st2, mj_clr, mj_nwi, mj_nwq, List.getElem?_cons_zero, List.getElem?_cons_succ, List.length_cons, List.length_nil, List.set_cons_zero, List.set_cons_succ, Value.category, decide_eq_true_eq, List.map_cons, List.map_nil, List.sum_cons, List.sum_nil, Option.toList, List.cons_append, List.nil_append, ite_true, ite_false, if_true, if_false, reduceCtorEq, true_and, and_true, narrow_i, narrow_l, narrow_r, narrow_n, fits_i, fits_l, fits_ro, fits_ra, fits_no, fits_na, Nat.reduceAdd, Nat.reduceLT, Nat.reduceLeDiff, Nat.reduceEqDiff, Nat.reduceSub, zero_add0, true_or, or_true, false_or, or_false, not_true_eq_false, not_false_eq_true, eq_self, i10, i01, im0, im1, h1, n2, e2, q2]
          exact fin C1 ys q hp1 o2 he.symm hy8 hym hylv h1 r1 s1
    exact key 4000 [] C 0 hp0 none (by omega) (by omega) (by simp) rfl (fun _ _ => rfl) (fun l hl => absurd hl List.not_mem_nil) rfl ho hr sm.rf
  rw [en_117]
  simp only [x_117_0, x_117_1, x_117_2, x_117_5, x_117_6, x_117_7, x_117_10, x_117_11, x_117_12, x_117_15, x_117_16, mw_nx, mw_no, mw_ite, mw_call, mw_ret, mw_cst, mw_ii, mw_i1, mw_ll, mw_l1, mw_li, mw_i2l, mw_l2i, mw_lcm, mw_if, mw_ic, mw_ifnN, mw_ifnR, mw_go, mw_dupi, mw_dupr, mw_popi, mw_popr, mw_nw, mw_rti, mw_rtl, mw_rtr, mw_rtn, mw_rtv, mw_rt0, mw_rt1, mj_ild, mj_lld, mj_ald, mj_ist, mj_lst, mj_ast, mj_inc, mj_iz, mj_get, mj_put, mj_len, mj_iar, mj_aar, mj_iaw, mj_aaw, mj_ivs, mj_ivv, mj_ivi, mj_ob, mj_tk, mj_cat, mj_st1, mj_st2, mj_clr, mj_nwi, mj_nwq, List.getElem?_cons_zero, List.getElem?_cons_succ, List.length_cons, List.length_nil, List.set_cons_zero, List.set_cons_succ, Value.category, decide_eq_true_eq, List.map_cons, List.map_nil, List.sum_cons, List.sum_nil, Option.toList, List.cons_append, List.nil_append, ite_true, ite_false, if_true, if_false, reduceCtorEq, true_and, and_true, narrow_i, narrow_l, narrow_r, narrow_n, fits_i, fits_l, fits_ro, fits_ra, fits_no, fits_na, Nat.reduceAdd, Nat.reduceLT, Nat.reduceLeDiff, Nat.reduceEqDiff, Nat.reduceSub, zero_add0, true_or, or_true, false_or, or_false, not_true_eq_false, not_false_eq_true, eq_self, i10, i01, im0, im1, ho, mj_up_at]
  exact body _ (hw.th.th.th) (((sm.up (by omega) (by omega)).tr (sm.up (by omega) (by omega))).tr (sm.up (by omega) (by omega)))
end MS
