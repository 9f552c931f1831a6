/-! A Reader: the numbers, the literals, the lines, the text -/
theorem rd_dig_le : ∀ (f : Nat) (xs : List Nat) (p v : Nat), p ≤ xs.length → p ≤ (rd_dig f xs p v).2 ∧ (rd_dig f xs p v).2 ≤ xs.length := by
  intro f
  induction f with
  | zero => intro xs p v h; exact ⟨Nat.le_refl _, h⟩
  | succ f ih =>
    intro xs p v h
    rw [rd_dig]
    cases hx : xs[p]? with
    | none => exact ⟨Nat.le_refl _, h⟩
    | some c =>
      have hlt : p < xs.length := by
        rcases List.getElem?_eq_some_iff.mp hx with ⟨q, -⟩
        exact q
      dsimp only
      split
      · have := ih xs (p + 1) (min 1000 (10 * v + (c - 48))) hlt
        exact ⟨by omega, this.2⟩
      · exact ⟨Nat.le_refl _, h⟩
theorem rd_dig_v : ∀ (f : Nat) (xs : List Nat) (p v : Nat), v ≤ 1000 → (rd_dig f xs p v).1 ≤ 1000 := by
  intro f
  induction f with
  | zero => intro xs p v h; exact h
  | succ f ih =>
    intro xs p v h
    rw [rd_dig]
    cases hx : xs[p]? with
    | none => exact h
    | some c =>
      dsimp only
      split
      · exact ih _ _ _ (Nat.min_le_left _ _)
      · exact h
theorem get_lt {xs : List Nat} {p c : Nat} (h : xs[p]? = some c) : p < xs.length := by
  rcases List.getElem?_eq_some_iff.mp h with ⟨q, -⟩
  exact q
section RN
variable {hp : mj_H} {Q : mj_Q} {R n p : Nat} {xs : List Nat}
theorem c_passNumber (h : re_at hp R n xs p) (hple : p ≤ xs.length) (hQ : ∀ hp' : mj_H, re_at hp' R n xs (rd_end xs p) → sm hp hp' R (R + 2) → Q (some (.int (nI (rd_num xs p)))) hp') : mj_call 71 [.ref R] hp Q := by
  have hx4 : xs.length ≤ 4000 := by obtain ⟨-, f, -, -, q, -⟩ := h; exact q
  have hb : ∀ c ∈ xs, c < 256 := by obtain ⟨-, f, -, -, -, q⟩ := h; exact q
  have i48 : ∀ c : Nat, c < 256 → (nI c < 48) = (c < 48) := fun c hc => propext (nI_ltI (b := 48) (by omega) (by omega))
  have i57 : ∀ c : Nat, c < 256 → ((57 : Int32) < nI c) = (57 < c) := fun c hc => propext (nI_ltI (a := 57) (by omega) (by omega))
  have m48 : ((-1 : Int32) < 48) = True := by decide
  have key : ∀ (f i v q : Nat) (z : Int32) (hp1 : mj_H), (z = 0 ∨ z = 1) → (z = 1 ↔ xs[p]? = some 48) → i + f = 4000 → q ≤ xs.length → v ≤ 1000 → re_at hp1 R n xs q → sm hp hp1 R (R + 2) → rd_dig f xs q v = rd_dig 4000 xs p 0 → mj_wp 71 19 [some (.ref R), some (.int z), some (.int (nI v)), some (.int (nI i))] [] hp1 Q := by
    intro f
    induction f with
    | zero =>
      intro i v q z hp1 hz hz1 hi hq hvb h1 hs he
      obtain rfl : i = 4000 := by omega
      have e1 : (4000 : Int32) ≤ nI 4000 := by decide
      rw [x_71_19]
      have he1 : rd_end xs p = q := by unfold rd_end; rw [← he]; rfl
      have he2 : rd_num xs p = if xs[p]? = some 48 then 0 else v := by unfold rd_num; rw [← he]; rfl
      have hfin := hQ hp1 (he1.symm ▸ h1) hs
      rw [he2] at hfin
      rcases hz with rfl | rfl
      · rw [if_neg (fun w => absurd (hz1.mpr w) (by decide))] at hfin
        simp only [x_71_20, x_71_23, x_71_26, x_71_27, x_71_30, x_71_32, x_71_35, x_71_36, x_71_39, x_71_41, x_71_44, x_71_47, x_71_49, x_71_50, x_71_51, x_71_52, x_71_55, x_71_56, x_71_58, x_71_59, x_71_62, x_71_63, x_71_64, x_71_65, x_71_68, x_71_69, x_71_70, x_71_73, x_71_76, x_71_79, x_71_80, x_71_83, x_71_84, x_71_87, x_71_88, mw_nx, mw_no, mw_ite, mw_call, mw_ret, mw_cst, mw_ii, mw_i1, mw_ll, mw_l1, mw_li, mw_i2l, mw_l2i, mw_lcm, mw_if, mw_ic, mw_ifnN, mw_ifnR, mw_go, mw_dupi, mw_dupr, mw_popi, mw_popr, mw_nw, mw_rti, mw_rtl, mw_rtr, mw_rtn, mw_rtv, mw_rt0, mw_rt1, mj_ild, mj_lld, mj_ald, mj_ist, mj_lst, mj_ast, mj_inc, mj_iz, mj_get, mj_put, mj_len, mj_iar, mj_aar, mj_iaw, mj_aaw, mj_ivs, mj_ivv, mj_ivi, mj_ob, mj_tk, mj_cat, mj_st1, mj_st2, mj_clr, mj_nwi, mj_nwq, List.getElem?_cons_zero, List.getElem?_cons_succ, List.length_cons, List.length_nil, List.set_cons_zero, List.set_cons_succ, Value.category, decide_eq_true_eq, List.map_cons, List.map_nil, List.sum_cons, List.sum_nil, Option.toList, List.cons_append, List.nil_append, ite_true, ite_false, if_true, if_false, reduceCtorEq, true_and, and_true, narrow_i, narrow_l, narrow_r, narrow_n, fits_i, fits_l, fits_ro, fits_ra, fits_no, fits_na, Nat.reduceAdd, Nat.reduceLT, Nat.reduceLeDiff, Nat.reduceEqDiff, Nat.reduceSub, zero_add0, true_or, or_true, false_or, or_false, not_true_eq_false, not_false_eq_true, eq_self, i10, i01, im0, im1, e1]
        exact hfin
      · rw [if_pos (hz1.mp rfl)] at hfin
        simp only [x_71_20, x_71_23, x_71_26, x_71_27, x_71_30, x_71_32, x_71_35, x_71_36, x_71_39, x_71_41, x_71_44, x_71_47, x_71_49, x_71_50, x_71_51, x_71_52, x_71_55, x_71_56, x_71_58, x_71_59, x_71_62, x_71_63, x_71_64, x_71_65, x_71_68, x_71_69, x_71_70, x_71_73, x_71_76, x_71_79, x_71_80, x_71_83, x_71_84, x_71_87, x_71_88, mw_nx, mw_no, mw_ite, mw_call, mw_ret, mw_cst, mw_ii, mw_i1, mw_ll, mw_l1, mw_li, mw_i2l, mw_l2i, mw_lcm, mw_if, mw_ic, mw_ifnN, mw_ifnR, mw_go, mw_dupi, mw_dupr, mw_popi, mw_popr, mw_nw, mw_rti, mw_rtl, mw_rtr, mw_rtn, mw_rtv, mw_rt0, mw_rt1, mj_ild, mj_lld, mj_ald, mj_ist, mj_lst, mj_ast, mj_inc, mj_iz, mj_get, mj_put, mj_len, mj_iar, mj_aar, mj_iaw, mj_aaw, mj_ivs, mj_ivv, mj_ivi, mj_ob, mj_tk, mj_cat, mj_st1, mj_st2, mj_clr, mj_nwi, mj_nwq, List.getElem?_cons_zero, List.getElem?_cons_succ, List.length_cons, List.length_nil, List.set_cons_zero, List.set_cons_succ, Value.category, decide_eq_true_eq, List.map_cons, List.map_nil, List.sum_cons, List.sum_nil, Option.toList, List.cons_append, List.nil_append, ite_true, ite_false, if_true, if_false, reduceCtorEq, true_and, and_true, narrow_i, narrow_l, narrow_r, narrow_n, fits_i, fits_l, fits_ro, fits_ra, fits_no, fits_na, Nat.reduceAdd, Nat.reduceLT, Nat.reduceLeDiff, Nat.reduceEqDiff, Nat.reduceSub, zero_add0, true_or, or_true, false_or, or_false, not_true_eq_false, not_false_eq_true, eq_self, i10, i01, im0, im1, e1]
        exact hfin
    | succ f ih =>
      intro i v q z hp1 hz hz1 hi hq hvb h1 hs he
      have e1 : ¬ (4000 : Int32) ≤ nI i := nI_ge (b := 4000) (by omega) (by omega)
      have hR := h1.1
      rw [rd_dig] at he
      have stop : (v, q) = rd_dig 4000 xs p 0 → mj_wp 71 79 [some (.ref R), some (.int z), some (.int (nI v)), some (.int (nI i))] [] hp1 Q := by
        intro he
        have he1 : rd_end xs p = q := by unfold rd_end; rw [← he]
        have he2 : rd_num xs p = if xs[p]? = some 48 then 0 else v := by unfold rd_num; rw [← he]
        have hfin := hQ hp1 (he1.symm ▸ h1) hs
        rw [he2] at hfin
        rcases hz with rfl | rfl
        · rw [if_neg (fun w => absurd (hz1.mpr w) (by decide))] at hfin
          simp only [x_71_79, x_71_80, x_71_83, x_71_84, x_71_87, x_71_88, mw_nx, mw_no, mw_ite, mw_call, mw_ret, mw_cst, mw_ii, mw_i1, mw_ll, mw_l1, mw_li, mw_i2l, mw_l2i, mw_lcm, mw_if, mw_ic, mw_ifnN, mw_ifnR, mw_go, mw_dupi, mw_dupr, mw_popi, mw_popr, mw_nw, mw_rti, mw_rtl, mw_rtr, mw_rtn, mw_rtv, mw_rt0, mw_rt1, mj_ild, mj_lld, mj_ald, mj_ist, mj_lst, mj_ast, mj_inc, mj_iz, mj_get, mj_put, mj_len, mj_iar, mj_aar, mj_iaw, mj_aaw, mj_ivs, mj_ivv, mj_ivi, mj_ob, mj_tk, mj_cat, mj_st1, mj_st2, mj_clr, mj_nwi, mj_nwq, List.getElem?_cons_zero, List.getElem?_cons_succ, List.length_cons, List.length_nil, List.set_cons_zero, List.set_cons_succ, Value.category, decide_eq_true_eq, List.map_cons, List.map_nil, List.sum_cons, List.sum_nil, Option.toList, List.cons_append, List.nil_append, ite_true, ite_false, if_true, if_false, reduceCtorEq, true_and, and_true, narrow_i, narrow_l, narrow_r, narrow_n, fits_i, fits_l, fits_ro, fits_ra, fits_no, fits_na, Nat.reduceAdd, Nat.reduceLT, Nat.reduceLeDiff, Nat.reduceEqDiff, Nat.reduceSub, zero_add0, true_or, or_true, false_or, or_false, not_true_eq_false, not_false_eq_true, eq_self, i10, i01, im0, im1]
          exact hfin
        · rw [if_pos (hz1.mp rfl)] at hfin
          simp only [x_71_79, x_71_80, x_71_83, x_71_84, x_71_87, x_71_88, mw_nx, mw_no, mw_ite, mw_call, mw_ret, mw_cst, mw_ii, mw_i1, mw_ll, mw_l1, mw_li, mw_i2l, mw_l2i, mw_lcm, mw_if, mw_ic, mw_ifnN, mw_ifnR, mw_go, mw_dupi, mw_dupr, mw_popi, mw_popr, mw_nw, mw_rti, mw_rtl, mw_rtr, mw_rtn, mw_rtv, mw_rt0, mw_rt1, mj_ild, mj_lld, mj_ald, mj_ist, mj_lst, mj_ast, mj_inc, mj_iz, mj_get, mj_put, mj_len, mj_iar, mj_aar, mj_iaw, mj_aaw, mj_ivs, mj_ivv, mj_ivi, mj_ob, mj_tk, mj_cat, mj_st1, mj_st2, mj_clr, mj_nwi, mj_nwq, List.getElem?_cons_zero, List.getElem?_cons_succ, List.length_cons, List.length_nil, List.set_cons_zero, List.set_cons_succ, Value.category, decide_eq_true_eq, List.map_cons, List.map_nil, List.sum_cons, List.sum_nil, Option.toList, List.cons_append, List.nil_append, ite_true, ite_false, if_true, if_false, reduceCtorEq, true_and, and_true, narrow_i, narrow_l, narrow_r, narrow_n, fits_i, fits_l, fits_ro, fits_ra, fits_no, fits_na, Nat.reduceAdd, Nat.reduceLT, Nat.reduceLeDiff, Nat.reduceEqDiff, Nat.reduceSub, zero_add0, true_or, or_true, false_or, or_false, not_true_eq_false, not_false_eq_true, eq_self, i10, i01, im0, im1]
          exact hfin
      rw [x_71_19]
      cases hx : xs[q]? with
      | none =>
        rw [hx] at he
        have hv1 : hv xs q = -1 := by unfold hv; rw [hx]
        simp only [x_71_20, x_71_23, x_71_26, x_71_27, x_71_30, x_71_32, mw_nx, mw_no, mw_ite, mw_call, mw_ret, mw_cst, mw_ii, mw_i1, mw_ll, mw_l1, mw_li, mw_i2l, mw_l2i, mw_lcm, mw_if, mw_ic, mw_ifnN, mw_ifnR, mw_go, mw_dupi, mw_dupr, mw_popi, mw_popr, mw_nw, mw_rti, mw_rtl, mw_rtr, mw_rtn, mw_rtv, mw_rt0, mw_rt1, mj_ild, mj_lld, mj_ald, mj_ist, mj_lst, mj_ast, mj_inc, mj_iz, mj_get, mj_put, mj_len, mj_iar, mj_aar, mj_iaw, mj_aaw, mj_ivs, mj_ivv, mj_ivi, mj_ob, mj_tk, mj_cat, mj_st1, mj_st2, mj_clr, mj_nwi, mj_nwq, List.getElem?_cons_zero, List.getElem?_cons_succ, List.length_cons, List.length_nil, List.set_cons_zero, List.set_cons_succ, Value.category, decide_eq_true_eq, List.map_cons, List.map_nil, List.sum_cons, List.sum_nil, Option.toList, List.cons_append, List.nil_append, ite_true, ite_false, if_true, if_false, reduceCtorEq, true_and, and_true, narrow_i, narrow_l, narrow_r, narrow_n, fits_i, fits_l, fits_ro, fits_ra, fits_no, fits_na, Nat.reduceAdd, Nat.reduceLT, Nat.reduceLeDiff, Nat.reduceEqDiff, Nat.reduceSub, zero_add0, true_or, or_true, false_or, or_false, not_true_eq_false, not_false_eq_true, eq_self, i10, i01, im0, im1, e1, hR, c_here h1 (show q < 2 ^ 31 by omega), hv1, m48]
        exact stop he
      | some c =>
        rw [hx] at he
        dsimp only at he
        have hc : c < 256 := hb c (List.mem_of_getElem? hx)
        have hv1 : hv xs q = nI c := hv_some hx
        have hlt := get_lt hx
        by_cases c1 : c < 48
        · have q1 := eq_true c1
          rw [if_neg (by omega)] at he
          simp only [x_71_20, x_71_23, x_71_26, x_71_27, x_71_30, x_71_32, mw_nx, mw_no, mw_ite, mw_call, mw_ret, mw_cst, mw_ii, mw_i1, mw_ll, mw_l1, mw_li, mw_i2l, mw_l2i, mw_lcm, mw_if, mw_ic, mw_ifnN, mw_ifnR, mw_go, mw_dupi, mw_dupr, mw_popi, mw_popr, mw_nw, mw_rti, mw_rtl, mw_rtr, mw_rtn, mw_rtv, mw_rt0, mw_rt1, mj_ild, mj_lld, mj_ald, mj_ist, mj_lst, mj_ast, mj_inc, mj_iz, mj_get, mj_put, mj_len, mj_iar, mj_aar, mj_iaw, mj_aaw, mj_ivs, mj_ivv, mj_ivi, mj_ob, mj_tk, mj_cat, mj_st1, mj_st2, mj_clr, mj_nwi, mj_nwq, List.getElem?_cons_zero, List.getElem?_cons_succ, List.length_cons, List.length_nil, List.set_cons_zero, List.set_cons_succ, Value.category, decide_eq_true_eq, List.map_cons, List.map_nil, List.sum_cons, List.sum_nil, Option.toList, List.cons_append, List.nil_append, ite_true, ite_false, if_true, if_false, reduceCtorEq, true_and, and_true, narrow_i, narrow_l, narrow_r, narrow_n, fits_i, fits_l, fits_ro, fits_ra, fits_no, fits_na, Nat.reduceAdd, Nat.reduceLT, Nat.reduceLeDiff, Nat.reduceEqDiff, Nat.reduceSub, zero_add0, true_or, or_true, false_or, or_false, not_true_eq_false, not_false_eq_true, eq_self, i10, i01, im0, im1, e1, hR, c_here h1 (show q < 2 ^ 31 by omega), hv1, i48 c hc, q1]
          exact stop he
        · have q1 := eq_false c1
          by_cases c2 : 57 < c
          · have q2 := eq_true c2
            rw [if_neg (by omega)] at he
            simp only [x_71_20, x_71_23, x_71_26, x_71_27, x_71_30, x_71_32, x_71_35, x_71_36, x_71_39, x_71_41, mw_nx, mw_no, mw_ite, mw_call, mw_ret, mw_cst, mw_ii, mw_i1, mw_ll, mw_l1, mw_li, mw_i2l, mw_l2i, mw_lcm, mw_if, mw_ic, mw_ifnN, mw_ifnR, mw_go, mw_dupi, mw_dupr, mw_popi, mw_popr, mw_nw, mw_rti, mw_rtl, mw_rtr, mw_rtn, mw_rtv, mw_rt0, mw_rt1, mj_ild, mj_lld, mj_ald, mj_ist, mj_lst, mj_ast, mj_inc, mj_iz, mj_get, mj_put, mj_len, mj_iar, mj_aar, mj_iaw, mj_aaw, mj_ivs, mj_ivv, mj_ivi, mj_ob, mj_tk, mj_cat, mj_st1, mj_st2, mj_clr, mj_nwi, mj_nwq, List.getElem?_cons_zero, List.getElem?_cons_succ, List.length_cons, List.length_nil, List.set_cons_zero, List.set_cons_succ, Value.category, decide_eq_true_eq, List.map_cons, List.map_nil, List.sum_cons, List.sum_nil, Option.toList, List.cons_append, List.nil_append, ite_true, ite_false, if_true, if_false, reduceCtorEq, true_and, and_true, narrow_i, narrow_l, narrow_r, narrow_n, fits_i, fits_l, fits_ro, fits_ra, fits_no, fits_na, Nat.reduceAdd, Nat.reduceLT, Nat.reduceLeDiff, Nat.reduceEqDiff, Nat.reduceSub, zero_add0, true_or, or_true, false_or, or_false, not_true_eq_false, not_false_eq_true, eq_self, i10, i01, im0, im1, e1, hR, c_here h1 (show q < 2 ^ 31 by omega), hv1, i48 c hc, q1, i57 c hc, q2]
            exact stop he
          · have q2 := eq_false c2
            rw [if_pos (by omega)] at he
            have e2 : (10 : Int32) * nI v + nI c - 48 = nI (10 * v + (c - 48)) := by
              show nI 10 * nI v + nI c - nI 48 = _
              rw [pk_mul, nI_add, pk_sub (by omega)]
              congr 1; omega
            have e3 : (if nI (10 * v + (c - 48)) < (1000 : Int32) then nI (10 * v + (c - 48)) else (1000 : Int32)) = nI (min 1000 (10 * v + (c - 48))) := by
              by_cases w : 10 * v + (c - 48) < 1000
              · have w2 : nI (10 * v + (c - 48)) < (1000 : Int32) := nI_lt (b := 1000) w (by omega)
                rw [if_pos w2, Nat.min_eq_right (by omega)]
              · have w2 : ¬ nI (10 * v + (c - 48)) < (1000 : Int32) := nI_nlt (a := 10 * v + (c - 48)) (b := 1000) (by omega) (by omega)
                rw [if_neg w2, Nat.min_eq_left (by omega)]
                rfl
            simp only [x_71_20, x_71_23, x_71_26, x_71_27, x_71_30, x_71_32, x_71_35, x_71_36, x_71_39, x_71_41, x_71_44, x_71_47, x_71_49, x_71_50, x_71_51, x_71_52, x_71_55, x_71_56, x_71_58, x_71_59, x_71_62, x_71_63, x_71_64, x_71_65, x_71_68, x_71_69, x_71_70, x_71_73, x_71_76, mw_nx, mw_no, mw_ite, mw_call, mw_ret, mw_cst, mw_ii, mw_i1, mw_ll, mw_l1, mw_li, mw_i2l, mw_l2i, mw_lcm, mw_if, mw_ic, mw_ifnN, mw_ifnR, mw_go, mw_dupi, mw_dupr, mw_popi, mw_popr, mw_nw, mw_rti, mw_rtl, mw_rtr, mw_rtn, mw_rtv, mw_rt0, mw_rt1, mj_ild, mj_lld, mj_ald, mj_ist, mj_lst, mj_ast, mj_inc, mj_iz, mj_get, mj_put, mj_len, mj_iar, mj_aar, mj_iaw, mj_aaw, mj_ivs, mj_ivv, mj_ivi, mj_ob, mj_tk, mj_cat, mj_st1, mj_st2, mj_clr, mj_nwi, mj_nwq, List.getElem?_cons_zero, List.getElem?_cons_succ, List.length_cons, List.length_nil, List.set_cons_zero, List.set_cons_succ, Value.category, decide_eq_true_eq, List.map_cons, List.map_nil, List.sum_cons, List.sum_nil, Option.toList, List.cons_append, List.nil_append, ite_true, ite_false, if_true, if_false, reduceCtorEq, true_and, and_true, narrow_i, narrow_l, narrow_r, narrow_n, fits_i, fits_l, fits_ro, fits_ra, fits_no, fits_na, Nat.reduceAdd, Nat.reduceLT, Nat.reduceLeDiff, Nat.reduceEqDiff, Nat.reduceSub, zero_add0, true_or, or_true, false_or, or_false, not_true_eq_false, not_false_eq_true, eq_self, i10, i01, im0, im1, e1, hR, c_here h1 (show q < 2 ^ 31 by omega), hv1, i48 c hc, q1, i57 c hc, q2, e2, c_min, e3, nI_1]
            exact ih (i + 1) _ (q + 1) z _ hz hz1 (by omega) hlt (Nat.min_le_left _ _) (h1.pl (q + 1)) (hs.tr (sm.up (by omega) (by omega))) he
  have hR := h.1
  have hv2 : (hv xs p = 48) = (xs[p]? = some 48) := hv_eq (v := 48) hb (by decide)
  rw [en_71]
  by_cases w : xs[p]? = some 48
  · have q1 := eq_true w
    simp only [x_71_0, x_71_1, x_71_4, x_71_6, x_71_9, x_71_10, x_71_13, x_71_14, x_71_15, x_71_16, x_71_17, x_71_18, mw_nx, mw_no, mw_ite, mw_call, mw_ret, mw_cst, mw_ii, mw_i1, mw_ll, mw_l1, mw_li, mw_i2l, mw_l2i, mw_lcm, mw_if, mw_ic, mw_ifnN, mw_ifnR, mw_go, mw_dupi, mw_dupr, mw_popi, mw_popr, mw_nw, mw_rti, mw_rtl, mw_rtr, mw_rtn, mw_rtv, mw_rt0, mw_rt1, mj_ild, mj_lld, mj_ald, mj_ist, mj_lst, mj_ast, mj_inc, mj_iz, mj_get, mj_put, mj_len, mj_iar, mj_aar, mj_iaw, mj_aaw, mj_ivs, mj_ivv, mj_ivi, mj_ob, mj_tk, mj_cat, mj_st1, mj_st2, mj_clr, mj_nwi, mj_nwq, List.getElem?_cons_zero, List.getElem?_cons_succ, List.length_cons, List.length_nil, List.set_cons_zero, List.set_cons_succ, Value.category, decide_eq_true_eq, List.map_cons, List.map_nil, List.sum_cons, List.sum_nil, Option.toList, List.cons_append, List.nil_append, ite_true, ite_false, if_true, if_false, reduceCtorEq, true_and, and_true, narrow_i, narrow_l, narrow_r, narrow_n, fits_i, fits_l, fits_ro, fits_ra, fits_no, fits_na, Nat.reduceAdd, Nat.reduceLT, Nat.reduceLeDiff, Nat.reduceEqDiff, Nat.reduceSub, zero_add0, true_or, or_true, false_or, or_false, not_true_eq_false, not_false_eq_true, eq_self, i10, i01, im0, im1, hR, c_here h (show p < 2 ^ 31 by omega), hv2, q1]
    exact key 4000 0 0 p 1 hp (Or.inr rfl) ⟨fun _ => w, fun _ => rfl⟩ rfl hple (by omega) h sm.rf rfl
  · have q1 := eq_false w
    simp only [x_71_0, x_71_1, x_71_4, x_71_6, x_71_9, x_71_10, x_71_13, x_71_14, x_71_15, x_71_16, x_71_17, x_71_18, mw_nx, mw_no, mw_ite, mw_call, mw_ret, mw_cst, mw_ii, mw_i1, mw_ll, mw_l1, mw_li, mw_i2l, mw_l2i, mw_lcm, mw_if, mw_ic, mw_ifnN, mw_ifnR, mw_go, mw_dupi, mw_dupr, mw_popi, mw_popr, mw_nw, mw_rti, mw_rtl, mw_rtr, mw_rtn, mw_rtv, mw_rt0, mw_rt1, mj_ild, mj_lld, mj_ald, mj_ist, mj_lst, mj_ast, mj_inc, mj_iz, mj_get, mj_put, mj_len, mj_iar, mj_aar, mj_iaw, mj_aaw, mj_ivs, mj_ivv, mj_ivi, mj_ob, mj_tk, mj_cat, mj_st1, mj_st2, mj_clr, mj_nwi, mj_nwq, List.getElem?_cons_zero, List.getElem?_cons_succ, List.length_cons, List.length_nil, List.set_cons_zero, List.set_cons_succ, Value.category, decide_eq_true_eq, List.map_cons, List.map_nil, List.sum_cons, List.sum_nil, Option.toList, List.cons_append, List.nil_append, ite_true, ite_false, if_true, if_false, reduceCtorEq, true_and, and_true, narrow_i, narrow_l, narrow_r, narrow_n, fits_i, fits_l, fits_ro, fits_ra, fits_no, fits_na, Nat.reduceAdd, Nat.reduceLT, Nat.reduceLeDiff, Nat.reduceEqDiff, Nat.reduceSub, zero_add0, true_or, or_true, false_or, or_false, not_true_eq_false, not_false_eq_true, eq_self, i10, i01, im0, im1, hR, c_here h (show p < 2 ^ 31 by omega), hv2, q1]
    exact key 4000 0 0 p 0 hp (Or.inl rfl) ⟨fun q => absurd q (by decide), fun q => absurd q w⟩ rfl hple (by omega) h sm.rf rfl
/-- only the Reader at R and the cells from a up to b changed -/
def sm2 (hp hp' : mj_H) (R a b : Nat) : Prop := hp'.2 = hp.2 ∧ ∀ q, ¬ (R ≤ q ∧ q < R + 2) → ¬ (a ≤ q ∧ q < b) → hp'.1 q = hp.1 q
theorem sm2.rf {hp : mj_H} {R a b : Nat} : sm2 hp hp R a b := ⟨rfl, fun _ _ _ => rfl⟩
theorem sm2.tr {h1 h2 h3 : mj_H} {R a b : Nat} (x : sm2 h1 h2 R a b) (y : sm2 h2 h3 R a b) : sm2 h1 h3 R a b := ⟨y.1.trans x.1, fun q h h' => (y.2 q h h').trans (x.2 q h h')⟩
theorem sm2.mono {h1 h2 : mj_H} {R a b a' b' : Nat} (x : sm2 h1 h2 R a b) (ha : a' ≤ a) (hb : b ≤ b') : sm2 h1 h2 R a' b' := ⟨x.1, fun q h h' => x.2 q h (by omega)⟩
theorem sm.l {h1 h2 : mj_H} {R a b : Nat} (x : sm h1 h2 R (R + 2)) : sm2 h1 h2 R a b := ⟨x.1, fun q h _ => x.2 q (by omega)⟩
theorem sm.r {h1 h2 : mj_H} {R a b : Nat} (x : sm h1 h2 a b) : sm2 h1 h2 R a b := ⟨x.1, fun q _ h => x.2 q (by omega)⟩
theorem re_at.keep {hp hp' : mj_H} {R n p : Nat} {xs : List Nat} (h : re_at hp R n xs p) (h0 : hp'.1 R = hp.1 R) (h1 : hp'.1 (R + 1) = hp.1 (R + 1)) : re_at hp' R n xs p := by
  obtain ⟨a1, f, a2, a3⟩ := h
  exact ⟨h0.trans a1, f, h1.trans a2, a3⟩
theorem re_at.sm {hp hp' : mj_H} {R n p a b : Nat} {xs : List Nat} (h : re_at hp R n xs p) (hs : sm hp hp' a b) (hd : R + 1 < a ∨ b ≤ R) : re_at hp' R n xs p := h.keep (hs.2 _ (by omega)) (hs.2 _ (by omega))
theorem c_fillLiteral {a : Nat} {l : Nat × List Nat} (h : re_at hp R n xs p) (hple : p ≤ xs.length) (hn : n ≤ 64) (hl : ln_at hp a l) (hRa : R + 2 ≤ a)
    (hQ1 : ∀ (c p' : Nat) (hp' : mj_H), rd_lit xs n l p = .inl (c, p') → p' ≤ xs.length → c < 2 * n → ln_takes l c → re_at hp' R n xs p' → ln_at hp' a (l.1, l.2 ++ [c]) → sm2 hp hp' R a (a + 2) → Q (some (.int 1)) hp')
    (hQ0 : ∀ (e : Nat) (hp' : mj_H), rd_lit xs n l p = .inr e → e ≤ xs.length → re_at hp' R n xs e → ln_at hp' a l → sm2 hp hp' R a (a + 2) → Q (some (.int 0)) hp') : mj_call 70 [.ref R, .ref a] hp Q := by
  have hx4 : xs.length ≤ 4000 := by obtain ⟨-, f, -, -, q, -⟩ := h; exact q
  have hb : ∀ c ∈ xs, c < 256 := by obtain ⟨-, f, -, -, -, q⟩ := h; exact q
  have key : ∀ (q tr : Nat) (hp1 : mj_H) (o3 o4 : Option Value), q = (if xs[p]? = some 45 then p + 1 else p) → tr = (if xs[p]? = some 45 then 0 else 1) → q ≤ xs.length → re_at hp1 R n xs q → ln_at hp1 a l → sm2 hp hp1 R a (a + 2) → mj_wp 70 29 [some (.ref R), some (.ref a), some (.int (nI tr)), o3, o4] [] hp1 Q := by
    intro q tr hp1 o3 o4 hq htr hqle h1 hl1 hs1
    have htr1 : tr ≤ 1 := by rw [htr]; split <;> omega
    have hR := h1.1
    have hlit : rd_lit xs n l p = sp_if (1 ≤ rd_num xs q ∧ rd_num xs q ≤ n ∧ ¬ 2 * (rd_num xs q - 1) + tr ∈ l.2 ∧ (l.1 ≠ 3 ∨ ¬ un_neg (2 * (rd_num xs q - 1) + tr) ∈ l.2)) (.inl (2 * (rd_num xs q - 1) + tr, rd_end xs q)) (.inr q) := by
      unfold rd_lit; rw [← hq, ← htr]
    have hend := rd_dig_le 4000 xs q 0 hqle
    have hnum : rd_num xs q ≤ 1000 := by
      unfold rd_num; split
      · omega
      · exact rd_dig_v 4000 xs q 0 (by omega)
    simp only [x_70_29, x_70_30, x_70_33, x_70_34, x_70_35, mw_nx, mw_no, mw_ite, mw_call, mw_ret, mw_cst, mw_ii, mw_i1, mw_ll, mw_l1, mw_li, mw_i2l, mw_l2i, mw_lcm, mw_if, mw_ic, mw_ifnN, mw_ifnR, mw_go, mw_dupi, mw_dupr, mw_popi, mw_popr, mw_nw, mw_rti, mw_rtl, mw_rtr, mw_rtn, mw_rtv, mw_rt0, mw_rt1, mj_ild, mj_lld, mj_ald, mj_ist, mj_lst, mj_ast, mj_inc, mj_iz, mj_get, mj_put, mj_len, mj_iar, mj_aar, mj_iaw, mj_aaw, mj_ivs, mj_ivv, mj_ivi, mj_ob, mj_tk, mj_cat, mj_st1, mj_st2, mj_clr, mj_nwi, mj_nwq, List.getElem?_cons_zero, List.getElem?_cons_succ, List.length_cons, List.length_nil, List.set_cons_zero, List.set_cons_succ, Value.category, decide_eq_true_eq, List.map_cons, List.map_nil, List.sum_cons, List.sum_nil, Option.toList, List.cons_append, List.nil_append, ite_true, ite_false, if_true, if_false, reduceCtorEq, true_and, and_true, narrow_i, narrow_l, narrow_r, narrow_n, fits_i, fits_l, fits_ro, fits_ra, fits_no, fits_na, Nat.reduceAdd, Nat.reduceLT, Nat.reduceLeDiff, Nat.reduceEqDiff, Nat.reduceSub, zero_add0, true_or, or_true, false_or, or_false, not_true_eq_false, not_false_eq_true, eq_self, i10, i01, im0, im1, hR]
    refine c_passNumber h1 hqle (fun hp2 h2 hs2 => ?_)
    have hR2 := h2.1
    have hl2 := hl1.sm hs2 (by omega)
    have hl2' := hl2
    obtain ⟨f, t, u, b1, b2, hv, hok, hs3⟩ := hl2'
    have hbad : ¬ (1 ≤ rd_num xs q ∧ rd_num xs q ≤ n ∧ ¬ 2 * (rd_num xs q - 1) + tr ∈ l.2 ∧ (l.1 ≠ 3 ∨ ¬ un_neg (2 * (rd_num xs q - 1) + tr) ∈ l.2)) → ∀ (o4 : Option Value), mj_wp 70 70 [some (.ref R), some (.ref a), some (.int (nI tr)), some (.int (nI q)), o4] [] hp2 Q := by
      intro hno o4
      rw [sp_if_f hno] at hlit
      simp only [x_70_70, x_70_71, x_70_72, x_70_75, x_70_76, mw_nx, mw_no, mw_ite, mw_call, mw_ret, mw_cst, mw_ii, mw_i1, mw_ll, mw_l1, mw_li, mw_i2l, mw_l2i, mw_lcm, mw_if, mw_ic, mw_ifnN, mw_ifnR, mw_go, mw_dupi, mw_dupr, mw_popi, mw_popr, mw_nw, mw_rti, mw_rtl, mw_rtr, mw_rtn, mw_rtv, mw_rt0, mw_rt1, mj_ild, mj_lld, mj_ald, mj_ist, mj_lst, mj_ast, mj_inc, mj_iz, mj_get, mj_put, mj_len, mj_iar, mj_aar, mj_iaw, mj_aaw, mj_ivs, mj_ivv, mj_ivi, mj_ob, mj_tk, mj_cat, mj_st1, mj_st2, mj_clr, mj_nwi, mj_nwq, List.getElem?_cons_zero, List.getElem?_cons_succ, List.length_cons, List.length_nil, List.set_cons_zero, List.set_cons_succ, Value.category, decide_eq_true_eq, List.map_cons, List.map_nil, List.sum_cons, List.sum_nil, Option.toList, List.cons_append, List.nil_append, ite_true, ite_false, if_true, if_false, reduceCtorEq, true_and, and_true, narrow_i, narrow_l, narrow_r, narrow_n, fits_i, fits_l, fits_ro, fits_ra, fits_no, fits_na, Nat.reduceAdd, Nat.reduceLT, Nat.reduceLeDiff, Nat.reduceEqDiff, Nat.reduceSub, zero_add0, true_or, or_true, false_or, or_false, not_true_eq_false, not_false_eq_true, eq_self, i10, i01, im0, im1, hR2]
      refine hQ0 q _ hlit hqle (h2.pl q) (hl2.sm (sm.up (lo := R) (hi := R + 1) (by omega) (by omega)) (by omega)) ((hs1.tr hs2.l).tr (sm.l (sm.up (by omega) (by omega))))
    generalize hN : rd_num xs q = N at hlit hbad hnum ⊢
    have i1 : (nI N < 1) = (N < 1) := propext (nI_ltI (b := 1) (by omega) (by omega))
    have i2 : (nI n < nI N) = (n < N) := propext (nI_ltI (by omega) (by omega))
    by_cases c1 : N < 1
    · have q1 := eq_true c1
      simp only [x_70_38, x_70_40, x_70_42, x_70_43, x_70_46, x_70_48, x_70_49, x_70_52, x_70_55, x_70_56, x_70_58, x_70_59, x_70_60, x_70_61, x_70_64, x_70_67, mw_nx, mw_no, mw_ite, mw_call, mw_ret, mw_cst, mw_ii, mw_i1, mw_ll, mw_l1, mw_li, mw_i2l, mw_l2i, mw_lcm, mw_if, mw_ic, mw_ifnN, mw_ifnR, mw_go, mw_dupi, mw_dupr, mw_popi, mw_popr, mw_nw, mw_rti, mw_rtl, mw_rtr, mw_rtn, mw_rtv, mw_rt0, mw_rt1, mj_ild, mj_lld, mj_ald, mj_ist, mj_lst, mj_ast, mj_inc, mj_iz, mj_get, mj_put, mj_len, mj_iar, mj_aar, mj_iaw, mj_aaw, mj_ivs, mj_ivv, mj_ivi, mj_ob, mj_tk, mj_cat, mj_st1, mj_st2, mj_clr, mj_nwi, mj_nwq, List.getElem?_cons_zero, List.getElem?_cons_succ, List.length_cons, List.length_nil, List.set_cons_zero, List.set_cons_succ, Value.category, decide_eq_true_eq, List.map_cons, List.map_nil, List.sum_cons, List.sum_nil, Option.toList, List.cons_append, List.nil_append, ite_true, ite_false, if_true, if_false, reduceCtorEq, true_and, and_true, narrow_i, narrow_l, narrow_r, narrow_n, fits_i, fits_l, fits_ro, fits_ra, fits_no, fits_na, Nat.reduceAdd, Nat.reduceLT, Nat.reduceLeDiff, Nat.reduceEqDiff, Nat.reduceSub, zero_add0, true_or, or_true, false_or, or_false, not_true_eq_false, not_false_eq_true, eq_self, i10, i01, im0, im1, hR2, i1, q1]
      exact hbad (by omega) _
    · have q1 := eq_false c1
      by_cases c2 : n < N
      · have q2 := eq_true c2
        simp only [x_70_38, x_70_40, x_70_42, x_70_43, x_70_46, x_70_48, x_70_49, x_70_52, x_70_55, x_70_56, x_70_58, x_70_59, x_70_60, x_70_61, x_70_64, x_70_67, mw_nx, mw_no, mw_ite, mw_call, mw_ret, mw_cst, mw_ii, mw_i1, mw_ll, mw_l1, mw_li, mw_i2l, mw_l2i, mw_lcm, mw_if, mw_ic, mw_ifnN, mw_ifnR, mw_go, mw_dupi, mw_dupr, mw_popi, mw_popr, mw_nw, mw_rti, mw_rtl, mw_rtr, mw_rtn, mw_rtv, mw_rt0, mw_rt1, mj_ild, mj_lld, mj_ald, mj_ist, mj_lst, mj_ast, mj_inc, mj_iz, mj_get, mj_put, mj_len, mj_iar, mj_aar, mj_iaw, mj_aaw, mj_ivs, mj_ivv, mj_ivi, mj_ob, mj_tk, mj_cat, mj_st1, mj_st2, mj_clr, mj_nwi, mj_nwq, List.getElem?_cons_zero, List.getElem?_cons_succ, List.length_cons, List.length_nil, List.set_cons_zero, List.set_cons_succ, Value.category, decide_eq_true_eq, List.map_cons, List.map_nil, List.sum_cons, List.sum_nil, Option.toList, List.cons_append, List.nil_append, ite_true, ite_false, if_true, if_false, reduceCtorEq, true_and, and_true, narrow_i, narrow_l, narrow_r, narrow_n, fits_i, fits_l, fits_ro, fits_ra, fits_no, fits_na, Nat.reduceAdd, Nat.reduceLT, Nat.reduceLeDiff, Nat.reduceEqDiff, Nat.reduceSub, zero_add0, true_or, or_true, false_or, or_false, not_true_eq_false, not_false_eq_true, eq_self, i10, i01, im0, im1, hR2, i1, q1, i2, q2]
        exact hbad (by omega) _
      · have q2 := eq_false c2
        have e1 : nI N - 1 = nI (N - 1) := pk_sub (b := 1) (by omega)
        have e2 : (2 : Int32) * nI (N - 1) + (if nI tr = 0 then 0 else 1) = nI (2 * (N - 1) + tr) := by
          have : (if nI tr = 0 then (0 : Int32) else 1) = nI tr := by
            rcases (show tr = 0 ∨ tr = 1 by omega) with rfl | rfl <;> rfl
          rw [this]
          show nI 2 * nI (N - 1) + nI tr = _
          rw [pk_mul, nI_add]
        simp only [x_70_38, x_70_40, x_70_42, x_70_43, x_70_46, x_70_48, x_70_49, x_70_52, x_70_55, x_70_56, x_70_58, x_70_59, x_70_60, x_70_61, x_70_64, mw_nx, mw_no, mw_ite, mw_call, mw_ret, mw_cst, mw_ii, mw_i1, mw_ll, mw_l1, mw_li, mw_i2l, mw_l2i, mw_lcm, mw_if, mw_ic, mw_ifnN, mw_ifnR, mw_go, mw_dupi, mw_dupr, mw_popi, mw_popr, mw_nw, mw_rti, mw_rtl, mw_rtr, mw_rtn, mw_rtv, mw_rt0, mw_rt1, mj_ild, mj_lld, mj_ald, mj_ist, mj_lst, mj_ast, mj_inc, mj_iz, mj_get, mj_put, mj_len, mj_iar, mj_aar, mj_iaw, mj_aaw, mj_ivs, mj_ivv, mj_ivi, mj_ob, mj_tk, mj_cat, mj_st1, mj_st2, mj_clr, mj_nwi, mj_nwq, List.getElem?_cons_zero, List.getElem?_cons_succ, List.length_cons, List.length_nil, List.set_cons_zero, List.set_cons_succ, Value.category, decide_eq_true_eq, List.map_cons, List.map_nil, List.sum_cons, List.sum_nil, Option.toList, List.cons_append, List.nil_append, ite_true, ite_false, if_true, if_false, reduceCtorEq, true_and, and_true, narrow_i, narrow_l, narrow_r, narrow_n, fits_i, fits_l, fits_ro, fits_ra, fits_no, fits_na, Nat.reduceAdd, Nat.reduceLT, Nat.reduceLeDiff, Nat.reduceEqDiff, Nat.reduceSub, zero_add0, true_or, or_true, false_or, or_false, not_true_eq_false, not_false_eq_true, eq_self, i10, i01, im0, im1, hR2, i1, q1, i2, q2, b1, e1, c_codeOf, e2]
        refine c_add hl2 (show 2 * (N - 1) + tr < 128 by omega) (fun htk hp3 h3 hs3' => ?_) (fun htk => ?_)
        · rw [sp_if_t ⟨by omega, by omega, htk.1, htk.2⟩] at hlit
          simp only [x_70_67, x_70_70, x_70_71, x_70_72, x_70_75, x_70_76, x_70_77, x_70_78, mw_nx, mw_no, mw_ite, mw_call, mw_ret, mw_cst, mw_ii, mw_i1, mw_ll, mw_l1, mw_li, mw_i2l, mw_l2i, mw_lcm, mw_if, mw_ic, mw_ifnN, mw_ifnR, mw_go, mw_dupi, mw_dupr, mw_popi, mw_popr, mw_nw, mw_rti, mw_rtl, mw_rtr, mw_rtn, mw_rtv, mw_rt0, mw_rt1, mj_ild, mj_lld, mj_ald, mj_ist, mj_lst, mj_ast, mj_inc, mj_iz, mj_get, mj_put, mj_len, mj_iar, mj_aar, mj_iaw, mj_aaw, mj_ivs, mj_ivv, mj_ivi, mj_ob, mj_tk, mj_cat, mj_st1, mj_st2, mj_clr, mj_nwi, mj_nwq, List.getElem?_cons_zero, List.getElem?_cons_succ, List.length_cons, List.length_nil, List.set_cons_zero, List.set_cons_succ, Value.category, decide_eq_true_eq, List.map_cons, List.map_nil, List.sum_cons, List.sum_nil, Option.toList, List.cons_append, List.nil_append, ite_true, ite_false, if_true, if_false, reduceCtorEq, true_and, and_true, narrow_i, narrow_l, narrow_r, narrow_n, fits_i, fits_l, fits_ro, fits_ra, fits_no, fits_na, Nat.reduceAdd, Nat.reduceLT, Nat.reduceLeDiff, Nat.reduceEqDiff, Nat.reduceSub, zero_add0, true_or, or_true, false_or, or_false, not_true_eq_false, not_false_eq_true, eq_self, i10, i01, im0, im1]
          exact hQ1 _ _ hp3 hlit hend.2 (by omega) htk (h2.sm hs3' (by omega)) h3 ((hs1.tr hs2.l).tr hs3'.r)
        · have := hbad (fun q => htk ⟨q.2.2.1, q.2.2.2⟩) (some (.int (nI N)))
          simp only [x_70_67, mw_nx, mw_no, mw_ite, mw_call, mw_ret, mw_cst, mw_ii, mw_i1, mw_ll, mw_l1, mw_li, mw_i2l, mw_l2i, mw_lcm, mw_if, mw_ic, mw_ifnN, mw_ifnR, mw_go, mw_dupi, mw_dupr, mw_popi, mw_popr, mw_nw, mw_rti, mw_rtl, mw_rtr, mw_rtn, mw_rtv, mw_rt0, mw_rt1, mj_ild, mj_lld, mj_ald, mj_ist, mj_lst, mj_ast, mj_inc, mj_iz, mj_get, mj_put, mj_len, mj_iar, mj_aar, mj_iaw, mj_aaw, mj_ivs, mj_ivv, mj_ivi, mj_ob, mj_tk, mj_cat, mj_st1, mj_st2, mj_clr, mj_nwi, mj_nwq, List.getElem?_cons_zero, List.getElem?_cons_succ, List.length_cons, List.length_nil, List.set_cons_zero, List.set_cons_succ, Value.category, decide_eq_true_eq, List.map_cons, List.map_nil, List.sum_cons, List.sum_nil, Option.toList, List.cons_append, List.nil_append, ite_true, ite_false, if_true, if_false, reduceCtorEq, true_and, and_true, narrow_i, narrow_l, narrow_r, narrow_n, fits_i, fits_l, fits_ro, fits_ra, fits_no, fits_na, Nat.reduceAdd, Nat.reduceLT, Nat.reduceLeDiff, Nat.reduceEqDiff, Nat.reduceSub, zero_add0, true_or, or_true, false_or, or_false, not_true_eq_false, not_false_eq_true, eq_self, i10, i01, im0, im1]
          exact this
  have hR := h.1
  have hv2 : (hv xs p = 45) = (xs[p]? = some 45) := hv_eq (v := 45) hb (by decide)
  rw [en_70]
  by_cases w : xs[p]? = some 45
  · have q1 := eq_true w
    simp only [x_70_0, x_70_1, x_70_4, x_70_6, x_70_9, x_70_10, x_70_13, x_70_14, x_70_15, x_70_16, x_70_19, x_70_20, x_70_21, x_70_24, x_70_25, x_70_26, mw_nx, mw_no, mw_ite, mw_call, mw_ret, mw_cst, mw_ii, mw_i1, mw_ll, mw_l1, mw_li, mw_i2l, mw_l2i, mw_lcm, mw_if, mw_ic, mw_ifnN, mw_ifnR, mw_go, mw_dupi, mw_dupr, mw_popi, mw_popr, mw_nw, mw_rti, mw_rtl, mw_rtr, mw_rtn, mw_rtv, mw_rt0, mw_rt1, mj_ild, mj_lld, mj_ald, mj_ist, mj_lst, mj_ast, mj_inc, mj_iz, mj_get, mj_put, mj_len, mj_iar, mj_aar, mj_iaw, mj_aaw, mj_ivs, mj_ivv, mj_ivi, mj_ob, mj_tk, mj_cat, mj_st1, mj_st2, mj_clr, mj_nwi, mj_nwq, List.getElem?_cons_zero, List.getElem?_cons_succ, List.length_cons, List.length_nil, List.set_cons_zero, List.set_cons_succ, Value.category, decide_eq_true_eq, List.map_cons, List.map_nil, List.sum_cons, List.sum_nil, Option.toList, List.cons_append, List.nil_append, ite_true, ite_false, if_true, if_false, reduceCtorEq, true_and, and_true, narrow_i, narrow_l, narrow_r, narrow_n, fits_i, fits_l, fits_ro, fits_ra, fits_no, fits_na, Nat.reduceAdd, Nat.reduceLT, Nat.reduceLeDiff, Nat.reduceEqDiff, Nat.reduceSub, zero_add0, true_or, or_true, false_or, or_false, not_true_eq_false, not_false_eq_true, eq_self, i10, i01, im0, im1, hR, c_here h (show p < 2 ^ 31 by omega), hv2, q1, nI_1]
    exact key (p + 1) 0 _ none none (by rw [if_pos w]) (by rw [if_pos w]) (get_lt w) (h.pl (p + 1)) (hl.sm (sm.up (lo := R) (hi := R + 1) (by omega) (by omega)) (by omega)) (sm.l (sm.up (by omega) (by omega)))
  · have q1 := eq_false w
    simp only [x_70_0, x_70_1, x_70_4, x_70_6, x_70_9, x_70_10, x_70_13, x_70_14, x_70_15, x_70_16, x_70_19, x_70_20, x_70_21, x_70_24, x_70_25, x_70_26, mw_nx, mw_no, mw_ite, mw_call, mw_ret, mw_cst, mw_ii, mw_i1, mw_ll, mw_l1, mw_li, mw_i2l, mw_l2i, mw_lcm, mw_if, mw_ic, mw_ifnN, mw_ifnR, mw_go, mw_dupi, mw_dupr, mw_popi, mw_popr, mw_nw, mw_rti, mw_rtl, mw_rtr, mw_rtn, mw_rtv, mw_rt0, mw_rt1, mj_ild, mj_lld, mj_ald, mj_ist, mj_lst, mj_ast, mj_inc, mj_iz, mj_get, mj_put, mj_len, mj_iar, mj_aar, mj_iaw, mj_aaw, mj_ivs, mj_ivv, mj_ivi, mj_ob, mj_tk, mj_cat, mj_st1, mj_st2, mj_clr, mj_nwi, mj_nwq, List.getElem?_cons_zero, List.getElem?_cons_succ, List.length_cons, List.length_nil, List.set_cons_zero, List.set_cons_succ, Value.category, decide_eq_true_eq, List.map_cons, List.map_nil, List.sum_cons, List.sum_nil, Option.toList, List.cons_append, List.nil_append, ite_true, ite_false, if_true, if_false, reduceCtorEq, true_and, and_true, narrow_i, narrow_l, narrow_r, narrow_n, fits_i, fits_l, fits_ro, fits_ra, fits_no, fits_na, Nat.reduceAdd, Nat.reduceLT, Nat.reduceLeDiff, Nat.reduceEqDiff, Nat.reduceSub, zero_add0, true_or, or_true, false_or, or_false, not_true_eq_false, not_false_eq_true, eq_self, i10, i01, im0, im1, hR, c_here h (show p < 2 ^ 31 by omega), hv2, q1]
    exact key p 1 _ none none (by rw [if_neg w]) (by rw [if_neg w]) hple h hl sm2.rf
end RN
