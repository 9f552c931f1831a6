/-! A Line: drop, exchange -/
theorem mj_up_id {hp : mj_H} {a : Nat} {e : va_E} (h : hp.1 a = some e) : mj_up hp a e = hp := by
  unfold mj_up
  refine Prod.ext (funext fun q => ?_) rfl
  by_cases hq : q = a
  · simp [hq, h]
  · simp [hq]
theorem ln_nodup {p r : List Nat} {c : Nat} (h : ln_ok (p ++ c :: r)) : ln_ok (p ++ r) ∧ ¬ c ∈ p ++ r ∧ c < 128 := by
  have h1 : (c :: (p ++ r)).Nodup := (List.perm_middle.nodup_iff).mp h.1
  rw [List.nodup_cons] at h1
  refine ⟨⟨h1.2, fun d hd => h.2 d ?_⟩, h1.1, h.2 c (by simp)⟩
  rcases List.mem_append.mp hd with hd | hd
  · exact List.mem_append.mpr (Or.inl hd)
  · exact List.mem_append.mpr (Or.inr (List.mem_cons_of_mem _ hd))
theorem c_drop {hp : mj_H} {Q : mj_Q} {a s c : Nat} {p r : List Nat} (h : ln_at hp a (s, p ++ c :: r)) (hQ : ∀ hp' : mj_H, ln_at hp' a (s, p ++ r) → sm hp hp' a (a + 2) → Q none hp') : mj_call 37 [.ref a, .int (nI p.length)] hp Q := by
  have hq := h
  obtain ⟨f, t, u, h1, h2, hv, hok, hs⟩ := hq
  dsimp only at h1 h2 hv hok hs
  have hlen := ln_len hok
  obtain ⟨m, hm⟩ : ∃ m, m = p.length + r.length := ⟨_, rfl⟩
  have hn : (p ++ c :: r).length = m + 1 := by rw [List.length_append, List.length_cons]; omega
  rw [hn] at h1 hlen
  obtain ⟨hok2, hcm, hc⟩ := ln_nodup hok
  have o1 : ∀ (hp : mj_H) (e : va_E), (mj_up hp (a + 1) e).1 a = hp.1 a := fun _ _ => mj_up_off (by omega)
  have key : ∀ (d k : Nat) (g : Nat → Int32), k + d = m → p.length ≤ k → (∀ j, j < p.length → g j = f j) → (∀ j, p.length ≤ j → j < k → g j = f (j + 1)) → (∀ j, k ≤ j → g j = f j) → mj_wp 37 14 [some (.ref a), some (.int (nI p.length)), some (.int (nI c)), some (.int (nI k))] [] (mj_up hp (a + 1) (ln_c g)) Q := by
    intro d
    induction d with
    | zero =>
      intro k g hk hpk g1 g2 g3
      have e1 : nI (m + 1) ≤ nI (k + 1) := nI_le (by omega) (by omega)
      rw [x_37_14]
      simp only [x_37_15, x_37_16, x_37_17, x_37_18, x_37_21, x_37_24, x_37_25, x_37_28, x_37_29, x_37_30, x_37_33, x_37_34, x_37_35, x_37_36, x_37_37, x_37_38, x_37_41, x_37_44, x_37_45, x_37_46, x_37_49, x_37_50, x_37_51, x_37_54, x_37_55, x_37_56, x_37_59, x_37_60, x_37_63, x_37_66, x_37_67, x_37_68, x_37_71, x_37_72, x_37_73, x_37_76, x_37_77, x_37_80, x_37_83, x_37_84, x_37_85, x_37_88, mw_nx, mw_no, mw_ite, mw_call, mw_ret, mw_cst, mw_ii, mw_i1, mw_ll, mw_l1, mw_li, mw_i2l, mw_l2i, mw_lcm, mw_if, mw_ic, mw_ifnN, mw_ifnR, mw_go, mw_dupi, mw_dupr, mw_popi, mw_popr, mw_nw, mw_rti, mw_rtl, mw_rtr, mw_rtn, mw_rtv, mw_rt0, mw_rt1, mj_ild, mj_lld, mj_ald, mj_ist, mj_lst, mj_ast, mj_inc, mj_iz, mj_get, mj_put, mj_len, mj_iar, mj_aar, mj_iaw, mj_aaw, mj_ivs, mj_ivv, mj_ivi, mj_ob, mj_tk, mj_cat, mj_st1, mj_st2, mj_clr, mj_nwi, mj_nwq, List.getElem?_cons_zero, List.getElem?_cons_succ, List.length_cons, List.length_nil, List.set_cons_zero, List.set_cons_succ, Value.category, decide_eq_true_eq, List.map_cons, List.map_nil, List.sum_cons, List.sum_nil, Option.toList, List.cons_append, List.nil_append, ite_true, ite_false, if_true, if_false, reduceCtorEq, true_and, and_true, narrow_i, narrow_l, narrow_r, narrow_n, fits_i, fits_l, fits_ro, fits_ra, fits_no, fits_na, Nat.reduceAdd, Nat.reduceLT, Nat.reduceLeDiff, Nat.reduceEqDiff, Nat.reduceSub, zero_add0, true_or, or_true, false_or, or_false, not_true_eq_false, not_false_eq_true, eq_self, i10, i01, im0, im1, nI_1, o1, h1, e1, mj_up_at, mj_up_up, nI_pred, c_tb (show c < 2 ^ 31 by omega), c_fb (show c < 2 ^ 31 by omega)]
      refine hQ _ ⟨g, t &&& (tb c ^^^ (-1)), u &&& (fb c ^^^ (-1)), ?_, ?_, ⟨fun j hj => ?_, fun j => ?_, fun j => ?_⟩, hok2, hs⟩ ((sm.up (by omega) (by omega)).tr (sm.up (by omega) (by omega)))
      · rw [mj_up_at]
        simp only [List.length_append, hm]
      · rw [mj_up_off (by omega), mj_up_at]
      · rw [List.length_append] at hj
        by_cases hjp : j < p.length
        · rw [g1 j hjp, hv.1 j (by omega)]
          simp [List.getD_eq_getElem?_getD, List.getElem?_append_left hjp]
        · rw [g2 j (by omega) (by omega), hv.1 (j + 1) (by omega)]
          simp only [List.getD_eq_getElem?_getD]
          rw [List.getElem?_append_right (by omega), List.getElem?_append_right (by omega), show j + 1 - p.length = (j - p.length) + 1 by omega, List.getElem?_cons_succ]
      · by_cases hj : j < 64
        · rw [lb_and, lb_not _ hj, lb_tb hc, hv.2.1]
          by_cases e : c = 2 * j + 1
          · rw [← e]; simp at hcm; simp [hcm]
          · have e' : ¬ 2 * j + 1 = c := fun q => e q.symm
            simp [e, e']
        · rw [lb_and, lb_big (by omega), Bool.false_and, eq_comm, decide_eq_false_iff_not]
          intro q; have := hok2.2 _ q; omega
      · by_cases hj : j < 64
        · rw [lb_and, lb_not _ hj, lb_fb hc, hv.2.2]
          by_cases e : c = 2 * j
          · rw [← e]; simp at hcm; simp [hcm]
          · have e' : ¬ 2 * j = c := fun q => e q.symm
            simp [e, e']
        · rw [lb_and, lb_big (by omega), Bool.false_and, eq_comm, decide_eq_false_iff_not]
          intro q; have := hok2.2 _ q; omega
    | succ d ih =>
      intro k g hk hpk g1 g2 g3
      have e1 : ¬ nI (m + 1) ≤ nI (k + 1) := nI_ge (by omega) (by omega)
      have k0 : ¬ nI k < 0 := nI_pos (by omega)
      have k1 : ¬ nI (k + 1) < 0 := nI_pos (by omega)
      have k2 : (nI k).toNatClampNeg = k := nI_clamp (by omega)
      have k3 : (nI (k + 1)).toNatClampNeg = k + 1 := nI_clamp (by omega)
      have k4 : ¬ 128 ≤ k := by omega
      have k5 : ¬ 128 ≤ k + 1 := by omega
      rw [x_37_14]
      simp only [x_37_15, x_37_16, x_37_17, x_37_18, x_37_21, x_37_24, x_37_25, x_37_28, x_37_29, x_37_30, x_37_33, x_37_34, x_37_35, x_37_36, x_37_37, x_37_38, x_37_41, mw_nx, mw_no, mw_ite, mw_call, mw_ret, mw_cst, mw_ii, mw_i1, mw_ll, mw_l1, mw_li, mw_i2l, mw_l2i, mw_lcm, mw_if, mw_ic, mw_ifnN, mw_ifnR, mw_go, mw_dupi, mw_dupr, mw_popi, mw_popr, mw_nw, mw_rti, mw_rtl, mw_rtr, mw_rtn, mw_rtv, mw_rt0, mw_rt1, mj_ild, mj_lld, mj_ald, mj_ist, mj_lst, mj_ast, mj_inc, mj_iz, mj_get, mj_put, mj_len, mj_iar, mj_aar, mj_iaw, mj_aaw, mj_ivs, mj_ivv, mj_ivi, mj_ob, mj_tk, mj_cat, mj_st1, mj_st2, mj_clr, mj_nwi, mj_nwq, List.getElem?_cons_zero, List.getElem?_cons_succ, List.length_cons, List.length_nil, List.set_cons_zero, List.set_cons_succ, Value.category, decide_eq_true_eq, List.map_cons, List.map_nil, List.sum_cons, List.sum_nil, Option.toList, List.cons_append, List.nil_append, ite_true, ite_false, if_true, if_false, reduceCtorEq, true_and, and_true, narrow_i, narrow_l, narrow_r, narrow_n, fits_i, fits_l, fits_ro, fits_ra, fits_no, fits_na, Nat.reduceAdd, Nat.reduceLT, Nat.reduceLeDiff, Nat.reduceEqDiff, Nat.reduceSub, zero_add0, true_or, or_true, false_or, or_false, not_true_eq_false, not_false_eq_true, eq_self, i10, i01, im0, im1, nI_1, o1, h1, e1, mj_up_at, mj_up_up, k0, k1, k2, k3, k4, k5, at_0, at_len]
      refine ih (k + 1) (upd g k (g (k + 1))) (by omega) (by omega) (fun j hj => ?_) (fun j h3 h4 => ?_) (fun j hj => ?_)
      · rw [show upd g k (g (k + 1)) j = g j by simp [upd, show j ≠ k by omega]]; exact g1 j hj
      · by_cases hjk : j = k
        · subst hjk
          rw [show upd g j (g (j + 1)) j = g (j + 1) by simp [upd]]
          exact g3 (j + 1) (by omega)
        · rw [show upd g k (g (k + 1)) j = g j by simp [upd, hjk]]; exact g2 j h3 (by omega)
      · rw [show upd g k (g (k + 1)) j = g j by simp [upd, show j ≠ k by omega]]; exact g3 j (by omega)
  have hi : p.length < (p ++ c :: r).length := by rw [hn]; omega
  have hget : (p ++ c :: r).getD p.length 0 = c := by simp [List.getD_eq_getElem?_getD]
  have cne : ¬ nI c = -1 := fun q => nI_pos (n := c) (by omega) (by rw [q]; decide)
  rw [en_37]
  simp only [x_37_0, x_37_1, x_37_2, x_37_5, x_37_6, x_37_7, x_37_8, x_37_11, x_37_12, x_37_13, mw_nx, mw_no, mw_ite, mw_call, mw_ret, mw_cst, mw_ii, mw_i1, mw_ll, mw_l1, mw_li, mw_i2l, mw_l2i, mw_lcm, mw_if, mw_ic, mw_ifnN, mw_ifnR, mw_go, mw_dupi, mw_dupr, mw_popi, mw_popr, mw_nw, mw_rti, mw_rtl, mw_rtr, mw_rtn, mw_rtv, mw_rt0, mw_rt1, mj_ild, mj_lld, mj_ald, mj_ist, mj_lst, mj_ast, mj_inc, mj_iz, mj_get, mj_put, mj_len, mj_iar, mj_aar, mj_iaw, mj_aaw, mj_ivs, mj_ivv, mj_ivi, mj_ob, mj_tk, mj_cat, mj_st1, mj_st2, mj_clr, mj_nwi, mj_nwq, List.getElem?_cons_zero, List.getElem?_cons_succ, List.length_cons, List.length_nil, List.set_cons_zero, List.set_cons_succ, Value.category, decide_eq_true_eq, List.map_cons, List.map_nil, List.sum_cons, List.sum_nil, Option.toList, List.cons_append, List.nil_append, ite_true, ite_false, if_true, if_false, reduceCtorEq, true_and, and_true, narrow_i, narrow_l, narrow_r, narrow_n, fits_i, fits_l, fits_ro, fits_ra, fits_no, fits_na, Nat.reduceAdd, Nat.reduceLT, Nat.reduceLeDiff, Nat.reduceEqDiff, Nat.reduceSub, zero_add0, true_or, or_true, false_or, or_false, not_true_eq_false, not_false_eq_true, eq_self, i10, i01, im0, im1, h1, c_codeAtN h hi, hget, cne]
  have := key r.length p.length f (by omega) (Nat.le_refl _) (fun _ _ => rfl) (fun j h3 h4 => by omega) (fun _ _ => rfl)
  rwa [mj_up_id h2] at this
theorem sp_ex_lt {x y c : Nat} (hx : x < 64) (hy : y < 64) (hc : c < 128) : sp_ex x y c < 128 := by
  unfold sp_ex
  split
  · omega
  · split <;> omega
theorem sp_ex_inj {x y c d : Nat} (h : sp_ex x y c = sp_ex x y d) : c = d := by
  unfold sp_ex at h
  by_cases h1 : c / 2 = x <;> by_cases h2 : c / 2 = y <;> by_cases h3 : d / 2 = x <;> by_cases h4 : d / 2 = y <;> simp only [h1, h2, h3, h4, if_true, if_false] at h <;> (try subst h1) <;> (try subst h2) <;> (try subst h3) <;> (try subst h4) <;> (repeat' split at h) <;> omega
