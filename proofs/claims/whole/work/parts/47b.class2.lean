/-! The class: learn, split, check, shorten, turn, read -/
theorem ln_adds_all {z : Int32} : ∀ (r acc : List Nat), (acc ++ r).Nodup → (∀ c ∈ r, ¬ nI (c / 2) = z) → ln_adds z acc r = acc ++ r := by
  intro r
  induction r with
  | nil => intro acc _ _; rw [ln_adds, List.append_nil]
  | cons c r ih =>
    intro acc hnd hz
    have hc : ¬ c ∈ acc := by
      rw [List.nodup_append] at hnd
      intro q
      exact hnd.2.2 c q c List.mem_cons_self rfl
    rw [ln_adds, if_neg (by rintro (q | q); exact hz c List.mem_cons_self q; exact hc q), ih (acc ++ [c]) (by rw [List.append_assoc]; exact hnd) (fun d hd => hz d (List.mem_cons_of_mem _ hd)), List.append_assoc]
    rfl
theorem ln_adds_so {t : Nat} (ht : t < 2 ^ 31) : ∀ (r acc : List Nat), (∀ c ∈ r, c < 128) → ln_adds (nI t) acc r = so_adds t acc r := by
  intro r
  induction r with
  | nil => intro acc _; rw [ln_adds, so_adds]
  | cons c r ih =>
    intro acc hz
    have hc := hz c List.mem_cons_self
    have h2 : c / 2 < 2 ^ 31 := by omega
    have e : (nI (c / 2) = nI t) = (c / 2 = t) := propext (nI_eq h2 ht)
    rw [ln_adds, so_adds, ih _ (fun d hd => hz d (List.mem_cons_of_mem _ hd))]
    congr 1
    simp only [e]
theorem so_adds_mem {t : Nat} : ∀ (r acc : List Nat) (c : Nat), c ∈ so_adds t acc r → c ∈ acc ∨ c ∈ r := by
  intro r
  induction r with
  | nil => intro acc c h; rw [so_adds] at h; exact Or.inl h
  | cons d r ih =>
    intro acc c h
    rw [so_adds] at h
    rcases ih _ c h with q | q
    · split at q
      · exact Or.inl q
      · rcases List.mem_append.mp q with w | w
        · exact Or.inl w
        · rw [List.mem_singleton] at w; rw [w]; exact Or.inr List.mem_cons_self
    · exact Or.inr (List.mem_cons_of_mem _ q)
section CM
variable {hp : mj_H} {Q : mj_Q} {o : Nat} {s : sp_S}
theorem d_learn (h : cl_at hp o s) (hQ : ∀ hp' : mj_H, cl_at hp' o (so_learn s).1 → sm hp hp' o (o + 331) → Q (some (.int (so_learn s).2)) hp') : mj_call 7 [.ref o] hp Q := by
  obtain ⟨n, col, ls, xs⟩ := s
  obtain ⟨P, S, h⟩ := h
  have hw := h
  obtain ⟨hPS, hn, ho, ⟨kc, hkc, hcol⟩, hcb, ⟨p, hre⟩, ⟨ρ, g, π, C, hr, hpk, hmap, hk, hlv⟩, hsp⟩ := h
  dsimp only at *
  unfold so_learn at hQ
  dsimp only at hQ
  rw [en_7]
  simp only [x_7_0, x_7_1, x_7_4, x_7_5, mw_nx, mw_no, mw_ite, mw_call, mw_ret, mw_cst, mw_ii, mw_i1, mw_ll, mw_l1, mw_li, mw_i2l, mw_l2i, mw_lcm, mw_if, mw_ic, mw_ifnN, mw_ifnR, mw_go, mw_dupi, mw_dupr, mw_popi, mw_popr, mw_nw, mw_rti, mw_rtl, mw_rtr, mw_rtn, mw_rtv, mw_rt0, mw_rt1, mj_ild, mj_lld, mj_ald, mj_ist, mj_lst, mj_ast, mj_inc, mj_iz, mj_get, mj_put, mj_len, mj_iar, mj_aar, mj_iaw, mj_aaw, mj_ivs, mj_ivv, mj_ivi, mj_ob, mj_tk, mj_cat, mj_st1, mj_st2, mj_clr, mj_nwi, mj_nwq, List.getElem?_cons_zero, List.getElem?_cons_succ, List.length_cons, List.length_nil, List.set_cons_zero, List.set_cons_succ, Value.category, decide_eq_true_eq, List.map_cons, List.map_nil, List.sum_cons, List.sum_nil, Option.toList, List.cons_append, List.nil_append, ite_true, ite_false, if_true, if_false, reduceCtorEq, true_and, and_true, narrow_i, narrow_l, narrow_r, narrow_n, fits_i, fits_l, fits_ro, fits_ra, fits_no, fits_na, Nat.reduceAdd, Nat.reduceLT, Nat.reduceLeDiff, Nat.reduceEqDiff, Nat.reduceSub, zero_add0, true_or, or_true, false_or, or_false, not_true_eq_false, not_false_eq_true, eq_self, i10, i01, im0, im1, ho, hr.1]
  refine c_open (s := 1) hr hk hpk (by omega) (fun h8 => ?_) (fun h8 hp1 r1 k1 s1 => ?_)
  · rw [sp_if_f (by omega)] at hQ
    simp only [x_7_8, x_7_9, x_7_10, x_7_13, x_7_14, x_7_15, x_7_16, x_7_17, x_7_20, x_7_21, x_7_24, x_7_25, x_7_28, x_7_29, x_7_32, x_7_33, x_7_36, x_7_39, x_7_40, x_7_41, mw_nx, mw_no, mw_ite, mw_call, mw_ret, mw_cst, mw_ii, mw_i1, mw_ll, mw_l1, mw_li, mw_i2l, mw_l2i, mw_lcm, mw_if, mw_ic, mw_ifnN, mw_ifnR, mw_go, mw_dupi, mw_dupr, mw_popi, mw_popr, mw_nw, mw_rti, mw_rtl, mw_rtr, mw_rtn, mw_rtv, mw_rt0, mw_rt1, mj_ild, mj_lld, mj_ald, mj_ist, mj_lst, mj_ast, mj_inc, mj_iz, mj_get, mj_put, mj_len, mj_iar, mj_aar, mj_iaw, mj_aaw, mj_ivs, mj_ivv, mj_ivi, mj_ob, mj_tk, mj_cat, mj_st1, mj_st2, mj_clr, mj_nwi, mj_nwq, List.getElem?_cons_zero, List.getElem?_cons_succ, List.length_cons, List.length_nil, List.set_cons_zero, List.set_cons_succ, Value.category, decide_eq_true_eq, List.map_cons, List.map_nil, List.sum_cons, List.sum_nil, Option.toList, List.cons_append, List.nil_append, ite_true, ite_false, if_true, if_false, reduceCtorEq, true_and, and_true, narrow_i, narrow_l, narrow_r, narrow_n, fits_i, fits_l, fits_ro, fits_ra, fits_no, fits_na, Nat.reduceAdd, Nat.reduceLT, Nat.reduceLeDiff, Nat.reduceEqDiff, Nat.reduceSub, zero_add0, true_or, or_true, false_or, or_false, not_true_eq_false, not_false_eq_true, eq_self, i10, i01, im0, im1]
    exact hQ hp ⟨P, S, hw⟩ sm.rf
  · rw [sp_if_t h8] at hQ
    have ho1 := (s1.2 o (by omega)).trans ho
    obtain ⟨p1, p2, p3⟩ := k1.1 ls.length h8
    rw [va_up_self] at p3
    have p4 := p3
    obtain ⟨f, t1, u1, b1, -⟩ := p4
    have hcol1 := hcol.sm s1 (by omega)
    simp only [x_7_8, x_7_9, x_7_10, x_7_13, x_7_14, x_7_15, x_7_16, x_7_17, x_7_20, x_7_21, mw_nx, mw_no, mw_ite, mw_call, mw_ret, mw_cst, mw_ii, mw_i1, mw_ll, mw_l1, mw_li, mw_i2l, mw_l2i, mw_lcm, mw_if, mw_ic, mw_ifnN, mw_ifnR, mw_go, mw_dupi, mw_dupr, mw_popi, mw_popr, mw_nw, mw_rti, mw_rtl, mw_rtr, mw_rtn, mw_rtv, mw_rt0, mw_rt1, mj_ild, mj_lld, mj_ald, mj_ist, mj_lst, mj_ast, mj_inc, mj_iz, mj_get, mj_put, mj_len, mj_iar, mj_aar, mj_iaw, mj_aaw, mj_ivs, mj_ivv, mj_ivi, mj_ob, mj_tk, mj_cat, mj_st1, mj_st2, mj_clr, mj_nwi, mj_nwq, List.getElem?_cons_zero, List.getElem?_cons_succ, List.length_cons, List.length_nil, List.set_cons_zero, List.set_cons_succ, Value.category, decide_eq_true_eq, List.map_cons, List.map_nil, List.sum_cons, List.sum_nil, Option.toList, List.cons_append, List.nil_append, ite_true, ite_false, if_true, if_false, reduceCtorEq, true_and, and_true, narrow_i, narrow_l, narrow_r, narrow_n, fits_i, fits_l, fits_ro, fits_ra, fits_no, fits_na, Nat.reduceAdd, Nat.reduceLT, Nat.reduceLeDiff, Nat.reduceEqDiff, Nat.reduceSub, zero_add0, true_or, or_true, false_or, or_false, not_true_eq_false, not_false_eq_true, eq_self, i10, i01, im0, im1, ho1, b1]
    refine c_addAllBut p3 hcol1 (by decide) (by omega) (fun hp2 h2 s2 => ?_)
    have hok := hcol.choose_spec.choose_spec.choose_spec.2.2.2.1
    rw [ln_adds_all _ _ (by rw [List.nil_append]; exact hok.1) (fun c _ q => nI_pos (n := c / 2) (by have := hok.2 c (by assumption); omega) (by rw [q]; decide)), List.nil_append] at h2
    obtain ⟨r2, k2⟩ := pf_set r1 k1 h8 h2 s2
    rw [va_up_up2] at k2
    have s12 : sm hp hp2 P (P + 163) := s1.tr (s2.mono (by omega) (by omega))
    have ho2 := (s12.2 o (by omega)).trans ho
    have hcol2 := hcol.sm s12 (by omega)
    obtain ⟨f, t2, u2, c1, c2, -⟩ := hcol2
    have hw2 : cl_w hp2 o P S (n, col, ls ++ [(1, col)], xs) := by
      refine hw.pf s12 ⟨ρ, g, π, _, ?_, k2, map_snoc hmap, ?_, fun l hl => ?_⟩
      · rw [List.length_append]; exact r2
      · rw [List.length_append, List.length_singleton]; omega
      · rcases List.mem_append.mp hl with q | q
        · exact hlv l q
        · rw [List.mem_singleton] at q; subst q
          exact ⟨hcb, fun q => by cases q⟩
    have r3 : pf_r (mj_up hp2 (o + 1) (ln_o (o + 1) 0 1 0 0)) P n (ls.length + 1) ρ g := ⟨by rw [mj_up_off (by omega)]; exact r2.1, by rw [mj_up_off (by omega)]; exact r2.2.1, by rw [mj_up_off (by omega)]; exact r2.2.2⟩
    have cb : ∀ (Q : mj_Q), mj_call 26 [.ref (o + 1), .int 1] hp2 Q = Q none (mj_up hp2 (o + 1) (ln_o (o + 1) 0 1 0 0)) := fun Q => c_begin c1 1
    have o3 : ∀ (e : va_E), (mj_up hp2 (o + 1) e).1 o = hp2.1 o := fun _ => mj_up_off (by omega)
    simp only [x_7_24, x_7_25, x_7_28, x_7_29, x_7_32, x_7_33, x_7_36, x_7_39, x_7_40, x_7_41, mw_nx, mw_no, mw_ite, mw_call, mw_ret, mw_cst, mw_ii, mw_i1, mw_ll, mw_l1, mw_li, mw_i2l, mw_l2i, mw_lcm, mw_if, mw_ic, mw_ifnN, mw_ifnR, mw_go, mw_dupi, mw_dupr, mw_popi, mw_popr, mw_nw, mw_rti, mw_rtl, mw_rtr, mw_rtn, mw_rtv, mw_rt0, mw_rt1, mj_ild, mj_lld, mj_ald, mj_ist, mj_lst, mj_ast, mj_inc, mj_iz, mj_get, mj_put, mj_len, mj_iar, mj_aar, mj_iaw, mj_aaw, mj_ivs, mj_ivv, mj_ivi, mj_ob, mj_tk, mj_cat, mj_st1, mj_st2, mj_clr, mj_nwi, mj_nwq, List.getElem?_cons_zero, List.getElem?_cons_succ, List.length_cons, List.length_nil, List.set_cons_zero, List.set_cons_succ, Value.category, decide_eq_true_eq, List.map_cons, List.map_nil, List.sum_cons, List.sum_nil, Option.toList, List.cons_append, List.nil_append, ite_true, ite_false, if_true, if_false, reduceCtorEq, true_and, and_true, narrow_i, narrow_l, narrow_r, narrow_n, fits_i, fits_l, fits_ro, fits_ra, fits_no, fits_na, Nat.reduceAdd, Nat.reduceLT, Nat.reduceLeDiff, Nat.reduceEqDiff, Nat.reduceSub, zero_add0, true_or, or_true, false_or, or_false, not_true_eq_false, not_false_eq_true, eq_self, i10, i01, im0, im1, ho2, c1, cb, o3, r3.1, c_count r3, nI_pred]
    have s3 : sm hp2 (mj_up hp2 (o + 1) (ln_o (o + 1) 0 1 0 0)) (o + 1) (o + 1 + 2) := sm.up (by omega) (by omega)
    refine hQ _ ⟨P, S, hw2.co s3 (kc := 1) (col' := []) (by omega) ⟨f, 0, 0, ?_, ?_, ⟨fun i hi => by simp at hi, fun i => by rw [lb_0]; simp, fun i => by rw [lb_0]; simp⟩, ⟨List.nodup_nil, fun c hc => by cases hc⟩, by decide⟩ (fun c hc => absurd hc List.not_mem_nil)⟩ ((s12.mono (by omega) (by omega)).tr (s3.mono (by omega) (by omega)))
    · rw [mj_up_at]; rfl
    · rw [mj_up_off (by omega)]; exact c2
theorem c_areCases {a b : Nat} {l1 l2 : Nat × List Nat} {t : Int32} {j : Nat} (h1 : ln_at hp a l1) (h2 : ln_at hp b l2) (hj : j < 64) (ht : t = nI j) (ht1 : so_cases l1 l2 j → Q (some (.int 1)) hp) (hf : ¬ so_cases l1 l2 j → Q (some (.int 0)) hp) : mj_call 21 [.ref a, .ref b, .int t] hp Q := by
  subst ht
  have a1 := h1
  have a2 := h2
  obtain ⟨f, t1, u1, b1, -, -, -, b3⟩ := a1
  obtain ⟨f', t1', u1', b1', -, -, -, b3'⟩ := a2
  have e1 : (2 : Int32) * nI j + 1 = nI (2 * j + 1) := by
    show nI 2 * nI j + 1 = _
    rw [pk_mul, nI_1]
  have e0 : (2 : Int32) * nI j + 0 = nI (2 * j) := by
    show nI 2 * nI j + 0 = _
    rw [pk_mul, add0]
  have k1 : 2 * j + 1 < 128 := by omega
  have k0 : 2 * j < 128 := by omega
  rw [en_21]
  unfold so_cases at ht1 hf
  by_cases q1 : l1.1 = 3 <;> by_cases q2 : l2.1 = 3 <;> by_cases m1 : 2 * j + 1 ∈ l1.2 <;> by_cases m2 : 2 * j ∈ l2.2 <;> by_cases m3 : 2 * j ∈ l1.2 <;> by_cases m4 : 2 * j + 1 ∈ l2.2 <;>
    simp only [x_21_0, x_21_1, x_21_2, x_21_5, x_21_6, x_21_7, x_21_8, x_21_11, x_21_13, x_21_14, x_21_17, x_21_20, x_21_21, x_21_24, x_21_27, x_21_28, x_21_29, x_21_32, x_21_35, x_21_36, x_21_38, x_21_41, x_21_44, x_21_45, x_21_47, x_21_50, x_21_53, x_21_54, x_21_55, x_21_58, x_21_61, x_21_62, x_21_65, x_21_66, mw_nx, mw_no, mw_ite, mw_call, mw_ret, mw_cst, mw_ii, mw_i1, mw_ll, mw_l1, mw_li, mw_i2l, mw_l2i, mw_lcm, mw_if, mw_ic, mw_ifnN, mw_ifnR, mw_go, mw_dupi, mw_dupr, mw_popi, mw_popr, mw_nw, mw_rti, mw_rtl, mw_rtr, mw_rtn, mw_rtv, mw_rt0, mw_rt1, mj_ild, mj_lld, mj_ald, mj_ist, mj_lst, mj_ast, mj_inc, mj_iz, mj_get, mj_put, mj_len, mj_iar, mj_aar, mj_iaw, mj_aaw, mj_ivs, mj_ivv, mj_ivi, mj_ob, mj_tk, mj_cat, mj_st1, mj_st2, mj_clr, mj_nwi, mj_nwq, List.getElem?_cons_zero, List.getElem?_cons_succ, List.length_cons, List.length_nil, List.set_cons_zero, List.set_cons_succ, Value.category, decide_eq_true_eq, List.map_cons, List.map_nil, List.sum_cons, List.sum_nil, Option.toList, List.cons_append, List.nil_append, ite_true, ite_false, if_true, if_false, reduceCtorEq, true_and, and_true, narrow_i, narrow_l, narrow_r, narrow_n, fits_i, fits_l, fits_ro, fits_ra, fits_no, fits_na, Nat.reduceAdd, Nat.reduceLT, Nat.reduceLeDiff, Nat.reduceEqDiff, Nat.reduceSub, zero_add0, true_or, or_true, false_or, or_false, not_true_eq_false, not_false_eq_true, eq_self, i10, i01, im0, im1, c_codeOf, e1, e0, c_isClause b1 b3, c_isClause b1' b3', b1, b1', c_has h1 k1, c_has h1 k0, c_has h2 k1, c_has h2 k0, q1, q2, m1, m2, m3, m4] <;> first | (exact hf (by simp [q1, q2, m1, m2, m3, m4])) | (exact ht1 (by simp [q1, q2, m1, m2, m3, m4]))
theorem d_split (t : Int32) (h : cl_at hp o s) (hQ : ∀ hp' : mj_H, cl_at hp' o (so_split t s).1 → sm hp hp' o (o + 331) → Q (some (.int (so_split t s).2)) hp') : mj_call 8 [.ref o, .int t] hp Q := by
  obtain ⟨n, col, ls, xs⟩ := s
  obtain ⟨P, S, h⟩ := h
  have hw := h
  obtain ⟨hPS, hn, ho, ⟨kc, hkc, hcol⟩, hcb, ⟨p, hre⟩, ⟨ρ, g, π, C, hr, hpk, hmap, hk, hlv⟩, hsp⟩ := h
  dsimp only at *
  unfold so_split at hQ
  dsimp only at hQ
  rw [en_8]
  by_cases w : 2 ≤ ls.length
  · have i2 : ls.length - 2 < ls.length := by omega
    have i1 : ls.length - 1 < ls.length := by omega
    have e2 : nI ls.length - 2 = nI (ls.length - 2) := pk_sub (b := 2) w
    have e1 : nI ls.length - 1 = nI (ls.length - 1) := pk_sub (b := 1) (by omega)
    obtain ⟨p1, p2, p3⟩ := hpk.1 (ls.length - 2) (by omega)
    obtain ⟨p1', p2', p3'⟩ := hpk.1 (ls.length - 1) (by omega)
    rw [← map_at hmap i2, ← map_at hmap i1] at hQ
    by_cases wt : so_th n t
    · have wt' : (0 ≤ t ∧ t < nI n) = True := eq_true wt
      obtain ⟨j, hj, hje, hjc⟩ := so_th_nat hn.2 wt
      rw [hjc] at hQ
      simp only [x_8_0, x_8_1, x_8_4, x_8_5, x_8_8, x_8_11, x_8_12, x_8_13, x_8_16, x_8_17, x_8_18, x_8_21, x_8_22, x_8_25, x_8_28, x_8_29, x_8_30, x_8_33, x_8_34, x_8_35, x_8_38, x_8_39, x_8_42, x_8_43, x_8_44, x_8_47, x_8_50, x_8_51, x_8_52, x_8_53, mw_nx, mw_no, mw_ite, mw_call, mw_ret, mw_cst, mw_ii, mw_i1, mw_ll, mw_l1, mw_li, mw_i2l, mw_l2i, mw_lcm, mw_if, mw_ic, mw_ifnN, mw_ifnR, mw_go, mw_dupi, mw_dupr, mw_popi, mw_popr, mw_nw, mw_rti, mw_rtl, mw_rtr, mw_rtn, mw_rtv, mw_rt0, mw_rt1, mj_ild, mj_lld, mj_ald, mj_ist, mj_lst, mj_ast, mj_inc, mj_iz, mj_get, mj_put, mj_len, mj_iar, mj_aar, mj_iaw, mj_aaw, mj_ivs, mj_ivv, mj_ivi, mj_ob, mj_tk, mj_cat, mj_st1, mj_st2, mj_clr, mj_nwi, mj_nwq, List.getElem?_cons_zero, List.getElem?_cons_succ, List.length_cons, List.length_nil, List.set_cons_zero, List.set_cons_succ, Value.category, decide_eq_true_eq, List.map_cons, List.map_nil, List.sum_cons, List.sum_nil, Option.toList, List.cons_append, List.nil_append, ite_true, ite_false, if_true, if_false, reduceCtorEq, true_and, and_true, narrow_i, narrow_l, narrow_r, narrow_n, fits_i, fits_l, fits_ro, fits_ra, fits_no, fits_na, Nat.reduceAdd, Nat.reduceLT, Nat.reduceLeDiff, Nat.reduceEqDiff, Nat.reduceSub, zero_add0, true_or, or_true, false_or, or_false, not_true_eq_false, not_false_eq_true, eq_self, i10, i01, im0, im1, ho, hr.1, c_count hr, e2, e1, c_at hr hk i2 hpk, c_at hr hk i1 hpk, c_isThing o t (nI n) _ hp _ ho, wt']
      refine c_areCases p3 p3' (show j < 64 by omega) hje (fun hc => ?_) (fun hc => ?_)
      · simp only [x_8_56, x_8_59, x_8_60, x_8_61, x_8_62, x_8_65, x_8_66, mw_nx, mw_no, mw_ite, mw_call, mw_ret, mw_cst, mw_ii, mw_i1, mw_ll, mw_l1, mw_li, mw_i2l, mw_l2i, mw_lcm, mw_if, mw_ic, mw_ifnN, mw_ifnR, mw_go, mw_dupi, mw_dupr, mw_popi, mw_popr, mw_nw, mw_rti, mw_rtl, mw_rtr, mw_rtn, mw_rtv, mw_rt0, mw_rt1, mj_ild, mj_lld, mj_ald, mj_ist, mj_lst, mj_ast, mj_inc, mj_iz, mj_get, mj_put, mj_len, mj_iar, mj_aar, mj_iaw, mj_aaw, mj_ivs, mj_ivv, mj_ivi, mj_ob, mj_tk, mj_cat, mj_st1, mj_st2, mj_clr, mj_nwi, mj_nwq, List.getElem?_cons_zero, List.getElem?_cons_succ, List.length_cons, List.length_nil, List.set_cons_zero, List.set_cons_succ, Value.category, decide_eq_true_eq, List.map_cons, List.map_nil, List.sum_cons, List.sum_nil, Option.toList, List.cons_append, List.nil_append, ite_true, ite_false, if_true, if_false, reduceCtorEq, true_and, and_true, narrow_i, narrow_l, narrow_r, narrow_n, fits_i, fits_l, fits_ro, fits_ra, fits_no, fits_na, Nat.reduceAdd, Nat.reduceLT, Nat.reduceLeDiff, Nat.reduceEqDiff, Nat.reduceSub, zero_add0, true_or, or_true, false_or, or_false, not_true_eq_false, not_false_eq_true, eq_self, i10, i01, im0, im1, ho, hr.1]
        refine c_open (s := 2) hr hk hpk (by omega) (fun h8 => ?_) (fun h8 hp1 r1 k1 s1 => ?_)
        · rw [sp_if_f (by omega)] at hQ
          simp only [x_8_69, x_8_71, x_8_73, x_8_76, x_8_77, mw_nx, mw_no, mw_ite, mw_call, mw_ret, mw_cst, mw_ii, mw_i1, mw_ll, mw_l1, mw_li, mw_i2l, mw_l2i, mw_lcm, mw_if, mw_ic, mw_ifnN, mw_ifnR, mw_go, mw_dupi, mw_dupr, mw_popi, mw_popr, mw_nw, mw_rti, mw_rtl, mw_rtr, mw_rtn, mw_rtv, mw_rt0, mw_rt1, mj_ild, mj_lld, mj_ald, mj_ist, mj_lst, mj_ast, mj_inc, mj_iz, mj_get, mj_put, mj_len, mj_iar, mj_aar, mj_iaw, mj_aaw, mj_ivs, mj_ivv, mj_ivi, mj_ob, mj_tk, mj_cat, mj_st1, mj_st2, mj_clr, mj_nwi, mj_nwq, List.getElem?_cons_zero, List.getElem?_cons_succ, List.length_cons, List.length_nil, List.set_cons_zero, List.set_cons_succ, Value.category, decide_eq_true_eq, List.map_cons, List.map_nil, List.sum_cons, List.sum_nil, Option.toList, List.cons_append, List.nil_append, ite_true, ite_false, if_true, if_false, reduceCtorEq, true_and, and_true, narrow_i, narrow_l, narrow_r, narrow_n, fits_i, fits_l, fits_ro, fits_ra, fits_no, fits_na, Nat.reduceAdd, Nat.reduceLT, Nat.reduceLeDiff, Nat.reduceEqDiff, Nat.reduceSub, zero_add0, true_or, or_true, false_or, or_false, not_true_eq_false, not_false_eq_true, eq_self, i10, i01, im0, im1]
          exact hQ hp ⟨P, S, hw⟩ sm.rf
        · rw [sp_if_t ⟨w, h8, wt, hc⟩] at hQ
          have hne2 : ls.length - 2 ≠ ls.length := by omega
          have hne1 : ls.length - 1 ≠ ls.length := by omega
          obtain ⟨q1, q2, q3⟩ := k1.1 ls.length h8
          rw [va_up_self] at q3
          obtain ⟨a1, a2, a3⟩ := k1.1 (ls.length - 2) (by omega)
          rw [va_up_ne _ _ hne2] at a3
          have d2 : π (ls.length - 2) ≠ π ls.length := fun e => hne2 (hpk.2 _ _ (by omega) h8 e)
          have d1 : π (ls.length - 1) ≠ π ls.length := fun e => hne1 (hpk.2 _ _ (by omega) h8 e)
          have q4 := q3
          obtain ⟨f, t1, u1, b1, -⟩ := q4
          simp only [x_8_69, x_8_71, x_8_73, x_8_76, x_8_77, x_8_78, x_8_80, x_8_81, x_8_82, mw_nx, mw_no, mw_ite, mw_call, mw_ret, mw_cst, mw_ii, mw_i1, mw_ll, mw_l1, mw_li, mw_i2l, mw_l2i, mw_lcm, mw_if, mw_ic, mw_ifnN, mw_ifnR, mw_go, mw_dupi, mw_dupr, mw_popi, mw_popr, mw_nw, mw_rti, mw_rtl, mw_rtr, mw_rtn, mw_rtv, mw_rt0, mw_rt1, mj_ild, mj_lld, mj_ald, mj_ist, mj_lst, mj_ast, mj_inc, mj_iz, mj_get, mj_put, mj_len, mj_iar, mj_aar, mj_iaw, mj_aaw, mj_ivs, mj_ivv, mj_ivi, mj_ob, mj_tk, mj_cat, mj_st1, mj_st2, mj_clr, mj_nwi, mj_nwq, List.getElem?_cons_zero, List.getElem?_cons_succ, List.length_cons, List.length_nil, List.set_cons_zero, List.set_cons_succ, Value.category, decide_eq_true_eq, List.map_cons, List.map_nil, List.sum_cons, List.sum_nil, Option.toList, List.cons_append, List.nil_append, ite_true, ite_false, if_true, if_false, reduceCtorEq, true_and, and_true, narrow_i, narrow_l, narrow_r, narrow_n, fits_i, fits_l, fits_ro, fits_ra, fits_no, fits_na, Nat.reduceAdd, Nat.reduceLT, Nat.reduceLeDiff, Nat.reduceEqDiff, Nat.reduceSub, zero_add0, true_or, or_true, false_or, or_false, not_true_eq_false, not_false_eq_true, eq_self, i10, i01, im0, im1, b1]
          refine c_addAllBut q3 a3 (by decide) (by omega) (fun hp2 h2 s2 => ?_)
          have hok2 := a3.choose_spec.choose_spec.choose_spec.2.2.2.1
          rw [hje, ln_adds_so (by omega) _ _ hok2.2] at h2
          obtain ⟨r2, k2⟩ := pf_set r1 k1 h8 h2 s2
          rw [va_up_up2] at k2
          obtain ⟨a1', a2', a3'⟩ := k2.1 (ls.length - 1) (by omega)
          rw [va_up_ne _ _ hne1] at a3'
          have q5 := h2
          obtain ⟨f', t2, u2, b2, -⟩ := q5
          simp only [x_8_85, x_8_87, x_8_88, x_8_89, mw_nx, mw_no, mw_ite, mw_call, mw_ret, mw_cst, mw_ii, mw_i1, mw_ll, mw_l1, mw_li, mw_i2l, mw_l2i, mw_lcm, mw_if, mw_ic, mw_ifnN, mw_ifnR, mw_go, mw_dupi, mw_dupr, mw_popi, mw_popr, mw_nw, mw_rti, mw_rtl, mw_rtr, mw_rtn, mw_rtv, mw_rt0, mw_rt1, mj_ild, mj_lld, mj_ald, mj_ist, mj_lst, mj_ast, mj_inc, mj_iz, mj_get, mj_put, mj_len, mj_iar, mj_aar, mj_iaw, mj_aaw, mj_ivs, mj_ivv, mj_ivi, mj_ob, mj_tk, mj_cat, mj_st1, mj_st2, mj_clr, mj_nwi, mj_nwq, List.getElem?_cons_zero, List.getElem?_cons_succ, List.length_cons, List.length_nil, List.set_cons_zero, List.set_cons_succ, Value.category, decide_eq_true_eq, List.map_cons, List.map_nil, List.sum_cons, List.sum_nil, Option.toList, List.cons_append, List.nil_append, ite_true, ite_false, if_true, if_false, reduceCtorEq, true_and, and_true, narrow_i, narrow_l, narrow_r, narrow_n, fits_i, fits_l, fits_ro, fits_ra, fits_no, fits_na, Nat.reduceAdd, Nat.reduceLT, Nat.reduceLeDiff, Nat.reduceEqDiff, Nat.reduceSub, zero_add0, true_or, or_true, false_or, or_false, not_true_eq_false, not_false_eq_true, eq_self, i10, i01, im0, im1, b2]
          refine c_addAllBut h2 a3' (by decide) (by omega) (fun hp3 h3 s3 => ?_)
          have hok3 := a3'.choose_spec.choose_spec.choose_spec.2.2.2.1
          rw [hje, ln_adds_so (by omega) _ _ hok3.2] at h3
          obtain ⟨r3, k3⟩ := pf_set r2 k2 h8 h3 s3
          rw [va_up_up2] at k3
          have s13 : sm hp hp3 P (P + 163) := (s1.tr (s2.mono (by omega) (by omega))).tr (s3.mono (by omega) (by omega))
          have ho3 := (s13.2 o (by omega)).trans ho
          simp only [x_8_92, x_8_93, x_8_96, x_8_99, x_8_100, x_8_101, mw_nx, mw_no, mw_ite, mw_call, mw_ret, mw_cst, mw_ii, mw_i1, mw_ll, mw_l1, mw_li, mw_i2l, mw_l2i, mw_lcm, mw_if, mw_ic, mw_ifnN, mw_ifnR, mw_go, mw_dupi, mw_dupr, mw_popi, mw_popr, mw_nw, mw_rti, mw_rtl, mw_rtr, mw_rtn, mw_rtv, mw_rt0, mw_rt1, mj_ild, mj_lld, mj_ald, mj_ist, mj_lst, mj_ast, mj_inc, mj_iz, mj_get, mj_put, mj_len, mj_iar, mj_aar, mj_iaw, mj_aaw, mj_ivs, mj_ivv, mj_ivi, mj_ob, mj_tk, mj_cat, mj_st1, mj_st2, mj_clr, mj_nwi, mj_nwq, List.getElem?_cons_zero, List.getElem?_cons_succ, List.length_cons, List.length_nil, List.set_cons_zero, List.set_cons_succ, Value.category, decide_eq_true_eq, List.map_cons, List.map_nil, List.sum_cons, List.sum_nil, Option.toList, List.cons_append, List.nil_append, ite_true, ite_false, if_true, if_false, reduceCtorEq, true_and, and_true, narrow_i, narrow_l, narrow_r, narrow_n, fits_i, fits_l, fits_ro, fits_ra, fits_no, fits_na, Nat.reduceAdd, Nat.reduceLT, Nat.reduceLeDiff, Nat.reduceEqDiff, Nat.reduceSub, zero_add0, true_or, or_true, false_or, or_false, not_true_eq_false, not_false_eq_true, eq_self, i10, i01, im0, im1, ho3, r3.1, c_count r3, nI_pred]
          refine hQ hp3 ⟨P, S, hw.pf s13 ⟨ρ, g, π, _, ?_, k3, map_snoc hmap, ?_, fun l hl => ?_⟩⟩ (s13.mono (by omega) (by omega))
          · rw [List.length_append]; exact r3
          · rw [List.length_append, List.length_singleton]; omega
          · rcases List.mem_append.mp hl with q | q
            · exact hlv l q
            · rw [List.mem_singleton] at q; subst q
              refine ⟨fun c hc => ?_, fun q => by cases q⟩
              rcases so_adds_mem _ _ _ hc with q | q
              · rcases so_adds_mem _ _ _ q with q | q
                · exact absurd q List.not_mem_nil
                · exact (hlv (C (ls.length - 2)) (by rw [map_at hmap i2]; exact so_at_mem i2)).1 c q
              · exact (hlv (C (ls.length - 1)) (by rw [map_at hmap i1]; exact so_at_mem i1)).1 c q
      · rw [sp_if_f (fun q => hc q.2.2.2)] at hQ
        simp only [x_8_56, x_8_59, x_8_60, mw_nx, mw_no, mw_ite, mw_call, mw_ret, mw_cst, mw_ii, mw_i1, mw_ll, mw_l1, mw_li, mw_i2l, mw_l2i, mw_lcm, mw_if, mw_ic, mw_ifnN, mw_ifnR, mw_go, mw_dupi, mw_dupr, mw_popi, mw_popr, mw_nw, mw_rti, mw_rtl, mw_rtr, mw_rtn, mw_rtv, mw_rt0, mw_rt1, mj_ild, mj_lld, mj_ald, mj_ist, mj_lst, mj_ast, mj_inc, mj_iz, mj_get, mj_put, mj_len, mj_iar, mj_aar, mj_iaw, mj_aaw, mj_ivs, mj_ivv, mj_ivi, mj_ob, mj_tk, mj_cat, mj_st1, mj_st2, mj_clr, mj_nwi, mj_nwq, List.getElem?_cons_zero, List.getElem?_cons_succ, List.length_cons, List.length_nil, List.set_cons_zero, List.set_cons_succ, Value.category, decide_eq_true_eq, List.map_cons, List.map_nil, List.sum_cons, List.sum_nil, Option.toList, List.cons_append, List.nil_append, ite_true, ite_false, if_true, if_false, reduceCtorEq, true_and, and_true, narrow_i, narrow_l, narrow_r, narrow_n, fits_i, fits_l, fits_ro, fits_ra, fits_no, fits_na, Nat.reduceAdd, Nat.reduceLT, Nat.reduceLeDiff, Nat.reduceEqDiff, Nat.reduceSub, zero_add0, true_or, or_true, false_or, or_false, not_true_eq_false, not_false_eq_true, eq_self, i10, i01, im0, im1]
        exact hQ hp ⟨P, S, hw⟩ sm.rf
    · have wt' : (0 ≤ t ∧ t < nI n) = False := eq_false wt
      rw [sp_if_f (fun q => wt q.2.2.1)] at hQ
      simp only [x_8_0, x_8_1, x_8_4, x_8_5, x_8_8, x_8_11, x_8_12, x_8_13, x_8_16, x_8_17, x_8_18, x_8_21, x_8_22, x_8_25, x_8_28, x_8_29, x_8_30, x_8_33, x_8_34, x_8_35, x_8_38, x_8_39, x_8_42, x_8_43, x_8_44, x_8_47, x_8_50, x_8_51, x_8_52, x_8_53, x_8_56, x_8_59, x_8_60, mw_nx, mw_no, mw_ite, mw_call, mw_ret, mw_cst, mw_ii, mw_i1, mw_ll, mw_l1, mw_li, mw_i2l, mw_l2i, mw_lcm, mw_if, mw_ic, mw_ifnN, mw_ifnR, mw_go, mw_dupi, mw_dupr, mw_popi, mw_popr, mw_nw, mw_rti, mw_rtl, mw_rtr, mw_rtn, mw_rtv, mw_rt0, mw_rt1, mj_ild, mj_lld, mj_ald, mj_ist, mj_lst, mj_ast, mj_inc, mj_iz, mj_get, mj_put, mj_len, mj_iar, mj_aar, mj_iaw, mj_aaw, mj_ivs, mj_ivv, mj_ivi, mj_ob, mj_tk, mj_cat, mj_st1, mj_st2, mj_clr, mj_nwi, mj_nwq, List.getElem?_cons_zero, List.getElem?_cons_succ, List.length_cons, List.length_nil, List.set_cons_zero, List.set_cons_succ, Value.category, decide_eq_true_eq, List.map_cons, List.map_nil, List.sum_cons, List.sum_nil, Option.toList, List.cons_append, List.nil_append, ite_true, ite_false, if_true, if_false, reduceCtorEq, true_and, and_true, narrow_i, narrow_l, narrow_r, narrow_n, fits_i, fits_l, fits_ro, fits_ra, fits_no, fits_na, Nat.reduceAdd, Nat.reduceLT, Nat.reduceLeDiff, Nat.reduceEqDiff, Nat.reduceSub, zero_add0, true_or, or_true, false_or, or_false, not_true_eq_false, not_false_eq_true, eq_self, i10, i01, im0, im1, ho, hr.1, c_count hr, e2, e1, c_at hr hk i2 hpk, c_at hr hk i1 hpk, c_isThing o t (nI n) _ hp _ ho, wt']
      exact hQ hp ⟨P, S, hw⟩ sm.rf
  · rw [sp_if_f (fun q => w q.1)] at hQ
    have hbad : ¬ (0 ≤ nI ls.length - 2 ∧ nI ls.length - 2 < nI ls.length) := by
      rcases (show ls.length = 0 ∨ ls.length = 1 by omega) with q | q <;> rw [q] <;> decide
    by_cases w1 : ls.length = 1
    · have i1 : 0 < ls.length := by omega
      have e1 : nI ls.length - 1 = nI 0 := by rw [w1]; rfl
      simp only [x_8_0, x_8_1, x_8_4, x_8_5, x_8_8, x_8_11, x_8_12, x_8_13, x_8_16, x_8_17, x_8_18, x_8_21, x_8_22, x_8_25, x_8_28, x_8_29, x_8_30, x_8_33, x_8_34, x_8_35, x_8_38, x_8_39, x_8_42, x_8_43, x_8_44, x_8_47, x_8_50, x_8_51, x_8_52, x_8_53, x_8_56, x_8_59, x_8_60, mw_nx, mw_no, mw_ite, mw_call, mw_ret, mw_cst, mw_ii, mw_i1, mw_ll, mw_l1, mw_li, mw_i2l, mw_l2i, mw_lcm, mw_if, mw_ic, mw_ifnN, mw_ifnR, mw_go, mw_dupi, mw_dupr, mw_popi, mw_popr, mw_nw, mw_rti, mw_rtl, mw_rtr, mw_rtn, mw_rtv, mw_rt0, mw_rt1, mj_ild, mj_lld, mj_ald, mj_ist, mj_lst, mj_ast, mj_inc, mj_iz, mj_get, mj_put, mj_len, mj_iar, mj_aar, mj_iaw, mj_aaw, mj_ivs, mj_ivv, mj_ivi, mj_ob, mj_tk, mj_cat, mj_st1, mj_st2, mj_clr, mj_nwi, mj_nwq, List.getElem?_cons_zero, List.getElem?_cons_succ, List.length_cons, List.length_nil, List.set_cons_zero, List.set_cons_succ, Value.category, decide_eq_true_eq, List.map_cons, List.map_nil, List.sum_cons, List.sum_nil, Option.toList, List.cons_append, List.nil_append, ite_true, ite_false, if_true, if_false, reduceCtorEq, true_and, and_true, narrow_i, narrow_l, narrow_r, narrow_n, fits_i, fits_l, fits_ro, fits_ra, fits_no, fits_na, Nat.reduceAdd, Nat.reduceLT, Nat.reduceLeDiff, Nat.reduceEqDiff, Nat.reduceSub, zero_add0, true_or, or_true, false_or, or_false, not_true_eq_false, not_false_eq_true, eq_self, i10, i01, im0, im1, ho, hr.1, c_count hr, c_atN hr hk hbad, e1, c_at hr hk i1 hpk]
      exact hQ hp ⟨P, S, hw⟩ sm.rf
    · have hbad1 : ¬ (0 ≤ nI ls.length - 1 ∧ nI ls.length - 1 < nI ls.length) := by
        rw [show ls.length = 0 by omega]; decide
      simp only [x_8_0, x_8_1, x_8_4, x_8_5, x_8_8, x_8_11, x_8_12, x_8_13, x_8_16, x_8_17, x_8_18, x_8_21, x_8_22, x_8_25, x_8_28, x_8_29, x_8_30, x_8_33, x_8_34, x_8_35, x_8_38, x_8_39, x_8_42, x_8_43, x_8_44, x_8_47, x_8_50, x_8_51, x_8_52, x_8_53, x_8_56, x_8_59, x_8_60, mw_nx, mw_no, mw_ite, mw_call, mw_ret, mw_cst, mw_ii, mw_i1, mw_ll, mw_l1, mw_li, mw_i2l, mw_l2i, mw_lcm, mw_if, mw_ic, mw_ifnN, mw_ifnR, mw_go, mw_dupi, mw_dupr, mw_popi, mw_popr, mw_nw, mw_rti, mw_rtl, mw_rtr, mw_rtn, mw_rtv, mw_rt0, mw_rt1, mj_ild, mj_lld, mj_ald, mj_ist, mj_lst, mj_ast, mj_inc, mj_iz, mj_get, mj_put, mj_len, mj_iar, mj_aar, mj_iaw, mj_aaw, mj_ivs, mj_ivv, mj_ivi, mj_ob, mj_tk, mj_cat, mj_st1, mj_st2, mj_clr, mj_nwi, mj_nwq, List.getElem?_cons_zero, List.getElem?_cons_succ, List.length_cons, List.length_nil, List.set_cons_zero, List.set_cons_succ, Value.category, decide_eq_true_eq, List.map_cons, List.map_nil, List.sum_cons, List.sum_nil, Option.toList, List.cons_append, List.nil_append, ite_true, ite_false, if_true, if_false, reduceCtorEq, true_and, and_true, narrow_i, narrow_l, narrow_r, narrow_n, fits_i, fits_l, fits_ro, fits_ra, fits_no, fits_na, Nat.reduceAdd, Nat.reduceLT, Nat.reduceLeDiff, Nat.reduceEqDiff, Nat.reduceSub, zero_add0, true_or, or_true, false_or, or_false, not_true_eq_false, not_false_eq_true, eq_self, i10, i01, im0, im1, ho, hr.1, c_count hr, c_atN hr hk hbad, c_atN hr hk hbad1]
      exact hQ hp ⟨P, S, hw⟩ sm.rf
theorem d_check (h : cl_at hp o s) (hQ : ∀ hp' : mj_H, cl_at hp' o (so_check s).1 → sm hp hp' o (o + 331) → Q (some (.int (so_check s).2)) hp') : mj_call 11 [.ref o] hp Q := by
  obtain ⟨n, col, ls, xs⟩ := s
  have h0 := h
  obtain ⟨P, S, h⟩ := h
  have hw := h
  obtain ⟨hPS, hn, ho, ⟨kc, hkc, hcol⟩, hcb, ⟨p, hre⟩, ⟨ρ, g, π, C, hr, hpk, hmap, hk, hlv⟩, hsp⟩ := h
  dsimp only at *
  have hfin := hQ hp h0 sm.rf
  unfold so_check at hfin
  dsimp only at hfin
  have key : ∀ (d i : Nat), i + d = ls.length → sp_check n ((List.range i).map C) ((List.range' i d).map C) = sp_check n [] ls → mj_wp 11 2 [some (.ref o), some (.int (nI i))] [] hp Q := by
    intro d
    induction d with
    | zero =>
      intro i hi he
      obtain rfl : i = ls.length := by omega
      have e1 : nI ls.length ≤ nI ls.length := nI_le (Nat.le_refl _) (by omega)
      rw [x_11_2]
      simp only [x_11_3, x_11_4, x_11_7, x_11_10, x_11_35, x_11_36, mw_nx, mw_no, mw_ite, mw_call, mw_ret, mw_cst, mw_ii, mw_i1, mw_ll, mw_l1, mw_li, mw_i2l, mw_l2i, mw_lcm, mw_if, mw_ic, mw_ifnN, mw_ifnR, mw_go, mw_dupi, mw_dupr, mw_popi, mw_popr, mw_nw, mw_rti, mw_rtl, mw_rtr, mw_rtn, mw_rtv, mw_rt0, mw_rt1, mj_ild, mj_lld, mj_ald, mj_ist, mj_lst, mj_ast, mj_inc, mj_iz, mj_get, mj_put, mj_len, mj_iar, mj_aar, mj_iaw, mj_aaw, mj_ivs, mj_ivv, mj_ivi, mj_ob, mj_tk, mj_cat, mj_st1, mj_st2, mj_clr, mj_nwi, mj_nwq, List.getElem?_cons_zero, List.getElem?_cons_succ, List.length_cons, List.length_nil, List.set_cons_zero, List.set_cons_succ, Value.category, decide_eq_true_eq, List.map_cons, List.map_nil, List.sum_cons, List.sum_nil, Option.toList, List.cons_append, List.nil_append, ite_true, ite_false, if_true, if_false, reduceCtorEq, true_and, and_true, narrow_i, narrow_l, narrow_r, narrow_n, fits_i, fits_l, fits_ro, fits_ra, fits_no, fits_na, Nat.reduceAdd, Nat.reduceLT, Nat.reduceLeDiff, Nat.reduceEqDiff, Nat.reduceSub, zero_add0, true_or, or_true, false_or, or_false, not_true_eq_false, not_false_eq_true, eq_self, i10, i01, im0, im1, ho, hr.1, c_count hr, e1]
      rw [← he] at hfin
      simp only [List.range', List.map_nil, sp_check] at hfin
      exact hfin
    | succ d ih =>
      intro i hi he
      have e1 : ¬ nI ls.length ≤ nI i := nI_ge (by omega) (by omega)
      rw [List.range'_succ, List.map_cons, sp_check] at he
      rw [x_11_2]
      simp only [x_11_3, x_11_4, x_11_7, x_11_10, x_11_13, x_11_14, x_11_17, x_11_18, x_11_19, mw_nx, mw_no, mw_ite, mw_call, mw_ret, mw_cst, mw_ii, mw_i1, mw_ll, mw_l1, mw_li, mw_i2l, mw_l2i, mw_lcm, mw_if, mw_ic, mw_ifnN, mw_ifnR, mw_go, mw_dupi, mw_dupr, mw_popi, mw_popr, mw_nw, mw_rti, mw_rtl, mw_rtr, mw_rtn, mw_rtv, mw_rt0, mw_rt1, mj_ild, mj_lld, mj_ald, mj_ist, mj_lst, mj_ast, mj_inc, mj_iz, mj_get, mj_put, mj_len, mj_iar, mj_aar, mj_iaw, mj_aaw, mj_ivs, mj_ivv, mj_ivi, mj_ob, mj_tk, mj_cat, mj_st1, mj_st2, mj_clr, mj_nwi, mj_nwq, List.getElem?_cons_zero, List.getElem?_cons_succ, List.length_cons, List.length_nil, List.set_cons_zero, List.set_cons_succ, Value.category, decide_eq_true_eq, List.map_cons, List.map_nil, List.sum_cons, List.sum_nil, Option.toList, List.cons_append, List.nil_append, ite_true, ite_false, if_true, if_false, reduceCtorEq, true_and, and_true, narrow_i, narrow_l, narrow_r, narrow_n, fits_i, fits_l, fits_ro, fits_ra, fits_no, fits_na, Nat.reduceAdd, Nat.reduceLT, Nat.reduceLeDiff, Nat.reduceEqDiff, Nat.reduceSub, zero_add0, true_or, or_true, false_or, or_false, not_true_eq_false, not_false_eq_true, eq_self, i10, i01, im0, im1, ho, hr.1, c_count hr, e1]
      have hCi : C i = so_at ls i := map_at hmap (by omega)
      refine c_isRight hr hk hpk (show i < ls.length by omega) hn.2 (hlv _ (by rw [hCi]; exact so_at_mem (by omega))) (fun v hv hvw => absurd hvw (fun q => nI_pos (n := v) (by omega) (by rw [q]; decide))) (fun hR => ?_) (fun hR => ?_)
      · have hR2 := (sp_right_ext (ah_m1 (by omega)) _).mp hR
        rw [sp_if_t hR2] at he
        simp only [x_11_22, x_11_25, x_11_26, x_11_27, x_11_28, x_11_29, x_11_32, mw_nx, mw_no, mw_ite, mw_call, mw_ret, mw_cst, mw_ii, mw_i1, mw_ll, mw_l1, mw_li, mw_i2l, mw_l2i, mw_lcm, mw_if, mw_ic, mw_ifnN, mw_ifnR, mw_go, mw_dupi, mw_dupr, mw_popi, mw_popr, mw_nw, mw_rti, mw_rtl, mw_rtr, mw_rtn, mw_rtv, mw_rt0, mw_rt1, mj_ild, mj_lld, mj_ald, mj_ist, mj_lst, mj_ast, mj_inc, mj_iz, mj_get, mj_put, mj_len, mj_iar, mj_aar, mj_iaw, mj_aaw, mj_ivs, mj_ivv, mj_ivi, mj_ob, mj_tk, mj_cat, mj_st1, mj_st2, mj_clr, mj_nwi, mj_nwq, List.getElem?_cons_zero, List.getElem?_cons_succ, List.length_cons, List.length_nil, List.set_cons_zero, List.set_cons_succ, Value.category, decide_eq_true_eq, List.map_cons, List.map_nil, List.sum_cons, List.sum_nil, Option.toList, List.cons_append, List.nil_append, ite_true, ite_false, if_true, if_false, reduceCtorEq, true_and, and_true, narrow_i, narrow_l, narrow_r, narrow_n, fits_i, fits_l, fits_ro, fits_ra, fits_no, fits_na, Nat.reduceAdd, Nat.reduceLT, Nat.reduceLeDiff, Nat.reduceEqDiff, Nat.reduceSub, zero_add0, true_or, or_true, false_or, or_false, not_true_eq_false, not_false_eq_true, eq_self, i10, i01, im0, im1, nI_1]
        exact ih (i + 1) (by omega) (by rw [← he, List.range_succ, List.map_append]; rfl)
      · have hR2 : ¬ sp_right n ((List.range i).map C) (C i) := fun q => hR ((sp_right_ext (ah_m1 (by omega)) _).mpr q)
        rw [sp_if_f hR2] at he
        simp only [x_11_22, x_11_25, x_11_26, x_11_27, x_11_28, mw_nx, mw_no, mw_ite, mw_call, mw_ret, mw_cst, mw_ii, mw_i1, mw_ll, mw_l1, mw_li, mw_i2l, mw_l2i, mw_lcm, mw_if, mw_ic, mw_ifnN, mw_ifnR, mw_go, mw_dupi, mw_dupr, mw_popi, mw_popr, mw_nw, mw_rti, mw_rtl, mw_rtr, mw_rtn, mw_rtv, mw_rt0, mw_rt1, mj_ild, mj_lld, mj_ald, mj_ist, mj_lst, mj_ast, mj_inc, mj_iz, mj_get, mj_put, mj_len, mj_iar, mj_aar, mj_iaw, mj_aaw, mj_ivs, mj_ivv, mj_ivi, mj_ob, mj_tk, mj_cat, mj_st1, mj_st2, mj_clr, mj_nwi, mj_nwq, List.getElem?_cons_zero, List.getElem?_cons_succ, List.length_cons, List.length_nil, List.set_cons_zero, List.set_cons_succ, Value.category, decide_eq_true_eq, List.map_cons, List.map_nil, List.sum_cons, List.sum_nil, Option.toList, List.cons_append, List.nil_append, ite_true, ite_false, if_true, if_false, reduceCtorEq, true_and, and_true, narrow_i, narrow_l, narrow_r, narrow_n, fits_i, fits_l, fits_ro, fits_ra, fits_no, fits_na, Nat.reduceAdd, Nat.reduceLT, Nat.reduceLeDiff, Nat.reduceEqDiff, Nat.reduceSub, zero_add0, true_or, or_true, false_or, or_false, not_true_eq_false, not_false_eq_true, eq_self, i10, i01, im0, im1]
        rw [← he, List.length_map, List.length_range] at hfin
        have : (1 : Int32) + nI i = nI (1 + i) := nI_add 1 i
        rw [this]
        exact hfin
  rw [en_11]
  simp only [x_11_0, x_11_1, mw_nx, mw_no, mw_ite, mw_call, mw_ret, mw_cst, mw_ii, mw_i1, mw_ll, mw_l1, mw_li, mw_i2l, mw_l2i, mw_lcm, mw_if, mw_ic, mw_ifnN, mw_ifnR, mw_go, mw_dupi, mw_dupr, mw_popi, mw_popr, mw_nw, mw_rti, mw_rtl, mw_rtr, mw_rtn, mw_rtv, mw_rt0, mw_rt1, mj_ild, mj_lld, mj_ald, mj_ist, mj_lst, mj_ast, mj_inc, mj_iz, mj_get, mj_put, mj_len, mj_iar, mj_aar, mj_iaw, mj_aaw, mj_ivs, mj_ivv, mj_ivi, mj_ob, mj_tk, mj_cat, mj_st1, mj_st2, mj_clr, mj_nwi, mj_nwq, List.getElem?_cons_zero, List.getElem?_cons_succ, List.length_cons, List.length_nil, List.set_cons_zero, List.set_cons_succ, Value.category, decide_eq_true_eq, List.map_cons, List.map_nil, List.sum_cons, List.sum_nil, Option.toList, List.cons_append, List.nil_append, ite_true, ite_false, if_true, if_false, reduceCtorEq, true_and, and_true, narrow_i, narrow_l, narrow_r, narrow_n, fits_i, fits_l, fits_ro, fits_ra, fits_no, fits_na, Nat.reduceAdd, Nat.reduceLT, Nat.reduceLeDiff, Nat.reduceEqDiff, Nat.reduceSub, zero_add0, true_or, or_true, false_or, or_false, not_true_eq_false, not_false_eq_true, eq_self, i10, i01, im0, im1]
  exact key ls.length 0 (by omega) (by rw [← List.range_eq_range', hmap]; rfl)
theorem d_shorten (h : cl_at hp o s) (hQ : ∀ hp' : mj_H, cl_at hp' o (so_shorten s).1 → sm hp hp' o (o + 331) → Q (some (.int (so_shorten s).2)) hp') : mj_call 12 [.ref o] hp Q := by
  obtain ⟨n, col, ls, xs⟩ := s
  obtain ⟨P, S, h⟩ := h
  have hw := h
  obtain ⟨hPS, hn, ho, ⟨kc, hkc, hcol⟩, hcb, ⟨p, hre⟩, ⟨ρ, g, π, C, hr, hpk, hmap, hk, hlv⟩, hsp⟩ := h
  dsimp only at *
  unfold so_shorten sp_shorten at hQ
  dsimp only at hQ
  rw [en_12]
  simp only [x_12_0, x_12_1, x_12_4, mw_nx, mw_no, mw_ite, mw_call, mw_ret, mw_cst, mw_ii, mw_i1, mw_ll, mw_l1, mw_li, mw_i2l, mw_l2i, mw_lcm, mw_if, mw_ic, mw_ifnN, mw_ifnR, mw_go, mw_dupi, mw_dupr, mw_popi, mw_popr, mw_nw, mw_rti, mw_rtl, mw_rtr, mw_rtn, mw_rtv, mw_rt0, mw_rt1, mj_ild, mj_lld, mj_ald, mj_ist, mj_lst, mj_ast, mj_inc, mj_iz, mj_get, mj_put, mj_len, mj_iar, mj_aar, mj_iaw, mj_aaw, mj_ivs, mj_ivv, mj_ivi, mj_ob, mj_tk, mj_cat, mj_st1, mj_st2, mj_clr, mj_nwi, mj_nwq, List.getElem?_cons_zero, List.getElem?_cons_succ, List.length_cons, List.length_nil, List.set_cons_zero, List.set_cons_succ, Value.category, decide_eq_true_eq, List.map_cons, List.map_nil, List.sum_cons, List.sum_nil, Option.toList, List.cons_append, List.nil_append, ite_true, ite_false, if_true, if_false, reduceCtorEq, true_and, and_true, narrow_i, narrow_l, narrow_r, narrow_n, fits_i, fits_l, fits_ro, fits_ra, fits_no, fits_na, Nat.reduceAdd, Nat.reduceLT, Nat.reduceLeDiff, Nat.reduceEqDiff, Nat.reduceSub, zero_add0, true_or, or_true, false_or, or_false, not_true_eq_false, not_false_eq_true, eq_self, i10, i01, im0, im1, ho, hr.1]
  refine c_dropLines hr hk hpk hn.2 (fun j hj => hlv _ (by rw [map_at hmap hj]; exact so_at_mem hj)) (fun hp1 k' ρ' g' π' C' r1 hk1 k1 lv1 m1 s1 => ?_)
  rw [hmap] at m1
  have ho1 := (s1.2 o (by omega)).trans ho
  simp only [x_12_7, x_12_8, x_12_11, mw_nx, mw_no, mw_ite, mw_call, mw_ret, mw_cst, mw_ii, mw_i1, mw_ll, mw_l1, mw_li, mw_i2l, mw_l2i, mw_lcm, mw_if, mw_ic, mw_ifnN, mw_ifnR, mw_go, mw_dupi, mw_dupr, mw_popi, mw_popr, mw_nw, mw_rti, mw_rtl, mw_rtr, mw_rtn, mw_rtv, mw_rt0, mw_rt1, mj_ild, mj_lld, mj_ald, mj_ist, mj_lst, mj_ast, mj_inc, mj_iz, mj_get, mj_put, mj_len, mj_iar, mj_aar, mj_iaw, mj_aaw, mj_ivs, mj_ivv, mj_ivi, mj_ob, mj_tk, mj_cat, mj_st1, mj_st2, mj_clr, mj_nwi, mj_nwq, List.getElem?_cons_zero, List.getElem?_cons_succ, List.length_cons, List.length_nil, List.set_cons_zero, List.set_cons_succ, Value.category, decide_eq_true_eq, List.map_cons, List.map_nil, List.sum_cons, List.sum_nil, Option.toList, List.cons_append, List.nil_append, ite_true, ite_false, if_true, if_false, reduceCtorEq, true_and, and_true, narrow_i, narrow_l, narrow_r, narrow_n, fits_i, fits_l, fits_ro, fits_ra, fits_no, fits_na, Nat.reduceAdd, Nat.reduceLT, Nat.reduceLeDiff, Nat.reduceEqDiff, Nat.reduceSub, zero_add0, true_or, or_true, false_or, or_false, not_true_eq_false, not_false_eq_true, eq_self, i10, i01, im0, im1, ho1, r1.1]
  refine c_dropLits r1 hk1 k1 hn.2 lv1 (fun hp2 C2 r2 k2 lv2 m2 s2 => ?_)
  have ho2 := (s2.2 o (by omega)).trans ho1
  simp only [x_12_14, x_12_15, x_12_18, x_12_21, mw_nx, mw_no, mw_ite, mw_call, mw_ret, mw_cst, mw_ii, mw_i1, mw_ll, mw_l1, mw_li, mw_i2l, mw_l2i, mw_lcm, mw_if, mw_ic, mw_ifnN, mw_ifnR, mw_go, mw_dupi, mw_dupr, mw_popi, mw_popr, mw_nw, mw_rti, mw_rtl, mw_rtr, mw_rtn, mw_rtv, mw_rt0, mw_rt1, mj_ild, mj_lld, mj_ald, mj_ist, mj_lst, mj_ast, mj_inc, mj_iz, mj_get, mj_put, mj_len, mj_iar, mj_aar, mj_iaw, mj_aaw, mj_ivs, mj_ivv, mj_ivi, mj_ob, mj_tk, mj_cat, mj_st1, mj_st2, mj_clr, mj_nwi, mj_nwq, List.getElem?_cons_zero, List.getElem?_cons_succ, List.length_cons, List.length_nil, List.set_cons_zero, List.set_cons_succ, Value.category, decide_eq_true_eq, List.map_cons, List.map_nil, List.sum_cons, List.sum_nil, Option.toList, List.cons_append, List.nil_append, ite_true, ite_false, if_true, if_false, reduceCtorEq, true_and, and_true, narrow_i, narrow_l, narrow_r, narrow_n, fits_i, fits_l, fits_ro, fits_ra, fits_no, fits_na, Nat.reduceAdd, Nat.reduceLT, Nat.reduceLeDiff, Nat.reduceEqDiff, Nat.reduceSub, zero_add0, true_or, or_true, false_or, or_false, not_true_eq_false, not_false_eq_true, eq_self, i10, i01, im0, im1, ho2, r2.1, c_count r2]
  rw [m1] at m2
  have hlen : (sp_ph2 n [] (sp_dl n (ls.length - 1) ls)).length = k' := by rw [← m2]; simp
  have s12 := s1.tr s2
  rw [hlen] at hQ
  refine hQ hp2 ⟨P, S, hw.pf s12 ⟨ρ', g', π', C2, ?_, k2, ?_, ?_, fun l hl => ?_⟩⟩ (s12.mono (by omega) (by omega))
  · rw [hlen]; exact r2
  · rw [hlen]; exact m2
  · rw [hlen]; exact hk1
  · rw [← m2] at hl
    obtain ⟨j, hj, rfl⟩ := rm_mem.mp hl
    exact lv2 j hj
theorem sp_ex_ltn {x y n c : Nat} (hx : x < n) (hy : y < n) (hc : c < 2 * n) : sp_ex x y c < 2 * n := by
  unfold sp_ex
  split
  · omega
  · split <;> omega
theorem sp_ex_neg {x y c : Nat} : sp_ex x y (un_neg c) = un_neg (sp_ex x y c) := by
  unfold sp_ex un_neg
  by_cases h : c % 2 = 0
  · have h1 : (c + 1) / 2 = c / 2 := by omega
    have h2 : (c + 1) % 2 = 1 := by omega
    rw [if_pos h, h1, h2, h]
    generalize (if c / 2 = x then y else if c / 2 = y then x else c / 2) = v
    rw [if_pos (by omega)]
  · have h1 : (c - 1) / 2 = c / 2 := by omega
    have h2 : (c - 1) % 2 = 0 := by omega
    have h3 : c % 2 = 1 := by omega
    rw [if_neg h, h1, h2, h3]
    generalize (if c / 2 = x then y else if c / 2 = y then x else c / 2) = v
    rw [if_neg (by omega)]
    omega
theorem sp_ex_ex {x y c : Nat} : sp_ex x y (sp_ex x y c) = c := by
  unfold sp_ex
  have h1 : ∀ v, (2 * v + c % 2) / 2 = v := fun v => by omega
  have h2 : ∀ v, (2 * v + c % 2) % 2 = c % 2 := fun v => by omega
  rw [h1, h2]
  have h3 : (if (if c / 2 = x then y else if c / 2 = y then x else c / 2) = x then y else if (if c / 2 = x then y else if c / 2 = y then x else c / 2) = y then x else (if c / 2 = x then y else if c / 2 = y then x else c / 2)) = c / 2 := by
    generalize c / 2 = v
    by_cases a : v = x
    · rw [if_pos a]
      by_cases b : y = x
      · rw [if_pos b, a, b]
      · rw [if_neg b, if_pos rfl, a]
    · rw [if_neg a]
      by_cases b : v = y
      · rw [if_pos b, if_pos rfl, b]
      · rw [if_neg b, if_neg a, if_neg b]
  rw [h3]
  omega
theorem lv_ex {x y n : Nat} {l : sp_Ln} (hx : x < n) (hy : y < n) (h : lv n l) : lv n (so_ex x y l) := by
  refine ⟨fun c hc => ?_, fun h3 c hc hm => ?_⟩
  · obtain ⟨d, hd, rfl⟩ := List.mem_map.mp hc
    exact sp_ex_ltn hx hy (h.1 d hd)
  · obtain ⟨d, hd, rfl⟩ := List.mem_map.mp hc
    obtain ⟨e, he, hee⟩ := List.mem_map.mp hm
    apply h.2 h3 d hd
    have : e = un_neg d := by
      have q := congrArg (sp_ex x y) hee
      rw [sp_ex_ex, sp_ex_neg, sp_ex_ex] at q
      exact q
    rw [← this]; exact he
theorem pf_exn_so {C : Nat → Nat × List Nat} {x y : Nat} : ∀ k, pf_exn C x y k = so_exs x y ((List.range k).map C) := by
  intro k
  induction k with
  | zero => rfl
  | succ k ih =>
    rw [pf_exn, ih, List.range_succ, List.map_append]
    unfold so_exs
    rw [List.map_append, List.sum_append]
    simp
theorem d_turn (x y : Int32) (h : cl_at hp o s) (hQ : ∀ hp' : mj_H, cl_at hp' o (so_turn x y s).1 → sm hp hp' o (o + 331) → Q (some (.int (so_turn x y s).2)) hp') : mj_call 13 [.ref o, .int x, .int y] hp Q := by
  obtain ⟨n, col, ls, xs⟩ := s
  obtain ⟨P, S, h⟩ := h
  have hw := h
  obtain ⟨hPS, hn, ho, ⟨kc, hkc, hcol⟩, hcb, ⟨p, hre⟩, ⟨ρ, g, π, C, hr, hpk, hmap, hk, hlv⟩, hsp⟩ := h
  dsimp only at *
  unfold so_turn at hQ
  dsimp only at hQ
  rw [en_13]
  by_cases w1 : so_th n x
  · have w1' : (0 ≤ x ∧ x < nI n) = True := eq_true w1
    by_cases w2 : so_th n y
    · have w2' : (0 ≤ y ∧ y < nI n) = True := eq_true w2
      obtain ⟨a, ha, hae, hac⟩ := so_th_nat hn.2 w1
      obtain ⟨b, hb, hbe, hbc⟩ := so_th_nat hn.2 w2
      rw [sp_if_t ⟨w1, w2⟩, hac, hbc] at hQ
      simp only [x_13_0, x_13_1, x_13_2, x_13_5, x_13_8, x_13_9, x_13_10, x_13_13, x_13_16, x_13_17, x_13_18, x_13_19, x_13_22, x_13_23, x_13_24, mw_nx, mw_no, mw_ite, mw_call, mw_ret, mw_cst, mw_ii, mw_i1, mw_ll, mw_l1, mw_li, mw_i2l, mw_l2i, mw_lcm, mw_if, mw_ic, mw_ifnN, mw_ifnR, mw_go, mw_dupi, mw_dupr, mw_popi, mw_popr, mw_nw, mw_rti, mw_rtl, mw_rtr, mw_rtn, mw_rtv, mw_rt0, mw_rt1, mj_ild, mj_lld, mj_ald, mj_ist, mj_lst, mj_ast, mj_inc, mj_iz, mj_get, mj_put, mj_len, mj_iar, mj_aar, mj_iaw, mj_aaw, mj_ivs, mj_ivv, mj_ivi, mj_ob, mj_tk, mj_cat, mj_st1, mj_st2, mj_clr, mj_nwi, mj_nwq, List.getElem?_cons_zero, List.getElem?_cons_succ, List.length_cons, List.length_nil, List.set_cons_zero, List.set_cons_succ, Value.category, decide_eq_true_eq, List.map_cons, List.map_nil, List.sum_cons, List.sum_nil, Option.toList, List.cons_append, List.nil_append, ite_true, ite_false, if_true, if_false, reduceCtorEq, true_and, and_true, narrow_i, narrow_l, narrow_r, narrow_n, fits_i, fits_l, fits_ro, fits_ra, fits_no, fits_na, Nat.reduceAdd, Nat.reduceLT, Nat.reduceLeDiff, Nat.reduceEqDiff, Nat.reduceSub, zero_add0, true_or, or_true, false_or, or_false, not_true_eq_false, not_false_eq_true, eq_self, i10, i01, im0, im1, ho, c_isThing o x (nI n) _ hp _ ho, w1', c_isThing o y (nI n) _ hp _ ho, w2', hr.1]
      rw [hae, hbe]
      refine c_pExchange hr hk hpk (show a < 64 by omega) (show b < 64 by omega) (fun hp1 r1 k1 s1 => ?_)
      have ho1 := (s1.2 o (by omega)).trans ho
      have hcol1 := hcol.sm s1 (by omega)
      have hcol2 := hcol1
      obtain ⟨f, t1, u1, b1, -⟩ := hcol2
      simp only [x_13_27, x_13_28, x_13_31, x_13_32, x_13_33, mw_nx, mw_no, mw_ite, mw_call, mw_ret, mw_cst, mw_ii, mw_i1, mw_ll, mw_l1, mw_li, mw_i2l, mw_l2i, mw_lcm, mw_if, mw_ic, mw_ifnN, mw_ifnR, mw_go, mw_dupi, mw_dupr, mw_popi, mw_popr, mw_nw, mw_rti, mw_rtl, mw_rtr, mw_rtn, mw_rtv, mw_rt0, mw_rt1, mj_ild, mj_lld, mj_ald, mj_ist, mj_lst, mj_ast, mj_inc, mj_iz, mj_get, mj_put, mj_len, mj_iar, mj_aar, mj_iaw, mj_aaw, mj_ivs, mj_ivv, mj_ivi, mj_ob, mj_tk, mj_cat, mj_st1, mj_st2, mj_clr, mj_nwi, mj_nwq, List.getElem?_cons_zero, List.getElem?_cons_succ, List.length_cons, List.length_nil, List.set_cons_zero, List.set_cons_succ, Value.category, decide_eq_true_eq, List.map_cons, List.map_nil, List.sum_cons, List.sum_nil, Option.toList, List.cons_append, List.nil_append, ite_true, ite_false, if_true, if_false, reduceCtorEq, true_and, and_true, narrow_i, narrow_l, narrow_r, narrow_n, fits_i, fits_l, fits_ro, fits_ra, fits_no, fits_na, Nat.reduceAdd, Nat.reduceLT, Nat.reduceLeDiff, Nat.reduceEqDiff, Nat.reduceSub, zero_add0, true_or, or_true, false_or, or_false, not_true_eq_false, not_false_eq_true, eq_self, i10, i01, im0, im1, ho1, b1]
      refine c_exchange hcol1 (show a < 64 by omega) (show b < 64 by omega) (fun hp2 h2 s2 => ?_)
      simp only [x_13_36, x_13_37, mw_nx, mw_no, mw_ite, mw_call, mw_ret, mw_cst, mw_ii, mw_i1, mw_ll, mw_l1, mw_li, mw_i2l, mw_l2i, mw_lcm, mw_if, mw_ic, mw_ifnN, mw_ifnR, mw_go, mw_dupi, mw_dupr, mw_popi, mw_popr, mw_nw, mw_rti, mw_rtl, mw_rtr, mw_rtn, mw_rtv, mw_rt0, mw_rt1, mj_ild, mj_lld, mj_ald, mj_ist, mj_lst, mj_ast, mj_inc, mj_iz, mj_get, mj_put, mj_len, mj_iar, mj_aar, mj_iaw, mj_aaw, mj_ivs, mj_ivv, mj_ivi, mj_ob, mj_tk, mj_cat, mj_st1, mj_st2, mj_clr, mj_nwi, mj_nwq, List.getElem?_cons_zero, List.getElem?_cons_succ, List.length_cons, List.length_nil, List.set_cons_zero, List.set_cons_succ, Value.category, decide_eq_true_eq, List.map_cons, List.map_nil, List.sum_cons, List.sum_nil, Option.toList, List.cons_append, List.nil_append, ite_true, ite_false, if_true, if_false, reduceCtorEq, true_and, and_true, narrow_i, narrow_l, narrow_r, narrow_n, fits_i, fits_l, fits_ro, fits_ra, fits_no, fits_na, Nat.reduceAdd, Nat.reduceLT, Nat.reduceLeDiff, Nat.reduceEqDiff, Nat.reduceSub, zero_add0, true_or, or_true, false_or, or_false, not_true_eq_false, not_false_eq_true, eq_self, i10, i01, im0, im1, nI_add, pf_exn_so, hmap]
      have hm : (List.range ls.length).map (pf_ex C a b ls.length) = ls.map (so_ex a b) := by
        conv => rhs; rw [← hmap]
        rw [List.map_map]
        apply List.map_congr_left
        intro j hj
        unfold pf_ex so_ex
        simp [List.mem_range.mp hj]
      have hw1 : cl_w hp1 o P S (n, col, ls.map (so_ex a b), xs) := by
        refine hw.pf s1 ⟨ρ, g, π, _, ?_, k1, ?_, ?_, fun l hl => ?_⟩
        · rw [List.length_map]; exact r1
        · rw [List.length_map]; exact hm
        · rw [List.length_map]; exact hk
        · obtain ⟨l', hl', rfl⟩ := List.mem_map.mp hl
          exact lv_ex ha hb (hlv l' hl')
      refine hQ hp2 ⟨P, S, hw1.co s2 hkc h2 (fun c hc => ?_)⟩ ((s1.mono (by omega) (by omega)).tr (s2.mono (by omega) (by omega)))
      obtain ⟨d, hd, rfl⟩ := List.mem_map.mp hc
      exact sp_ex_ltn ha hb (hcb d hd)
    · have w2' : (0 ≤ y ∧ y < nI n) = False := eq_false w2
      rw [sp_if_f (fun q => w2 q.2)] at hQ
      simp only [x_13_0, x_13_1, x_13_2, x_13_5, x_13_8, x_13_9, x_13_10, x_13_13, x_13_16, x_13_17, mw_nx, mw_no, mw_ite, mw_call, mw_ret, mw_cst, mw_ii, mw_i1, mw_ll, mw_l1, mw_li, mw_i2l, mw_l2i, mw_lcm, mw_if, mw_ic, mw_ifnN, mw_ifnR, mw_go, mw_dupi, mw_dupr, mw_popi, mw_popr, mw_nw, mw_rti, mw_rtl, mw_rtr, mw_rtn, mw_rtv, mw_rt0, mw_rt1, mj_ild, mj_lld, mj_ald, mj_ist, mj_lst, mj_ast, mj_inc, mj_iz, mj_get, mj_put, mj_len, mj_iar, mj_aar, mj_iaw, mj_aaw, mj_ivs, mj_ivv, mj_ivi, mj_ob, mj_tk, mj_cat, mj_st1, mj_st2, mj_clr, mj_nwi, mj_nwq, List.getElem?_cons_zero, List.getElem?_cons_succ, List.length_cons, List.length_nil, List.set_cons_zero, List.set_cons_succ, Value.category, decide_eq_true_eq, List.map_cons, List.map_nil, List.sum_cons, List.sum_nil, Option.toList, List.cons_append, List.nil_append, ite_true, ite_false, if_true, if_false, reduceCtorEq, true_and, and_true, narrow_i, narrow_l, narrow_r, narrow_n, fits_i, fits_l, fits_ro, fits_ra, fits_no, fits_na, Nat.reduceAdd, Nat.reduceLT, Nat.reduceLeDiff, Nat.reduceEqDiff, Nat.reduceSub, zero_add0, true_or, or_true, false_or, or_false, not_true_eq_false, not_false_eq_true, eq_self, i10, i01, im0, im1, ho, c_isThing o x (nI n) _ hp _ ho, w1', c_isThing o y (nI n) _ hp _ ho, w2']
      exact hQ hp ⟨P, S, hw⟩ sm.rf
  · have w1' : (0 ≤ x ∧ x < nI n) = False := eq_false w1
    rw [sp_if_f (fun q => w1 q.1)] at hQ
    simp only [x_13_0, x_13_1, x_13_2, x_13_5, x_13_8, x_13_9, x_13_10, x_13_13, x_13_16, x_13_17, mw_nx, mw_no, mw_ite, mw_call, mw_ret, mw_cst, mw_ii, mw_i1, mw_ll, mw_l1, mw_li, mw_i2l, mw_l2i, mw_lcm, mw_if, mw_ic, mw_ifnN, mw_ifnR, mw_go, mw_dupi, mw_dupr, mw_popi, mw_popr, mw_nw, mw_rti, mw_rtl, mw_rtr, mw_rtn, mw_rtv, mw_rt0, mw_rt1, mj_ild, mj_lld, mj_ald, mj_ist, mj_lst, mj_ast, mj_inc, mj_iz, mj_get, mj_put, mj_len, mj_iar, mj_aar, mj_iaw, mj_aaw, mj_ivs, mj_ivv, mj_ivi, mj_ob, mj_tk, mj_cat, mj_st1, mj_st2, mj_clr, mj_nwi, mj_nwq, List.getElem?_cons_zero, List.getElem?_cons_succ, List.length_cons, List.length_nil, List.set_cons_zero, List.set_cons_succ, Value.category, decide_eq_true_eq, List.map_cons, List.map_nil, List.sum_cons, List.sum_nil, Option.toList, List.cons_append, List.nil_append, ite_true, ite_false, if_true, if_false, reduceCtorEq, true_and, and_true, narrow_i, narrow_l, narrow_r, narrow_n, fits_i, fits_l, fits_ro, fits_ra, fits_no, fits_na, Nat.reduceAdd, Nat.reduceLT, Nat.reduceLeDiff, Nat.reduceEqDiff, Nat.reduceSub, zero_add0, true_or, or_true, false_or, or_false, not_true_eq_false, not_false_eq_true, eq_self, i10, i01, im0, im1, ho, c_isThing o x (nI n) _ hp _ ho, w1']
    exact hQ hp ⟨P, S, hw⟩ sm.rf
theorem d_read (h : cl_at hp o s) (hQ : ∀ hp' : mj_H, cl_at hp' o (so_read s).1 → sm hp hp' o (o + 331) → Q (some (.int (so_read s).2)) hp') : mj_call 19 [.ref o] hp Q := by
  obtain ⟨n, col, ls, xs⟩ := s
  obtain ⟨P, S, h⟩ := h
  have hw := h
  obtain ⟨hPS, hn, ho, ⟨kc, hkc, hcol⟩, hcb, ⟨p, hre⟩, hpr, ⟨ρ, g, π, C, k, hr, hpk, hk⟩⟩ := h
  dsimp only at *
  unfold so_read at hQ
  dsimp only at hQ
  rw [en_19]
  simp only [x_19_0, x_19_1, x_19_4, x_19_5, x_19_8, mw_nx, mw_no, mw_ite, mw_call, mw_ret, mw_cst, mw_ii, mw_i1, mw_ll, mw_l1, mw_li, mw_i2l, mw_l2i, mw_lcm, mw_if, mw_ic, mw_ifnN, mw_ifnR, mw_go, mw_dupi, mw_dupr, mw_popi, mw_popr, mw_nw, mw_rti, mw_rtl, mw_rtr, mw_rtn, mw_rtv, mw_rt0, mw_rt1, mj_ild, mj_lld, mj_ald, mj_ist, mj_lst, mj_ast, mj_inc, mj_iz, mj_get, mj_put, mj_len, mj_iar, mj_aar, mj_iaw, mj_aaw, mj_ivs, mj_ivv, mj_ivi, mj_ob, mj_tk, mj_cat, mj_st1, mj_st2, mj_clr, mj_nwi, mj_nwq, List.getElem?_cons_zero, List.getElem?_cons_succ, List.length_cons, List.length_nil, List.set_cons_zero, List.set_cons_succ, Value.category, decide_eq_true_eq, List.map_cons, List.map_nil, List.sum_cons, List.sum_nil, Option.toList, List.cons_append, List.nil_append, ite_true, ite_false, if_true, if_false, reduceCtorEq, true_and, and_true, narrow_i, narrow_l, narrow_r, narrow_n, fits_i, fits_l, fits_ro, fits_ra, fits_no, fits_na, Nat.reduceAdd, Nat.reduceLT, Nat.reduceLeDiff, Nat.reduceEqDiff, Nat.reduceSub, zero_add0, true_or, or_true, false_or, or_false, not_true_eq_false, not_false_eq_true, eq_self, i10, i01, im0, im1, ho, hre.1]
  refine c_fill hre hn.2 hr hk hpk (by omega) (fun ls' p' C' hp1 hrd hl8 hmap hlv h1 r1 k1 s1 => ?_) (fun e k' C' hp1 hrd hele hk' h1 r1 k1 s1 => ?_)
  · rw [hrd] at hQ
    dsimp only at hQ
    have ho1 := (s1.2 o (by omega) (by omega)).trans ho
    have o2 : ∀ (e : va_E), (mj_up hp1 (o + 3) e).1 o = hp1.1 o := fun _ => mj_up_off (by omega)
    have hS1 := r1.1
    have o4 : ∀ (hp : mj_H) (e : va_E), (mj_up hp o e).1 S = hp.1 S := fun _ _ => mj_up_off (by omega)
    have o5 : ∀ (hp : mj_H) (e : va_E), (mj_up hp (o + 3) e).1 S = hp.1 S := fun _ _ => mj_up_off (by omega)
    have r2 : pf_r (mj_up (mj_up hp1 (o + 3) (re_o (o + 3) n 0 p')) o (cl_o o n S P)) S n ls'.length ρ g := ⟨by rw [mj_up_off (by omega), mj_up_off (by omega)]; exact r1.1, by rw [mj_up_off (by omega), mj_up_off (by omega)]; exact r1.2.1, by rw [mj_up_off (by omega), mj_up_off (by omega)]; exact r1.2.2⟩
    simp only [x_19_11, x_19_12, x_19_13, x_19_16, x_19_19, x_19_20, x_19_21, x_19_24, x_19_27, x_19_28, x_19_31, x_19_32, x_19_33, x_19_34, x_19_35, x_19_36, x_19_39, x_19_40, x_19_41, x_19_42, x_19_45, x_19_48, x_19_49, x_19_50, x_19_53, x_19_54, x_19_57, mw_nx, mw_no, mw_ite, mw_call, mw_ret, mw_cst, mw_ii, mw_i1, mw_ll, mw_l1, mw_li, mw_i2l, mw_l2i, mw_lcm, mw_if, mw_ic, mw_ifnN, mw_ifnR, mw_go, mw_dupi, mw_dupr, mw_popi, mw_popr, mw_nw, mw_rti, mw_rtl, mw_rtr, mw_rtn, mw_rtv, mw_rt0, mw_rt1, mj_ild, mj_lld, mj_ald, mj_ist, mj_lst, mj_ast, mj_inc, mj_iz, mj_get, mj_put, mj_len, mj_iar, mj_aar, mj_iaw, mj_aaw, mj_ivs, mj_ivv, mj_ivi, mj_ob, mj_tk, mj_cat, mj_st1, mj_st2, mj_clr, mj_nwi, mj_nwq, List.getElem?_cons_zero, List.getElem?_cons_succ, List.length_cons, List.length_nil, List.set_cons_zero, List.set_cons_succ, Value.category, decide_eq_true_eq, List.map_cons, List.map_nil, List.sum_cons, List.sum_nil, Option.toList, List.cons_append, List.nil_append, ite_true, ite_false, if_true, if_false, reduceCtorEq, true_and, and_true, narrow_i, narrow_l, narrow_r, narrow_n, fits_i, fits_l, fits_ro, fits_ra, fits_no, fits_na, Nat.reduceAdd, Nat.reduceLT, Nat.reduceLeDiff, Nat.reduceEqDiff, Nat.reduceSub, zero_add0, true_or, or_true, false_or, or_false, not_true_eq_false, not_false_eq_true, eq_self, i10, i01, im0, im1, ho1, h1.1, c_place h1, c_forget h1, o2, mj_up_at, mj_up_up, o4, o5, hS1]
    rw [c_count r2]
    simp only [x_19_60, mw_nx, mw_no, mw_ite, mw_call, mw_ret, mw_cst, mw_ii, mw_i1, mw_ll, mw_l1, mw_li, mw_i2l, mw_l2i, mw_lcm, mw_if, mw_ic, mw_ifnN, mw_ifnR, mw_go, mw_dupi, mw_dupr, mw_popi, mw_popr, mw_nw, mw_rti, mw_rtl, mw_rtr, mw_rtn, mw_rtv, mw_rt0, mw_rt1, mj_ild, mj_lld, mj_ald, mj_ist, mj_lst, mj_ast, mj_inc, mj_iz, mj_get, mj_put, mj_len, mj_iar, mj_aar, mj_iaw, mj_aaw, mj_ivs, mj_ivv, mj_ivi, mj_ob, mj_tk, mj_cat, mj_st1, mj_st2, mj_clr, mj_nwi, mj_nwq, List.getElem?_cons_zero, List.getElem?_cons_succ, List.length_cons, List.length_nil, List.set_cons_zero, List.set_cons_succ, Value.category, decide_eq_true_eq, List.map_cons, List.map_nil, List.sum_cons, List.sum_nil, Option.toList, List.cons_append, List.nil_append, ite_true, ite_false, if_true, if_false, reduceCtorEq, true_and, and_true, narrow_i, narrow_l, narrow_r, narrow_n, fits_i, fits_l, fits_ro, fits_ra, fits_no, fits_na, Nat.reduceAdd, Nat.reduceLT, Nat.reduceLeDiff, Nat.reduceEqDiff, Nat.reduceSub, zero_add0, true_or, or_true, false_or, or_false, not_true_eq_false, not_false_eq_true, eq_self, i10, i01, im0, im1]
    have sA : sm hp1 (mj_up hp1 (o + 3) (re_o (o + 3) n 0 p')) (o + 3) (o + 3 + 2) := sm.up (by omega) (by omega)
    have sB : ∀ h : mj_H, sm h (mj_up h o (cl_o o n S P)) o (o + 1) := fun h => sm.up (by omega) (by omega)
    have k2 : pf_k (mj_up (mj_up hp1 (o + 3) (re_o (o + 3) n 0 p')) o (cl_o o n S P)) S ρ π C' := ((pf_keep (pf_keep r1 k1 sA (by omega)).1 (pf_keep r1 k1 sA (by omega)).2 (sB _) (by omega))).2
    have hcol1 : ln_at hp1 (o + 1) (kc, col) := hcol.keep (s1.2 _ (by omega) (by omega)) (s1.2 _ (by omega) (by omega))
    have hpr1 : sr_at hp1 P n := by
      obtain ⟨ρ2, g2, π2, C2, a1, a2, a3, a4, -⟩ := hpr
      refine ⟨ρ2, g2, π2, C2, ls.length, ⟨(s1.2 _ (by omega) (by omega)).trans a1.1, (s1.2 _ (by omega) (by omega)).trans a1.2.1, (s1.2 _ (by omega) (by omega)).trans a1.2.2⟩, ⟨fun j hj => ?_, a2.2⟩, a4⟩
      obtain ⟨c1, c2, c3⟩ := a2.1 j hj
      exact ⟨c1, c2, c3.keep (s1.2 _ (by omega) (by omega)) (s1.2 _ (by omega) (by omega))⟩
    refine hQ _ ⟨S, P, by omega, hn, mj_up_at, ⟨kc, hkc, (hcol1.sm sA (by omega)).sm (sB _) (by omega)⟩, hcb, ⟨p', ?_⟩, ⟨ρ, g, π, C', r2, k2, hmap, hl8, fun l hl => ?_⟩, (hpr1.sm sA (by omega)).sm (sB _) (by omega)⟩ ?_
    · obtain ⟨z1, f, z2, z3, z4, z5⟩ := h1
      exact ⟨by rw [mj_up_off (by omega), mj_up_at]; rfl, f, by rw [mj_up_off (by omega), mj_up_off (by omega)]; exact z2, fun j hj => by simp at hj, by simp, fun c hc => absurd hc List.not_mem_nil⟩
    · rw [← hmap] at hl
      obtain ⟨j, hj, rfl⟩ := rm_mem.mp hl
      exact hlv j hj
    · have s0 : sm hp hp1 o (o + 331) := ⟨s1.1, fun q hq => s1.2 q (by omega) (by omega)⟩
      exact (s0.tr (sA.mono (by omega) (by omega))).tr ((sB _).mono (by omega) (by omega))
  · rw [hrd] at hQ
    dsimp only at hQ
    have ho1 := (s1.2 o (by omega) (by omega)).trans ho
    have o2 : ∀ (e : va_E), (mj_up hp1 (o + 3) e).1 o = hp1.1 o := fun _ => mj_up_off (by omega)
    simp only [x_19_11, x_19_12, x_19_13, x_19_16, x_19_19, x_19_20, x_19_21, x_19_24, x_19_27, x_19_28, x_19_31, x_19_32, x_19_33, x_19_34, mw_nx, mw_no, mw_ite, mw_call, mw_ret, mw_cst, mw_ii, mw_i1, mw_ll, mw_l1, mw_li, mw_i2l, mw_l2i, mw_lcm, mw_if, mw_ic, mw_ifnN, mw_ifnR, mw_go, mw_dupi, mw_dupr, mw_popi, mw_popr, mw_nw, mw_rti, mw_rtl, mw_rtr, mw_rtn, mw_rtv, mw_rt0, mw_rt1, mj_ild, mj_lld, mj_ald, mj_ist, mj_lst, mj_ast, mj_inc, mj_iz, mj_get, mj_put, mj_len, mj_iar, mj_aar, mj_iaw, mj_aaw, mj_ivs, mj_ivv, mj_ivi, mj_ob, mj_tk, mj_cat, mj_st1, mj_st2, mj_clr, mj_nwi, mj_nwq, List.getElem?_cons_zero, List.getElem?_cons_succ, List.length_cons, List.length_nil, List.set_cons_zero, List.set_cons_succ, Value.category, decide_eq_true_eq, List.map_cons, List.map_nil, List.sum_cons, List.sum_nil, Option.toList, List.cons_append, List.nil_append, ite_true, ite_false, if_true, if_false, reduceCtorEq, true_and, and_true, narrow_i, narrow_l, narrow_r, narrow_n, fits_i, fits_l, fits_ro, fits_ra, fits_no, fits_na, Nat.reduceAdd, Nat.reduceLT, Nat.reduceLeDiff, Nat.reduceEqDiff, Nat.reduceSub, zero_add0, true_or, or_true, false_or, or_false, not_true_eq_false, not_false_eq_true, eq_self, i10, i01, im0, im1, ho1, h1.1, c_place h1, c_forget h1, o2, mj_up_at]
    have sA : sm hp1 (mj_up hp1 (o + 3) (re_o (o + 3) n 0 e)) (o + 3) (o + 3 + 2) := sm.up (by omega) (by omega)
    have k2 := pf_keep r1 k1 sA (by omega)
    have hcol1 : ln_at hp1 (o + 1) (kc, col) := hcol.keep (s1.2 _ (by omega) (by omega)) (s1.2 _ (by omega) (by omega))
    have hpr1 : pr_at hp1 P n ls := by
      obtain ⟨ρ2, g2, π2, C2, a1, a2, a3⟩ := hpr
      refine ⟨ρ2, g2, π2, C2, ⟨(s1.2 _ (by omega) (by omega)).trans a1.1, (s1.2 _ (by omega) (by omega)).trans a1.2.1, (s1.2 _ (by omega) (by omega)).trans a1.2.2⟩, ⟨fun j hj => ?_, a2.2⟩, a3⟩
      obtain ⟨c1, c2, c3⟩ := a2.1 j hj
      exact ⟨c1, c2, c3.keep (s1.2 _ (by omega) (by omega)) (s1.2 _ (by omega) (by omega))⟩
    refine hQ _ ⟨P, S, hPS, hn, (sA.2 o (by omega)).trans ho1, ⟨kc, hkc, hcol1.sm sA (by omega)⟩, hcb, ⟨e, ?_⟩, hpr1.sm sA (by omega), ⟨ρ, g, π, C', k', k2.1, k2.2, hk'⟩⟩ ?_
    · obtain ⟨z1, f, z2, z3, z4, z5⟩ := h1
      exact ⟨by rw [mj_up_at]; rfl, f, by rw [mj_up_off (by omega)]; exact z2, fun j hj => by simp at hj, by simp, fun c hc => absurd hc List.not_mem_nil⟩
    · have s0 : sm hp hp1 o (o + 331) := ⟨s1.1, fun q hq => s1.2 q (by omega) (by omega)⟩
      exact s0.tr (sA.mono (by omega) (by omega))
end CM
