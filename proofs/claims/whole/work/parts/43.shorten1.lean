/-! A Proof: dropLines -/
theorem sp_right_ext {n : Nat} {a b : List sp_Ln} (h : ∀ l, l ∈ a ↔ l ∈ b) (l : sp_Ln) : sp_right n a l ↔ sp_right n b l := by
  have hc : ∀ X, X ∈ sp_cls a ↔ X ∈ sp_cls b := by
    intro X
    rw [sp_cls_mem, sp_cls_mem]
    constructor
    · rintro ⟨m, h1, h2⟩; exact ⟨m, (h m).mp h1, h2⟩
    · rintro ⟨m, h1, h2⟩; exact ⟨m, (h m).mpr h1, h2⟩
  unfold sp_right
  rw [un_ext hc (fun _ => Iff.rfl)]
  have : (∀ g ∈ a, g.1 = 0 → ∃ c ∈ g.2, c ∈ l.2) ↔ (∀ g ∈ b, g.1 = 0 → ∃ c ∈ g.2, c ∈ l.2) := ⟨fun q g hg => q g ((h g).mpr hg), fun q g hg => q g ((h g).mp hg)⟩
  rw [this]
/-- fewer lines ahead, the GIVEN ones all there: what is RIGHT was so -/
theorem sp_right_mono {n : Nat} {a b : List sp_Ln} (h : ∀ l, l ∈ a → l ∈ b) (hg : ∀ l, l ∈ b → l.1 = 0 → l ∈ a) {l : sp_Ln} (hr : sp_right n a l) : sp_right n b l := by
  rcases hr with q | ⟨q1, q2⟩ | ⟨q1, q2, q3⟩
  · exact Or.inl q
  · refine Or.inr (Or.inl ⟨q1, un_mono (fun X hX => ?_) (fun _ q => q) q2⟩)
    obtain ⟨m, h1, h2⟩ := sp_cls_mem.mp hX
    exact sp_cls_mem.mpr ⟨m, h m h1, h2⟩
  · exact Or.inr (Or.inr ⟨q1, q2, fun g hgb hg0 => q3 g (hg g hgb hg0) hg0⟩)
theorem rm_mem {C : Nat → Nat × List Nat} {i : Nat} {l : Nat × List Nat} : l ∈ (List.range i).map C ↔ ∃ j, j < i ∧ l = C j := by
  rw [List.mem_map]
  constructor
  · rintro ⟨j, h1, rfl⟩; exact ⟨j, List.mem_range.mp h1, rfl⟩
  · rintro ⟨j, h1, rfl⟩; exact ⟨j, List.mem_range.mpr h1, rfl⟩
theorem er_mem {C : Nat → Nat × List Nat} {i v : Nat} {l : Nat × List Nat} : l ∈ ((List.range i).map C).eraseIdx v ↔ ∃ j, j < i ∧ j ≠ v ∧ l = C j := by
  rw [List.mem_eraseIdx_iff_getElem?]
  constructor
  · rintro ⟨j, h1, h2⟩
    rw [List.getElem?_map] at h2
    obtain ⟨m, h3, h4⟩ := Option.map_eq_some_iff.mp h2
    obtain ⟨h5, h6⟩ := List.getElem?_eq_some_iff.mp h3
    rw [List.getElem_range] at h6
    rw [List.length_range] at h5
    exact ⟨j, h5, h1, by rw [h6]; exact h4.symm⟩
  · rintro ⟨j, h1, h2, rfl⟩
    exact ⟨j, h2, by rw [List.getElem?_map, List.getElem?_range h1]; rfl⟩
theorem ah_m1 {C : Nat → Nat × List Nat} {i : Nat} (hi : i < 2 ^ 31) (l : Nat × List Nat) : l ∈ pf_ah C i (-1) ↔ l ∈ (List.range i).map C := by
  rw [pf_ah_mem, rm_mem]
  constructor
  · rintro ⟨j, h1, -, rfl⟩; exact ⟨j, h1, rfl⟩
  · rintro ⟨j, h1, rfl⟩; exact ⟨j, h1, fun q => nI_pos (n := j) (by omega) (by rw [q]; decide), rfl⟩
theorem ah_v {C : Nat → Nat × List Nat} {i v : Nat} (hi : i < 2 ^ 31) (hv : v < 2 ^ 31) (l : Nat × List Nat) : l ∈ pf_ah C i (nI v) ↔ l ∈ ((List.range i).map C).eraseIdx v := by
  rw [pf_ah_mem, er_mem]
  constructor
  · rintro ⟨j, h1, h2, rfl⟩; exact ⟨j, h1, fun q => h2 (by rw [q]), rfl⟩
  · rintro ⟨j, h1, h2, rfl⟩; exact ⟨j, h1, fun q => h2 ((nI_eq (by omega) hv).mp q), rfl⟩
def rt (n : Nat) (C : Nat → Nat × List Nat) (i : Nat) : Prop := sp_right n ((List.range i).map C) (C i)
theorem take_map {C : Nat → Nat × List Nat} {k j : Nat} (h : j ≤ k) : ((List.range k).map C).take j = (List.range j).map C := by
  rw [← List.map_take, List.take_range, Nat.min_eq_left h]
theorem get_map {C : Nat → Nat × List Nat} {k j : Nat} (h : j < k) : ((List.range k).map C)[j]? = some (C j) := by
  rw [List.getElem?_map, List.getElem?_range h]; rfl
theorem spare_iff {n k v : Nat} {C : Nat → Nat × List Nat} (hk : k ≤ 80) (hv : v < k) {g : Nat → Int32} (hg : ∀ i, i < k → (g i = 0 ∨ g i = 1) ∧ (g i = 1 ↔ rt n C i)) : (∀ i, v < i → i < k → ¬ g i = 0 → sp_right n (pf_ah C i (nI v)) (C i)) ↔ sp_spare n ((List.range k).map C) v := by
  have key : ∀ i, i < k → (¬ g i = 0 ↔ rt n C i) := by
    intro i hi
    obtain ⟨h1, h2⟩ := hg i hi
    rw [← h2]
    rcases h1 with q | q
    · rw [q]; exact ⟨fun q => absurd rfl q, fun q => absurd q (by decide)⟩
    · rw [q]; exact ⟨fun _ => rfl, fun _ => by decide⟩
  constructor
  · intro h j l hj hl hR
    have hjk : j < k := by
      have := (List.getElem?_eq_some_iff.mp hl).1
      simpa using this
    rw [get_map hjk] at hl
    cases hl
    rw [take_map (by omega)] at hR ⊢
    exact (sp_right_ext (ah_v (by omega) (by omega)) _).mp (h j hj hjk ((key j hjk).mpr hR))
  · intro h i hi hik hgi
    have := h i (C i) hi (get_map hik) (by rw [take_map (by omega)]; exact (key i hik).mp hgi)
    rw [take_map (by omega)] at this
    exact (sp_right_ext (ah_v (by omega) (by omega)) _).mpr this
theorem dr_map {C : Nat → Nat × List Nat} {k v : Nat} (hv : v < k) : (List.range (k - 1)).map (dr C v k) = ((List.range k).map C).eraseIdx v := by
  apply List.ext_getElem?
  intro j
  rw [List.getElem?_eraseIdx]
  by_cases hj : j < k - 1
  · rw [get_map hj]
    by_cases h1 : j < v
    · rw [if_pos h1, get_map (by omega)]
      simp [dr, h1]
    · rw [if_neg h1, get_map (by omega)]
      simp only [dr, h1, show j + 1 < k by omega, if_true, if_false]
  · rw [List.getElem?_eq_none (by simp; omega)]
    split
    · omega
    · rw [List.getElem?_eq_none (by simp; omega)]
theorem dr_rt {n k v : Nat} {C : Nat → Nat × List Nat} (hv : v < k) (hv0 : ¬ (C v).1 = 0) (hsp : sp_spare n ((List.range k).map C) v) : (∀ j, j < v → (rt n (dr C v k) j ↔ rt n C j)) ∧ (∀ j, v ≤ j → j + 1 < k → (rt n (dr C v k) j ↔ rt n C (j + 1))) := by
  refine ⟨fun j hj => ?_, fun j hj hjk => ?_⟩
  · unfold rt
    have e : dr C v k j = C j := by simp [dr, hj]
    rw [e]
    refine sp_right_ext (fun l => ?_) _
    rw [rm_mem, rm_mem]
    constructor
    · rintro ⟨i, h1, rfl⟩; exact ⟨i, h1, by simp [dr, show i < v by omega]⟩
    · rintro ⟨i, h1, rfl⟩; exact ⟨i, h1, by simp [dr, show i < v by omega]⟩
  · unfold rt
    have e : dr C v k j = C (j + 1) := by simp only [dr, show ¬ j < v by omega, hjk, if_true, if_false]
    rw [e]
    have hm : ∀ l, l ∈ (List.range j).map (dr C v k) ↔ l ∈ ((List.range (j + 1)).map C).eraseIdx v := by
      intro l
      rw [rm_mem, er_mem]
      constructor
      · rintro ⟨i, h1, rfl⟩
        by_cases h2 : i < v
        · exact ⟨i, by omega, by omega, by simp [dr, h2]⟩
        · exact ⟨i + 1, by omega, by omega, by simp only [dr, h2, show i + 1 < k by omega, if_true, if_false]⟩
      · rintro ⟨i, h1, h2, rfl⟩
        by_cases h3 : i < v
        · exact ⟨i, by omega, by simp [dr, h3]⟩
        · refine ⟨i - 1, by omega, ?_⟩
          simp only [dr, show ¬ i - 1 < v by omega, show i - 1 + 1 < k by omega, if_true, if_false]
          rw [show i - 1 + 1 = i by omega]
    rw [sp_right_ext hm]
    constructor
    · refine fun q => sp_right_mono (fun l hl => ?_) (fun l hl hl0 => ?_) q
      · obtain ⟨i, h1, h2, rfl⟩ := er_mem.mp hl
        exact rm_mem.mpr ⟨i, h1, rfl⟩
      · obtain ⟨i, h1, rfl⟩ := rm_mem.mp hl
        exact er_mem.mpr ⟨i, h1, fun q => hv0 (by rw [← q]; exact hl0), rfl⟩
    · intro q
      have := hsp (j + 1) (C (j + 1)) (by omega) (get_map hjk) (by rw [take_map (by omega)]; exact q)
      rw [take_map (by omega)] at this
      exact this
section DL
variable {hp : mj_H} {Q : mj_Q} {P n : Nat}
theorem c_dropLines {k : Nat} {ρ : Nat → Option Nat} {g : Nat → Int32} {π : Nat → Nat} {C : Nat → Nat × List Nat} (hr : pf_r hp P n k ρ g) (hk : k ≤ 80) (hpk : pf_k hp P ρ π C) (hn : n ≤ 64) (hlv : ∀ j, j < k → lv n (C j)) (hQ : ∀ (hp' : mj_H) (k' : Nat) (ρ' : Nat → Option Nat) (g' : Nat → Int32) (π' : Nat → Nat) (C' : Nat → Nat × List Nat), pf_r hp' P n k' ρ' g' → k' ≤ 80 → pf_k hp' P ρ' π' C' → (∀ j, j < k' → lv n (C' j)) → (List.range k').map C' = sp_dl n (k - 1) ((List.range k).map C) → sm hp hp' P (P + 163) → Q none hp') : mj_call 54 [.ref P] hp Q := by
  have down : ∀ (j k1 : Nat) (ρ1 : Nat → Option Nat) (g1 : Nat → Int32) (π1 : Nat → Nat) (C1 : Nat → Nat × List Nat) (hp1 : mj_H) (x : Int32), (j = 0 ∧ x < 0) ∨ (∃ i, j = i + 1 ∧ x = nI i) → j ≤ k1 → k1 ≤ 80 → pf_r hp1 P n k1 ρ1 g1 → pf_k hp1 P ρ1 π1 C1 → (∀ i, i < k1 → lv n (C1 i)) → (∀ i, i < k1 → (g1 i = 0 ∨ g1 i = 1) ∧ (g1 i = 1 ↔ rt n C1 i)) → sp_dl n j ((List.range k1).map C1) = sp_dl n (k - 1) ((List.range k).map C) → sm hp hp1 P (P + 163) → mj_wp 54 35 [some (.ref P), some (.int x)] [] hp1 Q := by
    intro j
    induction j with
    | zero =>
      intro k1 ρ1 g1 π1 C1 hp1 x hx hj hk1 a1 a2 a3 a4 a5 a6
      have hx0 : x < 0 := by
        rcases hx with q | ⟨i, q, -⟩
        · exact q.2
        · omega
      rw [x_54_35]
      simp only [x_54_36, x_54_39, x_54_40, x_54_43, x_54_44, x_54_45, x_54_48, x_54_51, x_54_52, x_54_53, x_54_56, x_54_59, x_54_60, x_54_61, x_54_64, x_54_67, x_54_70, mw_nx, mw_no, mw_ite, mw_call, mw_ret, mw_cst, mw_ii, mw_i1, mw_ll, mw_l1, mw_li, mw_i2l, mw_l2i, mw_lcm, mw_if, mw_ic, mw_ifnN, mw_ifnR, mw_go, mw_dupi, mw_dupr, mw_popi, mw_popr, mw_nw, mw_rti, mw_rtl, mw_rtr, mw_rtn, mw_rtv, mw_rt0, mw_rt1, mj_ild, mj_lld, mj_ald, mj_ist, mj_lst, mj_ast, mj_inc, mj_iz, mj_get, mj_put, mj_len, mj_iar, mj_aar, mj_iaw, mj_aaw, mj_ivs, mj_ivv, mj_ivi, mj_ob, mj_tk, mj_cat, mj_st1, mj_st2, mj_clr, mj_nwi, mj_nwq, List.getElem?_cons_zero, List.getElem?_cons_succ, List.length_cons, List.length_nil, List.set_cons_zero, List.set_cons_succ, Value.category, decide_eq_true_eq, List.map_cons, List.map_nil, List.sum_cons, List.sum_nil, Option.toList, List.cons_append, List.nil_append, ite_true, ite_false, if_true, if_false, reduceCtorEq, true_and, and_true, narrow_i, narrow_l, narrow_r, narrow_n, fits_i, fits_l, fits_ro, fits_ra, fits_no, fits_na, Nat.reduceAdd, Nat.reduceLT, Nat.reduceLeDiff, Nat.reduceEqDiff, Nat.reduceSub, zero_add0, true_or, or_true, false_or, or_false, not_true_eq_false, not_false_eq_true, eq_self, i10, i01, im0, im1, hx0]
      exact hQ hp1 k1 ρ1 g1 π1 C1 a1 hk1 a2 a3 a5 a6
    | succ i ih =>
      intro k1 ρ1 g1 π1 C1 hp1 x hx hj hk1 a1 a2 a3 a4 a5 a6
      obtain rfl : x = nI i := by
        rcases hx with q | ⟨i', q, q2⟩
        · omega
        · rw [q2]; congr 1; omega
      have nx : (i = 0 ∧ nI i + -1 < 0) ∨ ∃ i', i = i' + 1 ∧ nI i + -1 = nI i' := by
        cases i with
        | zero => exact Or.inl ⟨rfl, by decide⟩
        | succ i' => exact Or.inr ⟨i', rfl, pk_m1 i'⟩
      obtain ⟨p1, p2, p3⟩ := a2.1 i (by omega)
      obtain ⟨f, t, u, b1, b2, hv, hok, hs⟩ := p3
      have z0 : ¬ nI i < 0 := nI_pos (by omega)
      have z1 : (nI i).toNatClampNeg = i := nI_clamp (by omega)
      have z2 : ¬ 80 ≤ i := by omega
      have e2 : (nI (C1 i).1 = 0) = ((C1 i).1 = 0) := propext (nI_eq (b := 0) (by omega) (by omega))
      have hgd : ((List.range k1).map C1).getD i (0, []) = C1 i := by
        rw [List.getD_eq_getElem?_getD, get_map (by omega)]; rfl
      rw [sp_dl, hgd] at a5
      rw [x_54_35]
      by_cases hz : (C1 i).1 = 0
      · have q0 := eq_true hz
        rw [sp_if_f (fun q => q.1 hz)] at a5
        simp only [x_54_36, x_54_39, x_54_40, x_54_43, x_54_44, x_54_45, x_54_48, x_54_51, x_54_52, x_54_53, x_54_56, x_54_59, x_54_60, x_54_61, x_54_64, x_54_67, mw_nx, mw_no, mw_ite, mw_call, mw_ret, mw_cst, mw_ii, mw_i1, mw_ll, mw_l1, mw_li, mw_i2l, mw_l2i, mw_lcm, mw_if, mw_ic, mw_ifnN, mw_ifnR, mw_go, mw_dupi, mw_dupr, mw_popi, mw_popr, mw_nw, mw_rti, mw_rtl, mw_rtr, mw_rtn, mw_rtv, mw_rt0, mw_rt1, mj_ild, mj_lld, mj_ald, mj_ist, mj_lst, mj_ast, mj_inc, mj_iz, mj_get, mj_put, mj_len, mj_iar, mj_aar, mj_iaw, mj_aaw, mj_ivs, mj_ivv, mj_ivi, mj_ob, mj_tk, mj_cat, mj_st1, mj_st2, mj_clr, mj_nwi, mj_nwq, List.getElem?_cons_zero, List.getElem?_cons_succ, List.length_cons, List.length_nil, List.set_cons_zero, List.set_cons_succ, Value.category, decide_eq_true_eq, List.map_cons, List.map_nil, List.sum_cons, List.sum_nil, Option.toList, List.cons_append, List.nil_append, ite_true, ite_false, if_true, if_false, reduceCtorEq, true_and, and_true, narrow_i, narrow_l, narrow_r, narrow_n, fits_i, fits_l, fits_ro, fits_ra, fits_no, fits_na, Nat.reduceAdd, Nat.reduceLT, Nat.reduceLeDiff, Nat.reduceEqDiff, Nat.reduceSub, zero_add0, true_or, or_true, false_or, or_false, not_true_eq_false, not_false_eq_true, eq_self, i10, i01, im0, im1, a1.1, a1.2.1, at_2, z0, z1, z2, p2, rf_some, b1, c_sort b1, e2, q0]
        exact ih k1 ρ1 g1 π1 C1 hp1 _ nx (by omega) hk1 a1 a2 a3 a4 a5 a6
      · have q0 := eq_false hz
        have hsp := spare_iff (n := n) hk1 (show i < k1 by omega) a4
        simp only [x_54_36, x_54_39, x_54_40, x_54_43, x_54_44, x_54_45, x_54_48, x_54_51, x_54_52, x_54_53, mw_nx, mw_no, mw_ite, mw_call, mw_ret, mw_cst, mw_ii, mw_i1, mw_ll, mw_l1, mw_li, mw_i2l, mw_l2i, mw_lcm, mw_if, mw_ic, mw_ifnN, mw_ifnR, mw_go, mw_dupi, mw_dupr, mw_popi, mw_popr, mw_nw, mw_rti, mw_rtl, mw_rtr, mw_rtn, mw_rtv, mw_rt0, mw_rt1, mj_ild, mj_lld, mj_ald, mj_ist, mj_lst, mj_ast, mj_inc, mj_iz, mj_get, mj_put, mj_len, mj_iar, mj_aar, mj_iaw, mj_aaw, mj_ivs, mj_ivv, mj_ivi, mj_ob, mj_tk, mj_cat, mj_st1, mj_st2, mj_clr, mj_nwi, mj_nwq, List.getElem?_cons_zero, List.getElem?_cons_succ, List.length_cons, List.length_nil, List.set_cons_zero, List.set_cons_succ, Value.category, decide_eq_true_eq, List.map_cons, List.map_nil, List.sum_cons, List.sum_nil, Option.toList, List.cons_append, List.nil_append, ite_true, ite_false, if_true, if_false, reduceCtorEq, true_and, and_true, narrow_i, narrow_l, narrow_r, narrow_n, fits_i, fits_l, fits_ro, fits_ra, fits_no, fits_na, Nat.reduceAdd, Nat.reduceLT, Nat.reduceLeDiff, Nat.reduceEqDiff, Nat.reduceSub, zero_add0, true_or, or_true, false_or, or_false, not_true_eq_false, not_false_eq_true, eq_self, i10, i01, im0, im1, a1.1, a1.2.1, at_2, z0, z1, z2, p2, rf_some, b1, c_sort b1, e2, q0]
        refine c_isSpare a1 hk1 a2 (show i < k1 by omega) hn a3 hz (fun hS => ?_) (fun hS => ?_)
        · have hS2 := hsp.mp hS
          rw [sp_if_t ⟨hz, hS2⟩] at a5
          obtain ⟨d1, d2⟩ := dr_rt (show i < k1 by omega) hz hS2
          simp only [x_54_56, x_54_59, x_54_60, x_54_61, mw_nx, mw_no, mw_ite, mw_call, mw_ret, mw_cst, mw_ii, mw_i1, mw_ll, mw_l1, mw_li, mw_i2l, mw_l2i, mw_lcm, mw_if, mw_ic, mw_ifnN, mw_ifnR, mw_go, mw_dupi, mw_dupr, mw_popi, mw_popr, mw_nw, mw_rti, mw_rtl, mw_rtr, mw_rtn, mw_rtv, mw_rt0, mw_rt1, mj_ild, mj_lld, mj_ald, mj_ist, mj_lst, mj_ast, mj_inc, mj_iz, mj_get, mj_put, mj_len, mj_iar, mj_aar, mj_iaw, mj_aaw, mj_ivs, mj_ivv, mj_ivi, mj_ob, mj_tk, mj_cat, mj_st1, mj_st2, mj_clr, mj_nwi, mj_nwq, List.getElem?_cons_zero, List.getElem?_cons_succ, List.length_cons, List.length_nil, List.set_cons_zero, List.set_cons_succ, Value.category, decide_eq_true_eq, List.map_cons, List.map_nil, List.sum_cons, List.sum_nil, Option.toList, List.cons_append, List.nil_append, ite_true, ite_false, if_true, if_false, reduceCtorEq, true_and, and_true, narrow_i, narrow_l, narrow_r, narrow_n, fits_i, fits_l, fits_ro, fits_ra, fits_no, fits_na, Nat.reduceAdd, Nat.reduceLT, Nat.reduceLeDiff, Nat.reduceEqDiff, Nat.reduceSub, zero_add0, true_or, or_true, false_or, or_false, not_true_eq_false, not_false_eq_true, eq_self, i10, i01, im0, im1, a1.1]
          refine c_dropLine a1 hk1 a2 (show i < k1 by omega) (fun i hi => (a4 i hi).1) (fun hp2 ρ2 g2 r2 k2 g3 g4 s2 => ?_)
          simp only [x_54_64, x_54_67, mw_nx, mw_no, mw_ite, mw_call, mw_ret, mw_cst, mw_ii, mw_i1, mw_ll, mw_l1, mw_li, mw_i2l, mw_l2i, mw_lcm, mw_if, mw_ic, mw_ifnN, mw_ifnR, mw_go, mw_dupi, mw_dupr, mw_popi, mw_popr, mw_nw, mw_rti, mw_rtl, mw_rtr, mw_rtn, mw_rtv, mw_rt0, mw_rt1, mj_ild, mj_lld, mj_ald, mj_ist, mj_lst, mj_ast, mj_inc, mj_iz, mj_get, mj_put, mj_len, mj_iar, mj_aar, mj_iaw, mj_aaw, mj_ivs, mj_ivv, mj_ivi, mj_ob, mj_tk, mj_cat, mj_st1, mj_st2, mj_clr, mj_nwi, mj_nwq, List.getElem?_cons_zero, List.getElem?_cons_succ, List.length_cons, List.length_nil, List.set_cons_zero, List.set_cons_succ, Value.category, decide_eq_true_eq, List.map_cons, List.map_nil, List.sum_cons, List.sum_nil, Option.toList, List.cons_append, List.nil_append, ite_true, ite_false, if_true, if_false, reduceCtorEq, true_and, and_true, narrow_i, narrow_l, narrow_r, narrow_n, fits_i, fits_l, fits_ro, fits_ra, fits_no, fits_na, Nat.reduceAdd, Nat.reduceLT, Nat.reduceLeDiff, Nat.reduceEqDiff, Nat.reduceSub, zero_add0, true_or, or_true, false_or, or_false, not_true_eq_false, not_false_eq_true, eq_self, i10, i01, im0, im1]
          refine ih (k1 - 1) ρ2 g2 _ _ hp2 _ nx (by omega) (by omega) r2 k2 (fun j hj => ?_) (fun j hj => ?_) (by rw [dr_map (by omega)]; exact a5) (a6.tr s2)
          · by_cases h1 : j < i
            · rw [show dr C1 i k1 j = C1 j by simp [dr, h1]]; exact a3 j (by omega)
            · rw [show dr C1 i k1 j = C1 (j + 1) by simp only [dr, h1, show j + 1 < k1 by omega, if_true, if_false]]; exact a3 (j + 1) (by omega)
          · by_cases h1 : j < i
            · rw [g3 j h1, d1 j h1]; exact a4 j (by omega)
            · rw [g4 j (by omega) (by omega), d2 j (by omega) (by omega)]; exact a4 (j + 1) (by omega)
        · rw [sp_if_f (fun q => hS (hsp.mpr q.2))] at a5
          simp only [x_54_56, x_54_59, x_54_60, x_54_61, x_54_64, x_54_67, mw_nx, mw_no, mw_ite, mw_call, mw_ret, mw_cst, mw_ii, mw_i1, mw_ll, mw_l1, mw_li, mw_i2l, mw_l2i, mw_lcm, mw_if, mw_ic, mw_ifnN, mw_ifnR, mw_go, mw_dupi, mw_dupr, mw_popi, mw_popr, mw_nw, mw_rti, mw_rtl, mw_rtr, mw_rtn, mw_rtv, mw_rt0, mw_rt1, mj_ild, mj_lld, mj_ald, mj_ist, mj_lst, mj_ast, mj_inc, mj_iz, mj_get, mj_put, mj_len, mj_iar, mj_aar, mj_iaw, mj_aaw, mj_ivs, mj_ivv, mj_ivi, mj_ob, mj_tk, mj_cat, mj_st1, mj_st2, mj_clr, mj_nwi, mj_nwq, List.getElem?_cons_zero, List.getElem?_cons_succ, List.length_cons, List.length_nil, List.set_cons_zero, List.set_cons_succ, Value.category, decide_eq_true_eq, List.map_cons, List.map_nil, List.sum_cons, List.sum_nil, Option.toList, List.cons_append, List.nil_append, ite_true, ite_false, if_true, if_false, reduceCtorEq, true_and, and_true, narrow_i, narrow_l, narrow_r, narrow_n, fits_i, fits_l, fits_ro, fits_ra, fits_no, fits_na, Nat.reduceAdd, Nat.reduceLT, Nat.reduceLeDiff, Nat.reduceEqDiff, Nat.reduceSub, zero_add0, true_or, or_true, false_or, or_false, not_true_eq_false, not_false_eq_true, eq_self, i10, i01, im0, im1]
          exact ih k1 ρ1 g1 π1 C1 hp1 _ nx (by omega) hk1 a1 a2 a3 a4 a5 a6
  have fill : ∀ (d i : Nat) (g1 : Nat → Int32) (hp1 : mj_H), i + d = k → pf_r hp1 P n k ρ g1 → pf_k hp1 P ρ π C → (∀ j, j < i → (g1 j = 0 ∨ g1 j = 1) ∧ (g1 j = 1 ↔ rt n C j)) → sm hp hp1 P (P + 163) → mj_wp 54 2 [some (.ref P), some (.int (nI i))] [] hp1 Q := by
    intro d
    induction d with
    | zero =>
      intro i g1 hp1 hi a1 a2 a3 a4
      obtain rfl : i = k := by omega
      have e1 : nI i ≤ nI i := nI_le (Nat.le_refl _) (by omega)
      rw [x_54_2]
      simp only [x_54_3, x_54_4, x_54_7, x_54_28, x_54_29, x_54_32, x_54_33, x_54_34, mw_nx, mw_no, mw_ite, mw_call, mw_ret, mw_cst, mw_ii, mw_i1, mw_ll, mw_l1, mw_li, mw_i2l, mw_l2i, mw_lcm, mw_if, mw_ic, mw_ifnN, mw_ifnR, mw_go, mw_dupi, mw_dupr, mw_popi, mw_popr, mw_nw, mw_rti, mw_rtl, mw_rtr, mw_rtn, mw_rtv, mw_rt0, mw_rt1, mj_ild, mj_lld, mj_ald, mj_ist, mj_lst, mj_ast, mj_inc, mj_iz, mj_get, mj_put, mj_len, mj_iar, mj_aar, mj_iaw, mj_aaw, mj_ivs, mj_ivv, mj_ivi, mj_ob, mj_tk, mj_cat, mj_st1, mj_st2, mj_clr, mj_nwi, mj_nwq, List.getElem?_cons_zero, List.getElem?_cons_succ, List.length_cons, List.length_nil, List.set_cons_zero, List.set_cons_succ, Value.category, decide_eq_true_eq, List.map_cons, List.map_nil, List.sum_cons, List.sum_nil, Option.toList, List.cons_append, List.nil_append, ite_true, ite_false, if_true, if_false, reduceCtorEq, true_and, and_true, narrow_i, narrow_l, narrow_r, narrow_n, fits_i, fits_l, fits_ro, fits_ra, fits_no, fits_na, Nat.reduceAdd, Nat.reduceLT, Nat.reduceLeDiff, Nat.reduceEqDiff, Nat.reduceSub, zero_add0, true_or, or_true, false_or, or_false, not_true_eq_false, not_false_eq_true, eq_self, i10, i01, im0, im1, a1.1, e1]
      refine down (i - 1) i ρ g1 π C hp1 _ ?_ (by omega) hk a1 a2 hlv a3 rfl a4
      by_cases hi2 : 2 ≤ i
      · exact Or.inr ⟨i - 2, by omega, pk_sub (b := 2) hi2⟩
      · obtain rfl | rfl : i = 0 ∨ i = 1 := by omega
        · exact Or.inl ⟨rfl, by decide⟩
        · exact Or.inl ⟨rfl, by decide⟩
    | succ d ih =>
      intro i g1 hp1 hi a1 a2 a3 a4
      have e1 : ¬ nI k ≤ nI i := nI_ge (by omega) (by omega)
      have z0 : ¬ nI i < 0 := nI_pos (by omega)
      have z1 : (nI i).toNatClampNeg = i := nI_clamp (by omega)
      have z2 : ¬ 80 ≤ i := by omega
      have put : ∀ (x : Int32), (x = 0 ∨ x = 1) → (x = 1 ↔ rt n C i) → mj_wp 54 2 [some (.ref P), some (.int (nI (i + 1)))] [] (mj_up hp1 (P + 2) (pf_z (upd g1 i x))) Q := by
        intro x hx1 hx2
        refine ih (i + 1) (upd g1 i x) _ (by omega) ⟨by rw [mj_up_off (by omega)]; exact a1.1, by rw [mj_up_off (by omega)]; exact a1.2.1, mj_up_at⟩ ⟨fun j hj => ?_, a2.2⟩ (fun j hj => ?_) (a4.tr (sm.up (by omega) (by omega)))
        · obtain ⟨q1, q2, q3⟩ := a2.1 j hj
          exact ⟨q1, q2, q3.keep (mj_up_off (by omega)) (mj_up_off (by omega))⟩
        · by_cases hji : j = i
          · subst hji
            rw [show upd g1 j x j = x by simp [upd]]
            exact ⟨hx1, hx2⟩
          · rw [show upd g1 i x j = g1 j by simp [upd, hji]]
            exact a3 j (by omega)
      rw [x_54_2]
      simp only [x_54_3, x_54_4, x_54_7, x_54_10, x_54_11, x_54_14, x_54_15, x_54_16, x_54_17, x_54_18, mw_nx, mw_no, mw_ite, mw_call, mw_ret, mw_cst, mw_ii, mw_i1, mw_ll, mw_l1, mw_li, mw_i2l, mw_l2i, mw_lcm, mw_if, mw_ic, mw_ifnN, mw_ifnR, mw_go, mw_dupi, mw_dupr, mw_popi, mw_popr, mw_nw, mw_rti, mw_rtl, mw_rtr, mw_rtn, mw_rtv, mw_rt0, mw_rt1, mj_ild, mj_lld, mj_ald, mj_ist, mj_lst, mj_ast, mj_inc, mj_iz, mj_get, mj_put, mj_len, mj_iar, mj_aar, mj_iaw, mj_aaw, mj_ivs, mj_ivv, mj_ivi, mj_ob, mj_tk, mj_cat, mj_st1, mj_st2, mj_clr, mj_nwi, mj_nwq, List.getElem?_cons_zero, List.getElem?_cons_succ, List.length_cons, List.length_nil, List.set_cons_zero, List.set_cons_succ, Value.category, decide_eq_true_eq, List.map_cons, List.map_nil, List.sum_cons, List.sum_nil, Option.toList, List.cons_append, List.nil_append, ite_true, ite_false, if_true, if_false, reduceCtorEq, true_and, and_true, narrow_i, narrow_l, narrow_r, narrow_n, fits_i, fits_l, fits_ro, fits_ra, fits_no, fits_na, Nat.reduceAdd, Nat.reduceLT, Nat.reduceLeDiff, Nat.reduceEqDiff, Nat.reduceSub, zero_add0, true_or, or_true, false_or, or_false, not_true_eq_false, not_false_eq_true, eq_self, i10, i01, im0, im1, a1.1, e1]
      refine c_isRight a1 hk a2 (show i < k by omega) hn (hlv i (by omega)) (fun v hv hvw => absurd hvw (fun q => nI_pos (n := v) (by omega) (by rw [q]; decide))) (fun hR => ?_) (fun hR => ?_)
      · simp only [x_54_21, x_54_22, x_54_25, mw_nx, mw_no, mw_ite, mw_call, mw_ret, mw_cst, mw_ii, mw_i1, mw_ll, mw_l1, mw_li, mw_i2l, mw_l2i, mw_lcm, mw_if, mw_ic, mw_ifnN, mw_ifnR, mw_go, mw_dupi, mw_dupr, mw_popi, mw_popr, mw_nw, mw_rti, mw_rtl, mw_rtr, mw_rtn, mw_rtv, mw_rt0, mw_rt1, mj_ild, mj_lld, mj_ald, mj_ist, mj_lst, mj_ast, mj_inc, mj_iz, mj_get, mj_put, mj_len, mj_iar, mj_aar, mj_iaw, mj_aaw, mj_ivs, mj_ivv, mj_ivi, mj_ob, mj_tk, mj_cat, mj_st1, mj_st2, mj_clr, mj_nwi, mj_nwq, List.getElem?_cons_zero, List.getElem?_cons_succ, List.length_cons, List.length_nil, List.set_cons_zero, List.set_cons_succ, Value.category, decide_eq_true_eq, List.map_cons, List.map_nil, List.sum_cons, List.sum_nil, Option.toList, List.cons_append, List.nil_append, ite_true, ite_false, if_true, if_false, reduceCtorEq, true_and, and_true, narrow_i, narrow_l, narrow_r, narrow_n, fits_i, fits_l, fits_ro, fits_ra, fits_no, fits_na, Nat.reduceAdd, Nat.reduceLT, Nat.reduceLeDiff, Nat.reduceEqDiff, Nat.reduceSub, zero_add0, true_or, or_true, false_or, or_false, not_true_eq_false, not_false_eq_true, eq_self, i10, i01, im0, im1, a1.2.2, at_1, z0, z1, z2, narrow_z (Or.inr rfl), nI_1]
        exact put 1 (Or.inr rfl) ⟨fun _ => (sp_right_ext (ah_m1 (by omega)) _).mp hR, fun _ => rfl⟩
      · simp only [x_54_21, x_54_22, x_54_25, mw_nx, mw_no, mw_ite, mw_call, mw_ret, mw_cst, mw_ii, mw_i1, mw_ll, mw_l1, mw_li, mw_i2l, mw_l2i, mw_lcm, mw_if, mw_ic, mw_ifnN, mw_ifnR, mw_go, mw_dupi, mw_dupr, mw_popi, mw_popr, mw_nw, mw_rti, mw_rtl, mw_rtr, mw_rtn, mw_rtv, mw_rt0, mw_rt1, mj_ild, mj_lld, mj_ald, mj_ist, mj_lst, mj_ast, mj_inc, mj_iz, mj_get, mj_put, mj_len, mj_iar, mj_aar, mj_iaw, mj_aaw, mj_ivs, mj_ivv, mj_ivi, mj_ob, mj_tk, mj_cat, mj_st1, mj_st2, mj_clr, mj_nwi, mj_nwq, List.getElem?_cons_zero, List.getElem?_cons_succ, List.length_cons, List.length_nil, List.set_cons_zero, List.set_cons_succ, Value.category, decide_eq_true_eq, List.map_cons, List.map_nil, List.sum_cons, List.sum_nil, Option.toList, List.cons_append, List.nil_append, ite_true, ite_false, if_true, if_false, reduceCtorEq, true_and, and_true, narrow_i, narrow_l, narrow_r, narrow_n, fits_i, fits_l, fits_ro, fits_ra, fits_no, fits_na, Nat.reduceAdd, Nat.reduceLT, Nat.reduceLeDiff, Nat.reduceEqDiff, Nat.reduceSub, zero_add0, true_or, or_true, false_or, or_false, not_true_eq_false, not_false_eq_true, eq_self, i10, i01, im0, im1, a1.2.2, at_1, z0, z1, z2, narrow_z (Or.inl rfl), nI_1]
        exact put 0 (Or.inl rfl) ⟨fun q => absurd q (by decide), fun q => absurd ((sp_right_ext (ah_m1 (by omega)) _).mpr q) hR⟩
  rw [en_54]
  simp only [x_54_0, x_54_1, mw_nx, mw_no, mw_ite, mw_call, mw_ret, mw_cst, mw_ii, mw_i1, mw_ll, mw_l1, mw_li, mw_i2l, mw_l2i, mw_lcm, mw_if, mw_ic, mw_ifnN, mw_ifnR, mw_go, mw_dupi, mw_dupr, mw_popi, mw_popr, mw_nw, mw_rti, mw_rtl, mw_rtr, mw_rtn, mw_rtv, mw_rt0, mw_rt1, mj_ild, mj_lld, mj_ald, mj_ist, mj_lst, mj_ast, mj_inc, mj_iz, mj_get, mj_put, mj_len, mj_iar, mj_aar, mj_iaw, mj_aaw, mj_ivs, mj_ivv, mj_ivi, mj_ob, mj_tk, mj_cat, mj_st1, mj_st2, mj_clr, mj_nwi, mj_nwq, List.getElem?_cons_zero, List.getElem?_cons_succ, List.length_cons, List.length_nil, List.set_cons_zero, List.set_cons_succ, Value.category, decide_eq_true_eq, List.map_cons, List.map_nil, List.sum_cons, List.sum_nil, Option.toList, List.cons_append, List.nil_append, ite_true, ite_false, if_true, if_false, reduceCtorEq, true_and, and_true, narrow_i, narrow_l, narrow_r, narrow_n, fits_i, fits_l, fits_ro, fits_ra, fits_no, fits_na, Nat.reduceAdd, Nat.reduceLT, Nat.reduceLeDiff, Nat.reduceEqDiff, Nat.reduceSub, zero_add0, true_or, or_true, false_or, or_false, not_true_eq_false, not_false_eq_true, eq_self, i10, i01, im0, im1]
  exact fill k 0 g hp (by omega) hr hpk (fun j hj => by omega) sm.rf
end DL
