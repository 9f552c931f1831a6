/-! The rows are sound: each by the check that a program has run over its table -/
theorem mj_ok_fl {o x ci k : Nat} (h : ((o, x), (ci, k)) ∈ mj_fl) : k < mj_N ci ∧ Cond.fieldLink (mj_cn o) x (mj_fown ci k) (mj_fnm ci k) (mj_fds ci k) ∈ mj_words := by
  obtain ⟨ix, hx⟩ := mj_all2_in mj_ck_fl _ h
  simp only [mj_flb, Bool.and_eq_true, decide_eq_true_eq] at hx
  exact ⟨hx.1, mj_wd_in hx.2⟩
theorem mj_ok_nl {o x ci : Nat} (h : ((o, x), ci) ∈ mj_nl) : ci < mj_cl.length ∧ Cond.classLink (mj_cn o) x (mj_cnm ci) ∈ mj_words := by
  obtain ⟨ix, hx⟩ := mj_all2_in mj_ck_nl _ h
  simp only [mj_nlb, Bool.and_eq_true, decide_eq_true_eq] at hx
  exact ⟨hx.1, mj_wd_in hx.2⟩
theorem mj_ok_ql {o x t : Nat} (h : ((o, x), t) ∈ mj_ql) : ∃ C, mj_at[t]? = some (.object C) ∧ C ∈ mj_ao ∧ Cond.classLink (mj_cn o) x C ∈ mj_words := by
  obtain ⟨ix, hx⟩ := mj_all2_in mj_ck_ql _ h
  unfold mj_qlb at hx
  dsimp only at hx
  split at hx
  · rename_i C hC
    simp only [Bool.and_eq_true, decide_eq_true_eq] at hx
    exact ⟨C, hC, hx.1.1, mj_wd_in hx.2⟩
  · cases hx
theorem mj_ok_kli {o x : Nat} {v : Int32} (h : ((o, x), Value.int v) ∈ mj_kl) : Cond.constant (mj_cn o) x v ∈ mj_words := by
  obtain ⟨ix, hx⟩ := mj_all2_in mj_ck_kl _ h
  exact mj_wd_in hx
theorem mj_ok_kll {o x : Nat} {v : Int64} (h : ((o, x), Value.long v) ∈ mj_kl) : Cond.constantLong (mj_cn o) x v ∈ mj_words := by
  obtain ⟨ix, hx⟩ := mj_all2_in mj_ck_kl _ h
  exact mj_wd_in hx
theorem mj_ok_cl {ci : Nat} {r : vw_C} (h : mj_cl[ci]? = some r) : (∀ w ∈ u_ws r.1 r.2.1 r.2.2, w ∈ mj_words) ∧ Cond.instantiable r.1 r.2.2 ∈ mj_words ∧ Cond.initialized r.1 ∈ mj_words ∧ (∀ k, k < r.2.2 → parseFieldDescriptor (r.2.1 k).2.2.1 = some (mj_ty ci k)) ∧ (mj_def ci).length = r.2.2 ∧ (∀ a, a < r.2.2 → ∀ b, b < r.2.2 → a ≠ b → (r.2.1 a).2.1 ≠ (r.2.1 b).2.1) := by
  have hlen : mj_cl.length = mj_tyl.length := mj_ck_len
  have hlt : ci < mj_cl.length := (List.getElem?_eq_some_iff.mp h).1
  have ht : mj_tyl[ci]? = some (mj_tyl.getD ci []) := by
    rw [List.getD_eq_getElem?_getD, List.getElem?_eq_getElem (by omega)]
    rfl
  have hm : (r, mj_tyl.getD ci []) ∈ mj_cl.zip mj_tyl := by
    refine List.mem_of_getElem? (i := ci) ?_
    rw [List.getElem?_zip_eq_some]
    exact ⟨h, ht⟩
  obtain ⟨ix, hx⟩ := mj_all2_in mj_ck_cl _ hm
  simp only [mj_clb, Bool.and_eq_true, decide_eq_true_eq, List.all_eq_true, List.mem_range] at hx
  obtain ⟨⟨⟨⟨⟨h1, h2⟩, h3⟩, h4⟩, h5⟩, h6⟩ := hx
  refine ⟨fun w hw => ?_, mj_wd_in h2, mj_wd_in h3, fun k hk => h4 k hk, by unfold mj_def; rw [List.length_map]; exact h5, fun a ha b hb hne => ?_⟩
  · obtain ⟨y, hy⟩ := mj_all2_in h1 w hw
    exact mj_wd_in hy
  · have := h6 a ha b hb
    simpa [hne] using this
theorem mj_cl_of {ci : Nat} (h : ci < mj_cl.length) : ∃ r, mj_cl[ci]? = some r ∧ mj_cnm ci = r.1 ∧ mj_N ci = r.2.2 ∧ (∀ k, mj_fown ci k = (r.2.1 k).1 ∧ mj_fnm ci k = (r.2.1 k).2.1 ∧ mj_fds ci k = (r.2.1 k).2.2.1 ∧ mj_fin ci k = (r.2.1 k).2.2.2) := by
  refine ⟨mj_cl[ci], List.getElem?_eq_getElem h, ?_, ?_, fun k => ⟨?_, ?_, ?_, ?_⟩⟩
  · unfold mj_cnm; rw [List.getElem?_eq_getElem h]
  · unfold mj_N; rw [List.getElem?_eq_getElem h]
  · unfold mj_fown; rw [List.getElem?_eq_getElem h]
  · unfold mj_fnm; rw [List.getElem?_eq_getElem h]
  · unfold mj_fds; rw [List.getElem?_eq_getElem h]
  · unfold mj_fin; rw [List.getElem?_eq_getElem h]
theorem mj_N_lt {ci k : Nat} (h : k < mj_N ci) : ci < mj_cl.length := by
  unfold mj_N at h
  cases hc : mj_cl[ci]? with
  | none => rw [hc] at h; exact absurd h (Nat.not_lt_zero _)
  | some r => exact (List.getElem?_eq_some_iff.mp hc).1
theorem mj_ok_at {t : Nat} {ty : FieldType} (h : mj_at[t]? = some ty) (hp : ty = .int ∨ ty = .boolean ∨ ty = .long) : Cond.arrayClass ty ∈ mj_words := by
  obtain ⟨ix, hx⟩ := mj_all2_in mj_ck_at ty (List.mem_of_getElem? h)
  rcases hp with rfl | rfl | rfl <;> exact mj_wd_in hx
theorem mj_ok_ml5 {o x m' : Nat} (h : ((o, x), (m', 5)) ∈ mj_ml) : Cond.methodLink (mj_cn o) x Lib.objectInit ∈ mj_words ∧ Cond.instanceMethod Lib.objectInit ∈ mj_words ∧ Cond.code Lib.objectInit ⟨#[0xb1]⟩ 1 none ∈ mj_words := by
  obtain ⟨ix, hx⟩ := mj_ck_ml _ h
  unfold mj_mlb at hx
  rw [if_pos rfl] at hx
  simp only [Bool.and_eq_true] at hx
  exact ⟨mj_wd_in hx.1.1, mj_wd_in hx.1.2, mj_wd_in hx.2⟩
theorem mj_ok_ml {o x m' kd : Nat} (h : ((o, x), (m', kd)) ∈ mj_ml) (h5 : ¬ kd = 5) : Cond.code (mj_y m') (mj_code m') (mj_mxl m') (mj_ret m') ∈ mj_words ∧ Cond.initialized (mj_y m').cls ∈ mj_words ∧ ((mj_y m').cls ≠ "java/lang/invoke/MethodHandle" ∧ (mj_y m').cls ≠ "java/lang/invoke/VarHandle" ∧ (parseMethodDescriptor (mj_y m').desc).map (fun d => d.parameters.length) = some (mj_na m')) ∧ plainFor (mj_y m') = true ∧ mj_own m' = (mj_y m').cls ∧
    (kd = 0 ∨ kd = 2 ∨ kd = 4 → Cond.methodLink (mj_cn o) x (mj_y m') ∈ mj_words) ∧ (¬ (kd = 0 ∨ kd = 2 ∨ kd = 4) → (mj_cn o, x, mj_y m', mj_host) ∈ mj_nm) ∧ (kd ≤ 1 → Cond.static (mj_y m') ∈ mj_words) ∧ (¬ kd ≤ 1 → Cond.instanceMethod (mj_y m') ∈ mj_words) ∧
    (kd = 2 ∨ kd = 3 → Cond.selects (mj_y m').cls (mj_y m') (mj_y m') ∈ mj_words ∧ mj_cnm (mj_ci m') = (mj_y m').cls ∧ mj_ci m' < mj_cl.length) ∧ (kd = 4 → (mj_y m').name = "<init>" ∧ mj_ret m' = none) ∧ kd ≤ 4 := by
  obtain ⟨ix, hx⟩ := mj_ck_ml _ h
  unfold mj_mlb at hx
  dsimp only at hx
  rw [if_neg h5] at hx
  simp only [Bool.and_eq_true, decide_eq_true_eq] at hx
  obtain ⟨⟨⟨⟨⟨⟨⟨⟨a1, a2⟩, a3⟩, a4⟩, a5⟩, a7⟩, a8⟩, a9⟩, a10⟩ := hx
  refine ⟨mj_wd_in a1, mj_wd_in a2, a3, a4, a5, fun q => ?_, fun q => ?_, fun q => ?_, fun q => ?_, fun q => ?_, fun q => ?_, ?_⟩
  · rw [if_pos q] at a7; exact mj_wd_in a7
  · rw [if_neg q] at a7; simpa using a7
  · rw [if_pos q] at a8; exact mj_wd_in a8
  · rw [if_neg q] at a8; exact mj_wd_in a8
  · rw [if_pos q] at a9
    simp only [Bool.and_eq_true, decide_eq_true_eq] at a9
    exact ⟨mj_wd_in a9.1, a9.2.1, a9.2.2⟩
  · rw [if_pos q] at a10; simpa using a10
  · by_cases q : kd = 4
    · omega
    · rw [if_neg q] at a10
      simp only [decide_eq_true_eq] at a10
      omega
