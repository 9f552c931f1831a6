/-! What the tables say, read off the rows (the rows are part 02's) -/
def mj_cn (o : Nat) : String := mj_cns.getD o ""
def mj_y (m : Nat) : MethodName := (mj_mt.getD m mj_m0).1
def mj_code (m : Nat) : ByteArray := (mj_mt.getD m mj_m0).2.1
def mj_mxl (m : Nat) : Nat := (mj_mt.getD m mj_m0).2.2.1
def mj_ret (m : Nat) : Option FieldType := (mj_mt.getD m mj_m0).2.2.2.1
def mj_on (m : Nat) : Nat := (mj_mt.getD m mj_m0).2.2.2.2.1
def mj_hgt (m : Nat) : Nat := (mj_mt.getD m mj_m0).2.2.2.2.2.1
def mj_lr (m : Nat) : Nat := (mj_mt.getD m mj_m0).2.2.2.2.2.2.1
def mj_na (m : Nat) : Nat := (mj_mt.getD m mj_m0).2.2.2.2.2.2.2.1
def mj_ci (m : Nat) : Nat := (mj_mt.getD m mj_m0).2.2.2.2.2.2.2.2
def mj_own (m : Nat) : String := mj_cn (mj_on m)
def mj_fin (ci k : Nat) : Bool := match mj_cl[ci]? with
  | some r => (r.2.1 k).2.2.2
  | none => true
def mj_fown (ci k : Nat) : String := match mj_cl[ci]? with
  | some r => (r.2.1 k).1
  | none => ""
def mj_fnm (ci k : Nat) : String := match mj_cl[ci]? with
  | some r => (r.2.1 k).2.1
  | none => ""
def mj_fds (ci k : Nat) : String := match mj_cl[ci]? with
  | some r => (r.2.1 k).2.2.1
  | none => ""
def mj_N (ci : Nat) : Nat := match mj_cl[ci]? with
  | some r => r.2.2
  | none => 0
def mj_cnm (ci : Nat) : String := match mj_cl[ci]? with
  | some r => r.1
  | none => ""
def mj_ty (ci k : Nat) : FieldType := (mj_tyl.getD ci []).getD k .int
def mj_def (ci : Nat) : List Value := (mj_tyl.getD ci []).map defaultValue
def mj_words : List Cond := lw_tbl.filter goodWord
/-- a word by its place -/
def mj_wd (i : Nat) (w : Cond) : Bool := decide (lw_tbl[i]? = some w) && goodWord w
theorem mj_wd_in {i : Nat} {w : Cond} (h : mj_wd i w = true) : w ∈ mj_words := by
  unfold mj_wd at h
  simp only [Bool.and_eq_true, decide_eq_true_eq] at h
  exact List.mem_filter.mpr ⟨List.mem_of_getElem? h.1, h.2⟩
def mj_all2 {α : Type} (f : α → List Nat → Bool) : List α → List (List Nat) → Bool
  | [], _ => true
  | _ :: _, [] => false
  | a :: l, x :: xs => f a x && mj_all2 f l xs
theorem mj_all2_in {α : Type} {f : α → List Nat → Bool} : ∀ {l : List α} {xs : List (List Nat)}, mj_all2 f l xs = true → ∀ a ∈ l, ∃ x, f a x = true := by
  intro l
  induction l with
  | nil => intro xs _ a ha; cases ha
  | cons b l ih =>
    intro xs h a ha
    cases xs with
    | nil => simp [mj_all2] at h
    | cons x xs =>
      simp only [mj_all2, Bool.and_eq_true] at h
      rcases List.mem_cons.mp ha with rfl | ha
      · exact ⟨x, h.1⟩
      · exact ih h.2 a ha
theorem mj_find_mem {α : Type} {t : List ((Nat × Nat) × α)} {o i : Nat} {x : α} (h : (t.find? (fun r => r.1.1 == o && r.1.2 == i)).map (fun r => r.2) = some x) : ((o, i), x) ∈ t := by
  cases hf : t.find? (fun r => r.1.1 == o && r.1.2 == i) with
  | none => rw [hf] at h; cases h
  | some r =>
    rw [hf] at h
    have h1 := List.find?_some hf
    have h2 := List.mem_of_find?_eq_some hf
    simp only [Bool.and_eq_true, beq_iff_eq] at h1
    obtain ⟨⟨a, b⟩, c⟩ := r
    simp only [Option.map_some, Option.some.injEq] at h
    obtain ⟨rfl, rfl⟩ := h1
    subst h
    exact h2
/-- a class's row: its fields' words, its making, its types -/
def mj_clb (r : vw_C × List FieldType) (x : List Nat) : Bool :=
  mj_all2 (fun w y => mj_wd (y.getD 0 0) w) (u_ws r.1.1 r.1.2.1 r.1.2.2) ((x.drop 2).map fun i => [i]) && mj_wd (x.getD 0 0) (.instantiable r.1.1 r.1.2.2) && mj_wd (x.getD 1 0) (.initialized r.1.1) &&
  (List.range r.1.2.2).all (fun k => decide (parseFieldDescriptor (r.1.2.1 k).2.2.1 = some (r.2.getD k .int))) && decide (r.2.length = r.1.2.2) &&
  (List.range r.1.2.2).all (fun a => (List.range r.1.2.2).all (fun b => a == b || decide ((r.1.2.1 a).2.1 ≠ (r.1.2.1 b).2.1)))
def mj_flb (r : (Nat × Nat) × (Nat × Nat)) (x : List Nat) : Bool := decide (r.2.2 < mj_N r.2.1) && mj_wd (x.getD 0 0) (.fieldLink (mj_cn r.1.1) r.1.2 (mj_fown r.2.1 r.2.2) (mj_fnm r.2.1 r.2.2) (mj_fds r.2.1 r.2.2))
def mj_nlb (r : (Nat × Nat) × Nat) (x : List Nat) : Bool := decide (r.2 < mj_cl.length) && mj_wd (x.getD 0 0) (.classLink (mj_cn r.1.1) r.1.2 (mj_cnm r.2))
def mj_qlb (r : (Nat × Nat) × Nat) (x : List Nat) : Bool := match mj_at[r.2]? with
  | some (.object C) => decide (C ∈ mj_ao) && decide (r.2 < mj_at.length) && mj_wd (x.getD 0 0) (.classLink (mj_cn r.1.1) r.1.2 C)
  | _ => false
def mj_klb (r : (Nat × Nat) × Value) (x : List Nat) : Bool := match r.2 with
  | .int v => mj_wd (x.getD 0 0) (.constant (mj_cn r.1.1) r.1.2 v)
  | .long v => mj_wd (x.getD 0 0) (.constantLong (mj_cn r.1.1) r.1.2 v)
  | _ => false
/-- a call's row: places of: link, static or instance, selects, code, initialized -/
def mj_mlb (r : (Nat × Nat) × (Nat × Nat)) (x : List Nat) : Bool :=
  if r.2.2 = 5 then mj_wd (x.getD 0 0) (.methodLink (mj_cn r.1.1) r.1.2 Lib.objectInit) && mj_wd (x.getD 1 0) (.instanceMethod Lib.objectInit) && mj_wd (x.getD 3 0) (.code Lib.objectInit ⟨#[0xb1]⟩ 1 none)
  else mj_wd (x.getD 3 0) (.code (mj_y r.2.1) (mj_code r.2.1) (mj_mxl r.2.1) (mj_ret r.2.1)) && mj_wd (x.getD 4 0) (.initialized (mj_y r.2.1).cls) &&
    decide ((mj_y r.2.1).cls ≠ "java/lang/invoke/MethodHandle" ∧ (mj_y r.2.1).cls ≠ "java/lang/invoke/VarHandle" ∧ (parseMethodDescriptor (mj_y r.2.1).desc).map (fun d => d.parameters.length) = some (mj_na r.2.1)) &&
    plainFor (mj_y r.2.1) && decide (mj_own r.2.1 = (mj_y r.2.1).cls) &&
    (if r.2.2 = 0 ∨ r.2.2 = 2 ∨ r.2.2 = 4 then mj_wd (x.getD 0 0) (.methodLink (mj_cn r.1.1) r.1.2 (mj_y r.2.1)) else decide ((mj_cn r.1.1, r.1.2, mj_y r.2.1, mj_host) ∈ mj_nm)) &&
    (if r.2.2 ≤ 1 then mj_wd (x.getD 1 0) (.static (mj_y r.2.1)) else mj_wd (x.getD 1 0) (.instanceMethod (mj_y r.2.1))) &&
    (if r.2.2 = 2 ∨ r.2.2 = 3 then mj_wd (x.getD 2 0) (.selects (mj_y r.2.1).cls (mj_y r.2.1) (mj_y r.2.1)) && decide (mj_cnm (mj_ci r.2.1) = (mj_y r.2.1).cls ∧ mj_ci r.2.1 < mj_cl.length) else true) &&
    (if r.2.2 = 4 then decide ((mj_y r.2.1).name = "<init>" ∧ mj_ret r.2.1 = none) else decide (r.2.2 < 4))
def mj_atb (ty : FieldType) (x : List Nat) : Bool := match ty with
  | .object _ => true
  | .array _ => true
  | ty => mj_wd (x.getD 0 0) (.arrayClass ty)
