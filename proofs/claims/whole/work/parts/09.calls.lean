/-! Calls and returns, and the whole run -/
def mj_oi (o : mj_O) : Prop := ∀ (L : mj_L) (st : List Value) (hp : mj_H) (r : (Nat × List Value × List Value × Nat) ⊕ Option Value), o L st hp = some (.inr r) → False
theorem mj_nx_inr {pc : Nat} {L : mj_L} {st : List Value} {hp : mj_H} {r : (Nat × List Value × List Value × Nat) ⊕ Option Value} (h : mj_nx pc L st hp = some (.inr r)) : False := by
  unfold mj_nx at h
  cases h
theorem mj_oi_no : mj_oi (mj_no) := by
  intro L st hp r h
  unfold mj_no at h
  (repeat' split at h) <;> first | exact mj_none h | exact mj_nx_inr h
theorem mj_oi_cst (v : Value) (n : Nat) : mj_oi (mj_cst v n) := by
  intro L st hp r h
  unfold mj_cst at h
  (repeat' split at h) <;> first | exact mj_none h | exact mj_nx_inr h
theorem mj_oi_ild (i : Nat) (n : Nat) : mj_oi (mj_ild i n) := by
  intro L st hp r h
  unfold mj_ild at h
  (repeat' split at h) <;> first | exact mj_none h | exact mj_nx_inr h
theorem mj_oi_lld (i : Nat) (n : Nat) : mj_oi (mj_lld i n) := by
  intro L st hp r h
  unfold mj_lld at h
  (repeat' split at h) <;> first | exact mj_none h | exact mj_nx_inr h
theorem mj_oi_ald (i : Nat) (n : Nat) : mj_oi (mj_ald i n) := by
  intro L st hp r h
  unfold mj_ald at h
  (repeat' split at h) <;> first | exact mj_none h | exact mj_nx_inr h
theorem mj_oi_ist (i : Nat) (n : Nat) : mj_oi (mj_ist i n) := by
  intro L st hp r h
  unfold mj_ist at h
  (repeat' split at h) <;> first | exact mj_none h | exact mj_nx_inr h
theorem mj_oi_lst (i : Nat) (n : Nat) : mj_oi (mj_lst i n) := by
  intro L st hp r h
  unfold mj_lst at h
  (repeat' split at h) <;> first | exact mj_none h | exact mj_nx_inr h
theorem mj_oi_ast (i : Nat) (n : Nat) : mj_oi (mj_ast i n) := by
  intro L st hp r h
  unfold mj_ast at h
  (repeat' split at h) <;> first | exact mj_none h | exact mj_nx_inr h
theorem mj_oi_inc (i : Nat) (c : Int32) (n : Nat) : mj_oi (mj_inc i c n) := by
  intro L st hp r h
  unfold mj_inc at h
  (repeat' split at h) <;> first | exact mj_none h | exact mj_nx_inr h
theorem mj_oi_ii (f : Int32 → Int32 → Int32) (n : Nat) : mj_oi (mj_ii f n) := by
  intro L st hp r h
  unfold mj_ii at h
  (repeat' split at h) <;> first | exact mj_none h | exact mj_nx_inr h
theorem mj_oi_iz (f : Int32 → Int32 → Int32) (n : Nat) : mj_oi (mj_iz f n) := by
  intro L st hp r h
  unfold mj_iz at h
  (repeat' split at h) <;> first | exact mj_none h | exact mj_nx_inr h
theorem mj_oi_i1 (f : Int32 → Int32) (n : Nat) : mj_oi (mj_i1 f n) := by
  intro L st hp r h
  unfold mj_i1 at h
  (repeat' split at h) <;> first | exact mj_none h | exact mj_nx_inr h
theorem mj_oi_ll (f : Int64 → Int64 → Int64) (n : Nat) : mj_oi (mj_ll f n) := by
  intro L st hp r h
  unfold mj_ll at h
  (repeat' split at h) <;> first | exact mj_none h | exact mj_nx_inr h
theorem mj_oi_l1 (f : Int64 → Int64) (n : Nat) : mj_oi (mj_l1 f n) := by
  intro L st hp r h
  unfold mj_l1 at h
  (repeat' split at h) <;> first | exact mj_none h | exact mj_nx_inr h
theorem mj_oi_li (f : Int64 → Int32 → Int64) (n : Nat) : mj_oi (mj_li f n) := by
  intro L st hp r h
  unfold mj_li at h
  (repeat' split at h) <;> first | exact mj_none h | exact mj_nx_inr h
theorem mj_oi_i2l (n : Nat) : mj_oi (mj_i2l n) := by
  intro L st hp r h
  unfold mj_i2l at h
  (repeat' split at h) <;> first | exact mj_none h | exact mj_nx_inr h
theorem mj_oi_l2i (n : Nat) : mj_oi (mj_l2i n) := by
  intro L st hp r h
  unfold mj_l2i at h
  (repeat' split at h) <;> first | exact mj_none h | exact mj_nx_inr h
theorem mj_oi_lcm (n : Nat) : mj_oi (mj_lcm n) := by
  intro L st hp r h
  unfold mj_lcm at h
  (repeat' split at h) <;> first | exact mj_none h | exact mj_nx_inr h
theorem mj_oi_if (f : Int32 → Bool) (t : Nat) (n : Nat) : mj_oi (mj_if f t n) := by
  intro L st hp r h
  unfold mj_if at h
  (repeat' split at h) <;> first | exact mj_none h | exact mj_nx_inr h
theorem mj_oi_ic (f : Int32 → Int32 → Bool) (t : Nat) (n : Nat) : mj_oi (mj_ic f t n) := by
  intro L st hp r h
  unfold mj_ic at h
  (repeat' split at h) <;> first | exact mj_none h | exact mj_nx_inr h
theorem mj_oi_ifn (t : Nat) (n : Nat) : mj_oi (mj_ifn t n) := by
  intro L st hp r h
  unfold mj_ifn at h
  (repeat' split at h) <;> first | exact mj_none h | exact mj_nx_inr h
theorem mj_oi_go (t : Nat) : mj_oi (mj_go t) := by
  intro L st hp r h
  unfold mj_go at h
  (repeat' split at h) <;> first | exact mj_none h | exact mj_nx_inr h
theorem mj_oi_tsw (lo : Int) (hi : Int) (d : Nat) (ts : List Nat) : mj_oi (mj_tsw lo hi d ts) := by
  intro L st hp r h
  unfold mj_tsw at h
  (repeat' split at h) <;> first | exact mj_none h | exact mj_nx_inr h
theorem mj_oi_dup (n : Nat) : mj_oi (mj_dup n) := by
  intro L st hp r h
  unfold mj_dup at h
  (repeat' split at h) <;> first | exact mj_none h | exact mj_nx_inr h
theorem mj_oi_pop (n : Nat) : mj_oi (mj_pop n) := by
  intro L st hp r h
  unfold mj_pop at h
  (repeat' split at h) <;> first | exact mj_none h | exact mj_nx_inr h
theorem mj_oi_dx1 (n : Nat) : mj_oi (mj_dx1 n) := by
  intro L st hp r h
  unfold mj_dx1 at h
  (repeat' split at h) <;> first | exact mj_none h | exact mj_nx_inr h
theorem mj_oi_dx2 (n : Nat) : mj_oi (mj_dx2 n) := by
  intro L st hp r h
  unfold mj_dx2 at h
  (repeat' split at h) <;> first | exact mj_none h | exact mj_nx_inr h
theorem mj_oi_d2 (n : Nat) : mj_oi (mj_d2 n) := by
  intro L st hp r h
  unfold mj_d2 at h
  (repeat' split at h) <;> first | exact mj_none h | exact mj_nx_inr h
theorem mj_oi_d21 (n : Nat) : mj_oi (mj_d21 n) := by
  intro L st hp r h
  unfold mj_d21 at h
  (repeat' split at h) <;> first | exact mj_none h | exact mj_nx_inr h
theorem mj_oi_get (ci : Nat) (k : Nat) (n : Nat) : mj_oi (mj_get ci k n) := by
  intro L st hp r h
  unfold mj_get at h
  (repeat' split at h) <;> first | exact mj_none h | exact mj_nx_inr h
theorem mj_oi_put (ci : Nat) (k : Nat) (ty : FieldType) (n : Nat) : mj_oi (mj_put ci k ty n) := by
  intro L st hp r h
  unfold mj_put at h
  (repeat' split at h) <;> first | exact mj_none h | exact mj_nx_inr h
theorem mj_oi_nw (ci : Nat) (N : Nat) (fs : List Value) (n : Nat) : mj_oi (mj_nw ci N fs n) := by
  intro L st hp r h
  unfold mj_nw at h
  (repeat' split at h) <;> first | exact mj_none h | exact mj_nx_inr h
theorem mj_oi_nwi (t : Nat) (n : Nat) : mj_oi (mj_nwi t n) := by
  intro L st hp r h
  unfold mj_nwi at h
  (repeat' split at h) <;> first | exact mj_none h | exact mj_nx_inr h
theorem mj_oi_nwl (t : Nat) (n : Nat) : mj_oi (mj_nwl t n) := by
  intro L st hp r h
  unfold mj_nwl at h
  (repeat' split at h) <;> first | exact mj_none h | exact mj_nx_inr h
theorem mj_oi_nwq (t : Nat) (n : Nat) : mj_oi (mj_nwq t n) := by
  intro L st hp r h
  unfold mj_nwq at h
  (repeat' split at h) <;> first | exact mj_none h | exact mj_nx_inr h
theorem mj_oi_len (n : Nat) : mj_oi (mj_len n) := by
  intro L st hp r h
  unfold mj_len at h
  (repeat' split at h) <;> first | exact mj_none h | exact mj_nx_inr h
theorem mj_oi_iar (ty : FieldType) (n : Nat) : mj_oi (mj_iar ty n) := by
  intro L st hp r h
  unfold mj_iar at h
  (repeat' split at h) <;> first | exact mj_none h | exact mj_nx_inr h
theorem mj_oi_lar (n : Nat) : mj_oi (mj_lar n) := by
  intro L st hp r h
  unfold mj_lar at h
  (repeat' split at h) <;> first | exact mj_none h | exact mj_nx_inr h
theorem mj_oi_aar (n : Nat) : mj_oi (mj_aar n) := by
  intro L st hp r h
  unfold mj_aar at h
  (repeat' split at h) <;> first | exact mj_none h | exact mj_nx_inr h
theorem mj_oi_iaw (ty : FieldType) (n : Nat) : mj_oi (mj_iaw ty n) := by
  intro L st hp r h
  unfold mj_iaw at h
  (repeat' split at h) <;> first | exact mj_none h | exact mj_nx_inr h
theorem mj_oi_law (n : Nat) : mj_oi (mj_law n) := by
  intro L st hp r h
  unfold mj_law at h
  (repeat' split at h) <;> first | exact mj_none h | exact mj_nx_inr h
theorem mj_oi_aaw (n : Nat) : mj_oi (mj_aaw n) := by
  intro L st hp r h
  unfold mj_aaw at h
  (repeat' split at h) <;> first | exact mj_none h | exact mj_nx_inr h
theorem mj_oi_ob (n : Nat) : mj_oi (mj_ob n) := by
  intro L st hp r h
  unfold mj_ob at h
  (repeat' split at h) <;> first | exact mj_none h | exact mj_nx_inr h
theorem mj_oi_b {pc : Nat} {off : Int} {f : Nat → mj_O} (h : ∀ t, mj_oi (f t)) : mj_oi (mj_b pc off f) := by
  unfold mj_b
  split
  · exact h _
  · exact mj_oi_no
/-- an instruction that is no call and no return goes on -/
theorem mj_oi_ex (m : Nat) (i : ClassFile.Instr) (pc : Nat) : (∃ x, i = .invokestatic x ∨ i = .invokevirtual x ∨ i = .invokespecial x) ∨ (i = .ireturn ∨ i = .lreturn ∨ i = .areturn ∨ i = .return_) ∨ mj_oi (mj_ex m i pc) := by
  cases i with
  | invokestatic x => exact Or.inl ⟨x, Or.inl rfl⟩
  | invokevirtual x => exact Or.inl ⟨x, Or.inr (Or.inl rfl)⟩
  | invokespecial x => exact Or.inl ⟨x, Or.inr (Or.inr rfl)⟩
  | ireturn => exact Or.inr (Or.inl (Or.inl rfl))
  | lreturn => exact Or.inr (Or.inl (Or.inr (Or.inl rfl)))
  | areturn => exact Or.inr (Or.inl (Or.inr (Or.inr (Or.inl rfl))))
  | return_ => exact Or.inr (Or.inl (Or.inr (Or.inr (Or.inr rfl))))
  | ifCond cond off => exact Or.inr (Or.inr (by cases cond <;> exact mj_oi_b (fun t => mj_oi_if _ _ _)))
  | if_icmp cond off => exact Or.inr (Or.inr (by cases cond <;> exact mj_oi_b (fun t => mj_oi_ic _ _ _)))
  | ifnull off => exact Or.inr (Or.inr (mj_oi_b (fun t => mj_oi_ifn _ _)))
  | ifnonnull off => exact Or.inr (Or.inr (mj_oi_b (fun t => mj_oi_ifn _ _)))
  | goto off => exact Or.inr (Or.inr (mj_oi_b (fun t => mj_oi_go _)))
  | tableswitch d lo hi offs => exact Or.inr (Or.inr (by unfold mj_ex; dsimp only; split <;> first | exact mj_oi_tsw _ _ _ _ | exact mj_oi_no))
  | newarray ty => exact Or.inr (Or.inr (by cases ty <;> (unfold mj_ex; dsimp only; first | exact mj_oi_no | (split <;> first | exact mj_oi_nwi _ _ | exact mj_oi_nwl _ _ | exact mj_oi_no))))
  | ldc x => exact Or.inr (Or.inr (by unfold mj_ex; dsimp only; split <;> first | exact mj_oi_cst _ _ | exact mj_oi_no))
  | ldc2_w x => exact Or.inr (Or.inr (by unfold mj_ex; dsimp only; split <;> first | exact mj_oi_cst _ _ | exact mj_oi_no))
  | getfield x => exact Or.inr (Or.inr (by unfold mj_ex; dsimp only; split <;> first | exact mj_oi_get _ _ _ | exact mj_oi_no))
  | putfield x => exact Or.inr (Or.inr (by unfold mj_ex; dsimp only; (repeat' split) <;> first | exact mj_oi_put _ _ _ _ | exact mj_oi_no))
  | new x => exact Or.inr (Or.inr (by unfold mj_ex; dsimp only; split <;> first | exact mj_oi_nw _ _ _ _ | exact mj_oi_no))
  | anewarray x => exact Or.inr (Or.inr (by unfold mj_ex; dsimp only; split <;> first | exact mj_oi_nwq _ _ | exact mj_oi_no))
  | _ => exact Or.inr (Or.inr (by first | exact mj_oi_no | exact mj_oi_cst _ _ | exact mj_oi_ild _ _ | exact mj_oi_lld _ _ | exact mj_oi_ald _ _ | exact mj_oi_ist _ _ | exact mj_oi_lst _ _ | exact mj_oi_ast _ _ | exact mj_oi_inc _ _ _ | exact mj_oi_ii _ _ | exact mj_oi_iz _ _ | exact mj_oi_i1 _ _ | exact mj_oi_ll _ _ | exact mj_oi_l1 _ _ | exact mj_oi_li _ _ | exact mj_oi_i2l _ | exact mj_oi_l2i _ | exact mj_oi_lcm _ | exact mj_oi_if _ _ _ | exact mj_oi_ic _ _ _ | exact mj_oi_ifn _ _ | exact mj_oi_go _ | exact mj_oi_tsw _ _ _ _ | exact mj_oi_dup _ | exact mj_oi_pop _ | exact mj_oi_dx1 _ | exact mj_oi_dx2 _ | exact mj_oi_d2 _ | exact mj_oi_d21 _ | exact mj_oi_get _ _ _ | exact mj_oi_put _ _ _ _ | exact mj_oi_nw _ _ _ _ | exact mj_oi_nwi _ _ | exact mj_oi_nwl _ _ | exact mj_oi_nwq _ _ | exact mj_oi_len _ | exact mj_oi_iar _ _ | exact mj_oi_lar _ | exact mj_oi_aar _ | exact mj_oi_iaw _ _ | exact mj_oi_law _ | exact mj_oi_aaw _ | exact mj_oi_ob _))
def mj_ws (m : Nat) : List Cond := .code (mj_y m) (mj_code m) (mj_mxl m) (mj_ret m) :: mj_words
def mj_Pc (G : mj_G) (vs : List Value) (hp : mj_H) : Array Value → State → Prop := fun a U => a = vs.toArray ∧ mj_rep G hp U.heap ∧ mj_K G U ∧ va_X G.2.2.1 G.2.2.2.1 G.2.2.2.2.1 U U.heap
def mj_Qc (G : mj_G) (r : Option Value) (hp1 : mj_H) : Array Value → State → Outcome → State → Prop := fun _ st o t => o = .returned r ∧ mj_rep G hp1 t.heap ∧ ∀ q : Nat, q < G.2.2.2.2.2 → t.heap[q]? = st.heap[q]?
theorem mj_tk_inv : ∀ (k : Nat) (acc st vs rest : List Value), mj_tk k acc st = some (vs, rest) → ∃ As : List Value, vs = As ++ acc ∧ As.length = k ∧ st = As.reverse ++ rest := by
  intro k
  induction k with
  | zero =>
    intro acc st vs rest h
    simp only [mj_tk, Option.some.injEq, Prod.mk.injEq] at h
    obtain ⟨rfl, rfl⟩ := h
    exact ⟨[], rfl, rfl, rfl⟩
  | succ k ih =>
    intro acc st vs rest h
    cases st with
    | nil => simp [mj_tk] at h
    | cons v st =>
      rw [mj_tk] at h
      obtain ⟨As, h1, h2, h3⟩ := ih _ _ _ _ h
      refine ⟨As ++ [v], by rw [h1]; simp, by simp [h2], ?_⟩
      rw [h3]
      simp
/-- what a return's step says -/
theorem mj_ret_inv {m pc : Nat} {i : ClassFile.Instr} {L : mj_L} {st : List Value} {hp : mj_H} {q : (Nat × List Value × List Value × Nat) ⊕ Option Value} (h : mj_ex m i pc L st hp = some (.inr q)) (hi : i = .ireturn ∨ i = .lreturn ∨ i = .areturn ∨ i = .return_) :
    ((i = .ireturn ∧ ∃ (ty : FieldType) (v : Int32), mj_ret m = some ty ∧ st = [.int v] ∧ narrow ty (.int v) = .int v ∧ q = .inr (some (.int v))) ∨ (i = .lreturn ∧ ∃ v : Int64, mj_ret m = some .long ∧ st = [.long v] ∧ q = .inr (some (.long v))) ∨
      (i = .areturn ∧ ∃ (rt : FieldType) (v : Value), mj_ret m = some rt ∧ ((∃ n, rt = .object n) ∨ ∃ t, rt = .array t) ∧ (v = .null ∨ ∃ a, v = .ref a) ∧ st = [v] ∧ q = .inr (some v)) ∨ (i = .return_ ∧ mj_ret m = none ∧ st = [] ∧ q = .inr none)) ∧ ∃ v, True ∧ q = .inr v := by
  have ra : mj_rta L st hp = some (.inr q) → ∃ v : Value, (v = .null ∨ ∃ a, v = .ref a) ∧ st = [v] ∧ q = .inr (some v) := by
    intro h
    unfold mj_rta at h
    split at h
    · cases h
      exact ⟨_, Or.inr ⟨_, rfl⟩, rfl, rfl⟩
    · cases h
      exact ⟨_, Or.inl rfl, rfl, rfl⟩
    · exact mj_none h
  rcases hi with rfl | rfl | rfl | rfl
  · unfold mj_ex at h
    dsimp only at h
    cases hr : mj_ret m with
    | none => rw [hr] at h; exact mj_none h
    | some ty =>
      rw [hr] at h
      dsimp only at h
      unfold mj_rti at h
      split at h
      · split at h
        · rename_i v hn
          cases h
          exact ⟨Or.inl ⟨rfl, ty, v, rfl, rfl, hn, rfl⟩, _, trivial, rfl⟩
        · exact mj_none h
      · exact mj_none h
  · unfold mj_ex at h
    dsimp only at h
    by_cases hr : mj_ret m = some .long
    · rw [if_pos hr] at h
      unfold mj_rtl at h
      split at h
      · cases h
        exact ⟨Or.inr (Or.inl ⟨rfl, _, hr, rfl, rfl⟩), _, trivial, rfl⟩
      · exact mj_none h
    · rw [if_neg hr] at h
      exact mj_none h
  · unfold mj_ex at h
    dsimp only at h
    cases hr : mj_ret m with
    | none => rw [hr] at h; exact mj_none h
    | some ty =>
      rw [hr] at h
      cases ty with
      | object C =>
        obtain ⟨v, h1, h2, h3⟩ := ra h
        exact ⟨Or.inr (Or.inr (Or.inl ⟨rfl, _, v, rfl, Or.inl ⟨_, rfl⟩, h1, h2, h3⟩)), _, trivial, h3⟩
      | array u =>
        obtain ⟨v, h1, h2, h3⟩ := ra h
        exact ⟨Or.inr (Or.inr (Or.inl ⟨rfl, _, v, rfl, Or.inr ⟨_, rfl⟩, h1, h2, h3⟩)), _, trivial, h3⟩
      | _ => exact mj_none h
  · unfold mj_ex at h
    dsimp only at h
    by_cases hr : mj_ret m = none
    · rw [if_pos hr] at h
      unfold mj_rtv at h
      split at h
      · cases h
        exact ⟨Or.inr (Or.inr (Or.inr ⟨rfl, hr, rfl, rfl⟩)), _, trivial, rfl⟩
      · exact mj_none h
    · rw [if_neg hr] at h
      exact mj_none h
theorem mj_inv_ret {m pc : Nat} {i : ClassFile.Instr} {L : mj_L} {st : List Value} {hp : mj_H} {r : Option Value} {x : Nat} (h : mj_ex m i pc L st hp = some (.inr (.inr r))) (hi : i = .invokestatic x ∨ i = .invokevirtual x ∨ i = .invokespecial x) : False := by
  have inv : ∀ {m1 kd n1 : Nat}, mj_inv m m1 kd n1 L st hp = some (.inr (.inr r)) → False := by
    intro m1 kd n1 hv
    unfold mj_inv at hv
    split at hv
    · split at hv
      · exact mj_oi_ob _ _ _ _ _ hv
      · exact mj_none hv
    · split at hv
      · split at hv
        · unfold mj_ivs at hv
          (repeat' split at hv) <;> first | exact mj_none hv | cases hv
        · split at hv
          · unfold mj_ivv at hv
            (repeat' split at hv) <;> first | exact mj_none hv | cases hv
          · split at hv
            · unfold mj_ivi at hv
              (repeat' split at hv) <;> first | exact mj_none hv | cases hv
            · exact mj_none hv
      · exact mj_none hv
  rcases hi with rfl | rfl | rfl
  · unfold mj_ex at h
    dsimp only at h
    cases hf : mj_find mj_ml (mj_on m) x with
    | none => rw [hf] at h; exact mj_none h
    | some q =>
      obtain ⟨m1, kd⟩ := q
      rw [hf] at h
      dsimp only at h
      by_cases hkd : kd ≤ 1
      · rw [if_pos hkd] at h; exact inv h
      · rw [if_neg hkd] at h; exact mj_none h
  · unfold mj_ex at h
    dsimp only at h
    cases hf : mj_find mj_ml (mj_on m) x with
    | none => rw [hf] at h; exact mj_none h
    | some q =>
      obtain ⟨m1, kd⟩ := q
      rw [hf] at h
      dsimp only at h
      by_cases hkd : 2 ≤ kd ∧ kd ≤ 3
      · rw [if_pos hkd] at h; exact inv h
      · rw [if_neg hkd] at h; exact mj_none h
  · unfold mj_ex at h
    dsimp only at h
    cases hf : mj_find mj_ml (mj_on m) x with
    | none => rw [hf] at h; exact mj_none h
    | some q =>
      obtain ⟨m1, kd⟩ := q
      rw [hf] at h
      dsimp only at h
      by_cases hkd : 4 ≤ kd
      · rw [if_pos hkd] at h; exact inv h
      · rw [if_neg hkd] at h; exact mj_none h
/-- what a call's step says -/
theorem mj_call_inv {m pc m' n : Nat} {i : ClassFile.Instr} {L : mj_L} {st vs rest : List Value} {hp : mj_H} (h : mj_ex m i pc L st hp = some (.inr (.inl (m', vs, rest, n)))) :
    ∃ x kd, mj_find mj_ml (mj_on m) x = some (m', kd) ∧ ¬ kd = 5 ∧ (mj_hgt m' < mj_hgt m ∧ mj_lr m' + mj_mxl m' + 19 ≤ mj_lr m) ∧ n = pc + 3 ∧ mj_cat rest ≤ 8 ∧
      ((kd ≤ 1 ∧ i = .invokestatic x ∧ vs.length = mj_na m' ∧ st = vs.reverse ++ rest) ∨
       ∃ (a : Nat) (As : List Value), vs = .ref a :: As ∧ As.length = mj_na m' ∧ st = As.reverse ++ .ref a :: rest ∧ ((2 ≤ kd ∧ kd ≤ 3 ∧ i = .invokevirtual x ∧ ∃ fs, hp.1 a = some (.inr (mj_ci m', fs))) ∨ (kd = 4 ∧ i = .invokespecial x))) := by
  have inv : ∀ {m1 kd n1 : Nat}, mj_inv m m1 kd n1 L st hp = some (.inr (.inl (m', vs, rest, n))) → m1 = m' ∧ n1 = n ∧ ¬ kd = 5 ∧ (mj_hgt m' < mj_hgt m ∧ mj_lr m' + mj_mxl m' + 19 ≤ mj_lr m) ∧ mj_cat rest ≤ 8 ∧
      ((kd ≤ 1 ∧ vs.length = mj_na m' ∧ st = vs.reverse ++ rest) ∨
       ∃ (a : Nat) (As : List Value), vs = .ref a :: As ∧ As.length = mj_na m' ∧ st = As.reverse ++ .ref a :: rest ∧ ((2 ≤ kd ∧ kd ≤ 3 ∧ ∃ fs, hp.1 a = some (.inr (mj_ci m', fs))) ∨ kd = 4)) := by
    intro m1 kd n1 hv
    unfold mj_inv at hv
    split at hv
    · split at hv
      · exact (mj_oi_ob _ _ _ _ _ hv).elim
      · exact mj_none hv
    · rename_i h5
      split at hv
      · rename_i hh
        split at hv
        · rename_i hk
          unfold mj_ivs at hv
          split at hv
          · rename_i vs1 rest1 htk
            split at hv
            · rename_i hcat
              cases hv
              obtain ⟨As, e1, e2, e3⟩ := mj_tk_inv _ _ _ _ _ htk
              rw [List.append_nil] at e1
              subst e1
              exact ⟨rfl, rfl, h5, hh, hcat, Or.inl ⟨hk, e2, e3⟩⟩
            · exact mj_none hv
          · exact mj_none hv
        · rename_i hk1
          split at hv
          · rename_i hk3
            unfold mj_ivv at hv
            split at hv
            · rename_i vs1 a rest1 htk
              split at hv
              · rename_i cj fs hc
                split at hv
                · rename_i hcat
                  cases hv
                  obtain ⟨As, e1, e2, e3⟩ := mj_tk_inv _ _ _ _ _ htk
                  rw [List.append_nil] at e1
                  subst e1
                  exact ⟨rfl, rfl, h5, hh, hcat.2, Or.inr ⟨a, _, rfl, e2, e3, Or.inl ⟨by omega, hk3, fs, by rw [hc, hcat.1]⟩⟩⟩
                · exact mj_none hv
              · exact mj_none hv
            · exact mj_none hv
          · split at hv
            · rename_i hk4
              unfold mj_ivi at hv
              split at hv
              · rename_i vs1 a rest1 htk
                split at hv
                · rename_i hcat
                  cases hv
                  obtain ⟨As, e1, e2, e3⟩ := mj_tk_inv _ _ _ _ _ htk
                  rw [List.append_nil] at e1
                  subst e1
                  exact ⟨rfl, rfl, h5, hh, hcat, Or.inr ⟨a, _, rfl, e2, e3, Or.inr hk4⟩⟩
                · exact mj_none hv
              · exact mj_none hv
            · exact mj_none hv
      · exact mj_none hv
  rcases mj_oi_ex m i pc with ⟨x, rfl | rfl | rfl⟩ | (rfl | rfl | rfl | rfl) | hoi
  · unfold mj_ex at h
    dsimp only at h
    cases hf : mj_find mj_ml (mj_on m) x with
    | none => rw [hf] at h; exact mj_none h
    | some q =>
      obtain ⟨m1, kd⟩ := q
      rw [hf] at h
      dsimp only at h
      by_cases hkd : kd ≤ 1
      · rw [if_pos hkd] at h
        obtain ⟨rfl, rfl, h5, hh, hcat, hc | ⟨a, As, q1, q2, q3, q4⟩⟩ := inv h
        · exact ⟨x, kd, hf, h5, hh, rfl, hcat, Or.inl ⟨hc.1, rfl, hc.2⟩⟩
        · omega
      · rw [if_neg hkd] at h
        exact mj_none h
  · unfold mj_ex at h
    dsimp only at h
    cases hf : mj_find mj_ml (mj_on m) x with
    | none => rw [hf] at h; exact mj_none h
    | some q =>
      obtain ⟨m1, kd⟩ := q
      rw [hf] at h
      dsimp only at h
      by_cases hkd : 2 ≤ kd ∧ kd ≤ 3
      · rw [if_pos hkd] at h
        obtain ⟨rfl, rfl, h5, hh, hcat, hc | ⟨a, As, q1, q2, q3, q4⟩⟩ := inv h
        · omega
        · rcases q4 with ⟨z1, z2, z3⟩ | z
          · exact ⟨x, kd, hf, h5, hh, rfl, hcat, Or.inr ⟨a, As, q1, q2, q3, Or.inl ⟨z1, z2, rfl, z3⟩⟩⟩
          · omega
      · rw [if_neg hkd] at h
        exact mj_none h
  · unfold mj_ex at h
    dsimp only at h
    cases hf : mj_find mj_ml (mj_on m) x with
    | none => rw [hf] at h; exact mj_none h
    | some q =>
      obtain ⟨m1, kd⟩ := q
      rw [hf] at h
      dsimp only at h
      by_cases hkd : 4 ≤ kd
      · rw [if_pos hkd] at h
        obtain ⟨rfl, rfl, h5, hh, hcat, hc | ⟨a, As, q1, q2, q3, q4⟩⟩ := inv h
        · omega
        · rcases q4 with ⟨z1, z2, z3⟩ | z
          · omega
          · exact ⟨x, kd, hf, h5, hh, rfl, hcat, Or.inr ⟨a, As, q1, q2, q3, Or.inr ⟨z, rfl⟩⟩⟩
      · rw [if_neg hkd] at h
        exact mj_none h
  · obtain ⟨-, v, -, hv⟩ := mj_ret_inv h (Or.inl rfl)
    cases hv
  · obtain ⟨-, v, -, hv⟩ := mj_ret_inv h (Or.inr (Or.inl rfl))
    cases hv
  · obtain ⟨-, v, -, hv⟩ := mj_ret_inv h (Or.inr (Or.inr (Or.inl rfl)))
    cases hv
  · obtain ⟨-, v, -, hv⟩ := mj_ret_inv h (Or.inr (Or.inr (Or.inr rfl)))
    cases hv
  · exact (hoi _ _ _ _ h).elim
section MJC
variable {p : Program} {l : Launch} {e : Env} {R : Room} {s : State} {mi : MethodId} {args : Array Value} {below : List Frame} {meth : Method} {c : Code} {Q : State → Prop} {G : mj_G} {m n0 k0 pc pc' : Nat} {L L' : mj_L} {st st' : List Value} {hp hp' : mj_H}
theorem mj_back {H : Heap} {locs : List Loc} {cells slots mc ms : Nat} {ls : Array Slot} {a : Array Value} {rest st0 : List Value} {r : Option Value} {hp1 : mj_H} (hr : va_Run p l e R s mi args below meth c H locs cells slots mc ms (F0 mi pc ls st0) rest (mj_Qc G r hp1 a) (fun q => G.2.2.2.2.2 ≤ q))
    (kk : ∀ (H1 : Heap) (locs1 : List Loc), mj_rep G hp1 H1 → (∀ q : Nat, q < G.2.2.2.2.2 → H1[q]? = H[q]?) → (∀ q ∈ locs1, q ∈ locs ∨ G.2.2.2.2.2 ≤ q.base) → W p l e R s mi args below meth c H1 locs1 (cells + mc) (slots + ms) Q (F0 mi (pc + 3) ls (r.toList ++ rest))) : W p l e R s mi args below meth c H locs cells slots Q (F0 mi pc ls st0) := by
  intro T hT X
  obtain ⟨v, st₀, t, T', Lc, h0, X', hL, e1, e2, ⟨hv, hrep, hk⟩, st⟩ := hr T hT X
  cases hv
  obtain ⟨t2, a1, b1⟩ := kk T'.heap (locs ++ Lc) (by rw [e1]; exact hrep) (fun q hq => by rw [e1, hk q hq, h0]) (fun q hq => by
    rcases List.mem_append.mp hq with h | h
    · exact Or.inl h
    · exact Or.inr (hL q h)) T' rfl X'
  exact ⟨t2, st t2 a1, b1⟩
theorem mj_goodIn {m' : Nat} (h : Cond.code (mj_y m') (mj_code m') (mj_mxl m') (mj_ret m') ∈ mj_words) : GoodIn mj_words (mj_ws m') := by
  have key : ∀ w ∈ mj_words, w ∈ mj_words ∧ ((w.onTables && w.keeps) = true ∨ ∃ ty, w = .arrayClass ty) := fun w hw => ⟨hw, good_of_word (List.mem_filter.mp hw).2⟩
  intro w hw
  rcases List.mem_cons.mp hw with rfl | hw
  · exact key _ h
  · exact key w hw
theorem mj_blind {vs : List Value} {hp : mj_H} : FrameBlind (mj_Pc G vs hp) := by
  intro a U g mk h
  obtain ⟨h1, h2, h3, h4⟩ := h
  exact ⟨h1, h2, h3.same rfl, va_X.moved (Vm.Alike.refl U.vm) h4⟩
/-- a call, by the callee's contract -/
theorem mj_go_call (A : mj_At G m p s mi args meth c) (hF : mj_hgt m ≤ R.frames ∧ mj_lr m ≤ R.locals) {i : ClassFile.Instr} {len m' n mc ms : Nat} {vs rest : List Value} {r : Option Value} {hp1 : mj_H} (hd : decode (mj_code m) pc = .ok (i, len)) (hl : mj_lok i len = true) (h : mj_ex m i pc L st hp = some (.inr (.inl (m', vs, rest, n))))
    (hM : Met l (mj_y m') (mj_ws m') { frames := mj_hgt m', cells := mc, slots := ms, locals := mj_lr m' } (mj_Pc G vs hp) (mj_Qc G r hp1) mc ms (fun q => G.2.2.2.2.2 ≤ q)) (hmc : hp.2.1 + mc = hp1.2.1) (hms : hp.2.2 + ms = hp1.2.2) (hR : hp1.2.1 ≤ n0 + R.cells ∧ hp1.2.2 ≤ k0 + R.slots)
    (kk : mj_Go G p l e R s mi args below meth c Q m n0 k0 n L (r.toList ++ rest) hp1) : mj_Go G p l e R s mi args below meth c Q m n0 k0 pc L st hp := by
  obtain ⟨x, kd, hf, h5, hh, hn, hcat, hst⟩ := mj_call_inv h
  subst hn
  obtain ⟨w1, w2, w3, w4, w5, w7, w8, w9, w10, w11, w12, w13⟩ := mj_ok_ml (mj_find_mem hf) h5
  obtain ⟨hx, hb, hml, hown, hts, hK, hnm, hX, hbb⟩ := A
  intro H locs cells slots ls hI
  have g5 := hI.2.2.2.2.1
  have g6 := hI.2.2.2.2.2
  have hfit : cells + mc ≤ R.cells ∧ slots + ms ≤ R.slots := ⟨by omega, by omega⟩
  have hroom : ({ frames := mj_hgt m', cells := mc, slots := ms, locals := mj_lr m' } : Room).frames + 1 ≤ R.frames ∧ 8 + (mj_mxl m' + 11) + ({ frames := mj_hgt m', cells := mc, slots := ms, locals := mj_lr m' } : Room).locals ≤ R.locals := ⟨by show mj_hgt m' + 1 ≤ R.frames; omega, by show 8 + (mj_mxl m' + 11) + mj_lr m' ≤ R.locals; omega⟩
  have hpre : ∀ U : State, U.heap = H → s.WarmedH U.vm → mj_Pc G vs hp vs.toArray U := fun U hU hW => ⟨rfl, by rw [hU]; exact hI.2.1, hK.warm hW, va_X.moved hW.alike (by rw [hU]; exact hX.kept (hI.2.2.1 _ hbb))⟩
  have hgd := mj_goodIn w1
  have hini := hts _ w2
  have fin : ∀ (H1 : Heap) (locs1 : List Loc), mj_rep G hp1 H1 → (∀ q : Nat, q < G.2.2.2.2.2 → H1[q]? = H[q]?) → (∀ q ∈ locs1, q ∈ locs ∨ G.2.2.2.2.2 ≤ q.base) → W p l e R s mi args below meth c H1 locs1 (cells + mc) (slots + ms) Q (F0 mi (pc + 3) ls (r.toList ++ rest)) := by
    intro H1 locs1 q1 q2 q3
    refine kk _ _ _ _ _ ⟨hI.1, q1, fun q hq => (q2 q hq).trans (hI.2.2.1 q hq), fun q hq => ?_, by omega, by omega⟩
    rcases q3 q hq with q4 | q4
    · exact hI.2.2.2.1 q q4
    · exact q4
  have hcat' : (rest.map fun v => v.category).sum ≤ 8 := hcat
  rcases hst with ⟨k1, hi, hvl, hstk⟩ | ⟨a, As, rfl, hAl, hstk, hkind⟩
  · subst hi
    obtain rfl : len = 3 := mj_lk hl
    by_cases hk0 : kd = 0
    · have cb : CallB R s args (mj_own m) x (mj_y m') (mj_code m') (mj_mxl m') (mj_ret m') (mj_ws m') { frames := mj_hgt m', cells := mc, slots := ms, locals := mj_lr m' } mc ms (mj_na m') := callB_of (Ts := mj_words) _ hts hgd rfl rfl rfl hini (hts _ (w7 (Or.inl hk0))) w3 hroom
      exact mj_back (va_runS (As := vs) (rest := rest) ⟨hx, hb, hml, hown, hts⟩ hM ⟨cb, hts _ (w9 k1)⟩ ⟨mj_blind, hpre⟩ rfl hvl hI.1.2.1 hstk (lv_room hcat') hd hfit) fin
    · have hnest : va_Nw (.methodLinkNest (mj_own m) x (mj_y m') mj_host) s := hK.2.1 (mj_cn (mj_on m), x, mj_y m', mj_host) (w8 (by omega))
      have cb : va_CN R s args (mj_own m) x (mj_y m') mj_host (mj_code m') (mj_mxl m') (mj_ret m') (mj_ws m') { frames := mj_hgt m', cells := mc, slots := ms, locals := mj_lr m' } mc ms (mj_na m') := va_cnB (Ts := mj_words) _ hts hgd rfl rfl rfl hnest hini w3 hroom
      exact mj_back (va_runSN (As := vs) (rest := rest) ⟨hx, hb, hml, hown, hts⟩ hM ⟨cb, hts _ (w9 k1), trivial⟩ ⟨mj_blind, hpre⟩ rfl hvl hI.1.2.1 hstk (lv_room hcat') hd hfit) fin
  · rcases hkind with ⟨k2, k3, hi, fs, hfs⟩ | ⟨k4, hi⟩
    · subst hi
      obtain rfl : len = 3 := mj_lk hl
      obtain ⟨y1, y2, y3⟩ := w11 (by omega)
      obtain ⟨rw', hrw, z1, z2, z3⟩ := mj_cl_of y3
      have hrecv : ∃ cellB : Cell, H[a]? = some cellB ∧ cellB.vm.isStatics = false ∧ s.vm.findClass (mj_y m').cls = some cellB.cls := by
        have := va_recv hK.1 (mj_P1 (hI.2.1.2.2 a _ hfs).o.2) hrw (q0 := 0) rfl
        rw [← z1, y2] at this
        exact this
      by_cases hk0 : kd = 2
      · have cb : CallB R s args (mj_own m) x (mj_y m') (mj_code m') (mj_mxl m') (mj_ret m') (mj_ws m') { frames := mj_hgt m', cells := mc, slots := ms, locals := mj_lr m' } mc ms (mj_na m') := callB_of (Ts := mj_words) _ hts hgd rfl rfl rfl hini (hts _ (w7 (Or.inr (Or.inl hk0)))) w3 hroom
        exact mj_back (va_runV (C := (mj_y m').cls) (As := As) (rest := rest) ⟨hx, hb, hml, hown, hts⟩ hM ⟨cb, hts _ (w10 (by omega)), hts _ y1⟩ ⟨mj_blind, hrecv, hpre⟩ rfl hAl hI.1.2.1 hstk (lv_room hcat') hd hfit) fin
      · have hnest : va_Nw (.methodLinkNest (mj_own m) x (mj_y m') mj_host) s := hK.2.1 (mj_cn (mj_on m), x, mj_y m', mj_host) (w8 (by omega))
        have cb : va_CN R s args (mj_own m) x (mj_y m') mj_host (mj_code m') (mj_mxl m') (mj_ret m') (mj_ws m') { frames := mj_hgt m', cells := mc, slots := ms, locals := mj_lr m' } mc ms (mj_na m') := va_cnB (Ts := mj_words) _ hts hgd rfl rfl rfl hnest hini w3 hroom
        exact mj_back (va_runVN (C := (mj_y m').cls) (As := As) (rest := rest) ⟨hx, hb, hml, hown, hts⟩ hM ⟨cb, hts _ (w10 (by omega)), hts _ y1⟩ ⟨mj_blind, hrecv, hpre⟩ rfl hAl hI.1.2.1 hstk (lv_room hcat') hd hfit) fin
    · subst hi
      obtain rfl : len = 3 := mj_lk hl
      obtain ⟨y1, y2⟩ := w12 k4
      have cb : CallB R s args (mj_own m) x (mj_y m') (mj_code m') (mj_mxl m') none (mj_ws m') { frames := mj_hgt m', cells := mc, slots := ms, locals := mj_lr m' } mc ms (mj_na m') := callB_of (Ts := mj_words) _ hts hgd (by rw [← y2]; rfl) rfl rfl hini (hts _ (w7 (Or.inr (Or.inr k4)))) w3 hroom
      exact mj_back (va_runI (As := As) (rest := rest) ⟨hx, hb, hml, hown, hts⟩ hM ⟨cb, y1, hts _ (w10 (by omega))⟩ ⟨mj_blind, hpre⟩ rfl hAl hI.1.2.1 hstk (lv_room hcat') hd hfit) fin
/-- a return, at a method's end -/
theorem mj_end (A : mj_At G m p s mi args meth c) (hr : meth.sig.returnType = mj_ret m) (hlocks : meth.locks = false) {mc ms : Nat} {r : Option Value} {hp1 : mj_H} (hmc : n0 + mc = hp1.2.1) (hms : k0 + ms = hp1.2.2) (h : mj_step m pc L st hp1 = some (.inr (.inr r))) : mj_Go G p l e R s mi args below meth c (MQ below (mj_Qc G r hp1) args s mc ms (fun q => G.2.2.2.2.2 ≤ q)) m n0 k0 pc L st hp1 := by
  obtain ⟨i, len, hd, hl, h⟩ := mj_step_inv h
  obtain ⟨hx, hb, hml, hown, hts, hK, hnm, hX, hbb⟩ := A
  intro H locs cells slots ls hI
  obtain rfl : cells = mc := by have := hI.2.2.2.2.1; omega
  obtain rfl : slots = ms := by have := hI.2.2.2.2.2; omega
  have hq : ∀ t : State, t.heap = H → s.WarmedH t.vm → mj_Qc G r hp1 args s (.returned r) t := fun t ht _ => ⟨rfl, by rw [ht]; exact hI.2.1, fun q hq => by rw [ht]; exact hI.2.2.1 q hq⟩
  rcases mj_oi_ex m i pc with ⟨x, hi⟩ | hi | hoi
  · exfalso
    have hv := mj_inv_ret h hi
    exact hv
  · obtain ⟨hc, -⟩ := mj_ret_inv h hi
    rcases hc with ⟨rfl, ty, v, hty, rfl, hn, hq2⟩ | ⟨rfl, v, hty, rfl, hq2⟩ | ⟨rfl, rt, v, hty, hrt, hv, rfl, hq2⟩ | ⟨rfl, hty, rfl, hq2⟩
    · cases hq2
      obtain rfl : len = 1 := mj_lk hl
      exact W.zret hx hb (hr.trans hty) hn hq hI.2.2.2.1 hd hlocks
    · cases hq2
      obtain rfl : len = 1 := mj_lk hl
      exact W.lret hx hb (hr.trans hty) hq hI.2.2.2.1 hd hlocks
    · cases hq2
      obtain rfl : len = 1 := mj_lk hl
      exact W.aret hx hb (hr.trans hty) hrt hv hq hI.2.2.2.1 hd hlocks
    · cases hq2
      obtain rfl : len = 1 := mj_lk hl
      exact W.vret hx hb (hr.trans hty) hq hI.2.2.2.1 hd hlocks
  · exact (hoi _ _ _ _ h).elim
end MJC
/-- THE RUN: where the small machine comes to its end, the Statement's machine comes there -/
theorem mj_sound {l : Launch} {G : mj_G} (hbb : G.2.2.1 < G.2.2.2.2.2) : ∀ (f m pc : Nat) (L : mj_L) (st : List Value) (hp : mj_H) (r : Option Value) (hp1 : mj_H), mj_run f m pc L st hp = some (r, hp1) → ∀ {p : Program} {e : Env} {R : Room} {s : State} {mi : MethodId} {args : Array Value} {below : List Frame} {meth : Method} {c : Code} {Q : State → Prop} {n0 k0 : Nat},
    mj_At G m p s mi args meth c → hp1.2.1 ≤ n0 + R.cells ∧ hp1.2.2 ≤ k0 + R.slots → mj_hgt m ≤ R.frames ∧ mj_lr m ≤ R.locals → (∀ (pc : Nat) (L : mj_L) (st : List Value), mj_step m pc L st hp1 = some (.inr (.inr r)) → mj_Go G p l e R s mi args below meth c Q m n0 k0 pc L st hp1) → mj_Go G p l e R s mi args below meth c Q m n0 k0 pc L st hp := by
  intro f
  induction f with
  | zero => intro m pc L st hp r hp1 h; simp [mj_run] at h
  | succ f ih =>
    intro m pc L st hp r hp1 h p e R s mi args below meth c Q n0 k0 A hR hF hend
    rw [mj_run] at h
    cases hs : mj_step m pc L st hp with
    | none => simp [hs] at h
    | some q =>
      rw [hs] at h
      rcases q with ⟨pc', L', st', hp2⟩ | ⟨m', vs, rest, n⟩ | r'
      · obtain ⟨i, len, hd, hl, hx⟩ := mj_step_inv hs
        have hg := mj_grow _ _ _ _ _ _ _ _ h
        exact mj_next A ⟨Nat.le_trans hg.1 hR.1, Nat.le_trans hg.2 hR.2⟩ hF hd hl hx (ih _ _ _ _ _ _ _ h A hR hF hend)
      · dsimp only at h
        by_cases hlen : (mj_lay0 vs).length ≤ mj_mxl m'
        · rw [if_pos hlen] at h
          cases hr : mj_run f m' 0 (mj_lay (mj_mxl m') vs) [] hp with
          | none => simp [hr] at h
          | some y =>
            obtain ⟨r1, hp2⟩ := y
            rw [hr] at h
            dsimp only at h
            obtain ⟨i, len, hd, hl, hx⟩ := mj_step_inv hs
            obtain ⟨x, kd, hf, h5, hh, hn, hcat, -⟩ := mj_call_inv hx
            obtain ⟨w1, w2, w3, w4, w5, -⟩ := mj_ok_ml (mj_find_mem hf) h5
            have g1 := mj_grow _ _ _ _ _ _ _ _ hr
            have g2 := mj_grow _ _ _ _ _ _ _ _ h
            obtain ⟨mc, hmc⟩ : ∃ mc, hp.2.1 + mc = hp2.2.1 := ⟨hp2.2.1 - hp.2.1, by omega⟩
            obtain ⟨ms, hms⟩ : ∃ ms, hp.2.2 + ms = hp2.2.2 := ⟨hp2.2.2 - hp.2.2, by omega⟩
            have hM : Met l (mj_y m') (mj_ws m') { frames := mj_hgt m', cells := mc, slots := ms, locals := mj_lr m' } (mj_Pc G vs hp) (mj_Qc G r1 hp2) mc ms (fun q => G.2.2.2.2.2 ≤ q) := by
              refine va_MetF (cc := mj_code m') (maxL := mj_mxl m') (ret := mj_ret m') w4 rfl ?_
              intro p e s mi args below meth c s₁ B hml hv
              obtain ⟨rfl, hrep, hK, hX⟩ := hv
              rw [lg_entry_eq]
              have A1 : mj_At G m' p s mi vs.toArray meth c := ⟨B.exec, B.bytes, hml, by rw [w5]; exact findClass_of_methodNamed B.named, fun w hw => atoms_spec (ws := mj_ws m') B.pre w (List.mem_cons_of_mem _ hw), hK, (name_of_methodNamed B.named B.method).1, hX, hbb⟩
              exact ih m' 0 _ [] hp r1 hp2 hr A1 (n0 := hp.2.1) (k0 := hp.2.2) ⟨by show hp2.2.1 ≤ hp.2.1 + mc; omega, by show hp2.2.2 ≤ hp.2.2 + ms; omega⟩ ⟨Nat.le_refl _, Nat.le_refl _⟩ (fun pc L st hst => mj_end A1 B.returns B.notSynchronized hmc hms hst) s.heap [] 0 0 _ ⟨mj_lay_has hlen, hrep, fun _ _ => rfl, fun _ h => absurd h List.not_mem_nil, rfl, rfl⟩
            exact mj_go_call A hF hd hl hx hM hmc hms ⟨Nat.le_trans g2.1 hR.1, Nat.le_trans g2.2 hR.2⟩ (ih _ _ _ _ _ _ _ h A hR hF hend)
        · rw [if_neg hlen] at h; cases h
      · obtain ⟨rfl, rfl⟩ : r' = r ∧ hp = hp1 := by simpa using h
        exact hend _ _ _ hs
