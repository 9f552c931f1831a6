/-! The small machine grows its heap alone, and its locals are the Statement's -/
def mj_mo (o : mj_O) : Prop := ∀ (L : mj_L) (st : List Value) (hp : mj_H) (pc' : Nat) (L' : mj_L) (st' : List Value) (hp' : mj_H), o L st hp = some (.inl (pc', L', st', hp')) → hp.2.1 ≤ hp'.2.1 ∧ hp.2.2 ≤ hp'.2.2
theorem mj_nx_eq {pc : Nat} {L : mj_L} {st : List Value} {hp : mj_H} {pc' : Nat} {L' : mj_L} {st' : List Value} {hp' : mj_H} (h : mj_nx pc L st hp = some (.inl (pc', L', st', hp'))) : pc = pc' ∧ L = L' ∧ st = st' ∧ hp = hp' := by
  simpa [mj_nx] using h
theorem mj_nx_mo {pc : Nat} {L : mj_L} {st : List Value} {hp : mj_H} {pc' : Nat} {L' : mj_L} {st' : List Value} {hp0 hp' : mj_H} (h : mj_nx pc L st hp = some (.inl (pc', L', st', hp'))) (h0 : hp0.2.1 ≤ hp.2.1 ∧ hp0.2.2 ≤ hp.2.2) : hp0.2.1 ≤ hp'.2.1 ∧ hp0.2.2 ≤ hp'.2.2 := by
  obtain ⟨-, -, -, rfl⟩ := mj_nx_eq h
  exact h0
theorem mj_rf {hp : mj_H} : hp.2.1 ≤ hp.2.1 ∧ hp.2.2 ≤ hp.2.2 := ⟨Nat.le_refl _, Nat.le_refl _⟩
theorem mj_up_mo {hp : mj_H} {a : Nat} {e : va_E} : hp.2.1 ≤ (mj_up hp a e).2.1 ∧ hp.2.2 ≤ (mj_up hp a e).2.2 := ⟨Nat.le_refl _, Nat.le_refl _⟩
theorem mj_push_mo {hp : mj_H} {e : va_E} {k : Nat} : hp.2.1 ≤ (mj_push hp e k).2.1 ∧ hp.2.2 ≤ (mj_push hp e k).2.2 := ⟨Nat.le_add_right _ _, Nat.le_add_right _ _⟩
theorem mj_mo_no : mj_mo mj_no := by
  intro L st hp pc' L' st' hp' h
  unfold mj_no at h
  (repeat' split at h) <;> first | (cases h; done) | (exact mj_nx_mo h mj_rf) | (exact mj_nx_mo h mj_up_mo) | (exact mj_nx_mo h mj_push_mo) | (simp at h; done)
theorem mj_mo_cst (v : Value) (n : Nat) : mj_mo (mj_cst v n) := by
  intro L st hp pc' L' st' hp' h
  unfold mj_cst at h
  (repeat' split at h) <;> first | (cases h; done) | (exact mj_nx_mo h mj_rf) | (exact mj_nx_mo h mj_up_mo) | (exact mj_nx_mo h mj_push_mo) | (simp at h; done)
theorem mj_mo_ild (i : Nat) (n : Nat) : mj_mo (mj_ild i n) := by
  intro L st hp pc' L' st' hp' h
  unfold mj_ild at h
  (repeat' split at h) <;> first | (cases h; done) | (exact mj_nx_mo h mj_rf) | (exact mj_nx_mo h mj_up_mo) | (exact mj_nx_mo h mj_push_mo) | (simp at h; done)
theorem mj_mo_lld (i : Nat) (n : Nat) : mj_mo (mj_lld i n) := by
  intro L st hp pc' L' st' hp' h
  unfold mj_lld at h
  (repeat' split at h) <;> first | (cases h; done) | (exact mj_nx_mo h mj_rf) | (exact mj_nx_mo h mj_up_mo) | (exact mj_nx_mo h mj_push_mo) | (simp at h; done)
theorem mj_mo_ald (i : Nat) (n : Nat) : mj_mo (mj_ald i n) := by
  intro L st hp pc' L' st' hp' h
  unfold mj_ald at h
  (repeat' split at h) <;> first | (cases h; done) | (exact mj_nx_mo h mj_rf) | (exact mj_nx_mo h mj_up_mo) | (exact mj_nx_mo h mj_push_mo) | (simp at h; done)
theorem mj_mo_ist (i : Nat) (n : Nat) : mj_mo (mj_ist i n) := by
  intro L st hp pc' L' st' hp' h
  unfold mj_ist at h
  (repeat' split at h) <;> first | (cases h; done) | (exact mj_nx_mo h mj_rf) | (exact mj_nx_mo h mj_up_mo) | (exact mj_nx_mo h mj_push_mo) | (simp at h; done)
theorem mj_mo_lst (i : Nat) (n : Nat) : mj_mo (mj_lst i n) := by
  intro L st hp pc' L' st' hp' h
  unfold mj_lst at h
  (repeat' split at h) <;> first | (cases h; done) | (exact mj_nx_mo h mj_rf) | (exact mj_nx_mo h mj_up_mo) | (exact mj_nx_mo h mj_push_mo) | (simp at h; done)
theorem mj_mo_ast (i : Nat) (n : Nat) : mj_mo (mj_ast i n) := by
  intro L st hp pc' L' st' hp' h
  unfold mj_ast at h
  (repeat' split at h) <;> first | (cases h; done) | (exact mj_nx_mo h mj_rf) | (exact mj_nx_mo h mj_up_mo) | (exact mj_nx_mo h mj_push_mo) | (simp at h; done)
theorem mj_mo_inc (i : Nat) (c : Int32) (n : Nat) : mj_mo (mj_inc i c n) := by
  intro L st hp pc' L' st' hp' h
  unfold mj_inc at h
  (repeat' split at h) <;> first | (cases h; done) | (exact mj_nx_mo h mj_rf) | (exact mj_nx_mo h mj_up_mo) | (exact mj_nx_mo h mj_push_mo) | (simp at h; done)
theorem mj_mo_ii (f : Int32 → Int32 → Int32) (n : Nat) : mj_mo (mj_ii f n) := by
  intro L st hp pc' L' st' hp' h
  unfold mj_ii at h
  (repeat' split at h) <;> first | (cases h; done) | (exact mj_nx_mo h mj_rf) | (exact mj_nx_mo h mj_up_mo) | (exact mj_nx_mo h mj_push_mo) | (simp at h; done)
theorem mj_mo_iz (f : Int32 → Int32 → Int32) (n : Nat) : mj_mo (mj_iz f n) := by
  intro L st hp pc' L' st' hp' h
  unfold mj_iz at h
  (repeat' split at h) <;> first | (cases h; done) | (exact mj_nx_mo h mj_rf) | (exact mj_nx_mo h mj_up_mo) | (exact mj_nx_mo h mj_push_mo) | (simp at h; done)
theorem mj_mo_i1 (f : Int32 → Int32) (n : Nat) : mj_mo (mj_i1 f n) := by
  intro L st hp pc' L' st' hp' h
  unfold mj_i1 at h
  (repeat' split at h) <;> first | (cases h; done) | (exact mj_nx_mo h mj_rf) | (exact mj_nx_mo h mj_up_mo) | (exact mj_nx_mo h mj_push_mo) | (simp at h; done)
theorem mj_mo_ll (f : Int64 → Int64 → Int64) (n : Nat) : mj_mo (mj_ll f n) := by
  intro L st hp pc' L' st' hp' h
  unfold mj_ll at h
  (repeat' split at h) <;> first | (cases h; done) | (exact mj_nx_mo h mj_rf) | (exact mj_nx_mo h mj_up_mo) | (exact mj_nx_mo h mj_push_mo) | (simp at h; done)
theorem mj_mo_l1 (f : Int64 → Int64) (n : Nat) : mj_mo (mj_l1 f n) := by
  intro L st hp pc' L' st' hp' h
  unfold mj_l1 at h
  (repeat' split at h) <;> first | (cases h; done) | (exact mj_nx_mo h mj_rf) | (exact mj_nx_mo h mj_up_mo) | (exact mj_nx_mo h mj_push_mo) | (simp at h; done)
theorem mj_mo_li (f : Int64 → Int32 → Int64) (n : Nat) : mj_mo (mj_li f n) := by
  intro L st hp pc' L' st' hp' h
  unfold mj_li at h
  (repeat' split at h) <;> first | (cases h; done) | (exact mj_nx_mo h mj_rf) | (exact mj_nx_mo h mj_up_mo) | (exact mj_nx_mo h mj_push_mo) | (simp at h; done)
theorem mj_mo_i2l (n : Nat) : mj_mo (mj_i2l n) := by
  intro L st hp pc' L' st' hp' h
  unfold mj_i2l at h
  (repeat' split at h) <;> first | (cases h; done) | (exact mj_nx_mo h mj_rf) | (exact mj_nx_mo h mj_up_mo) | (exact mj_nx_mo h mj_push_mo) | (simp at h; done)
theorem mj_mo_l2i (n : Nat) : mj_mo (mj_l2i n) := by
  intro L st hp pc' L' st' hp' h
  unfold mj_l2i at h
  (repeat' split at h) <;> first | (cases h; done) | (exact mj_nx_mo h mj_rf) | (exact mj_nx_mo h mj_up_mo) | (exact mj_nx_mo h mj_push_mo) | (simp at h; done)
theorem mj_mo_lcm (n : Nat) : mj_mo (mj_lcm n) := by
  intro L st hp pc' L' st' hp' h
  unfold mj_lcm at h
  (repeat' split at h) <;> first | (cases h; done) | (exact mj_nx_mo h mj_rf) | (exact mj_nx_mo h mj_up_mo) | (exact mj_nx_mo h mj_push_mo) | (simp at h; done)
theorem mj_mo_if (f : Int32 → Bool) (t : Nat) (n : Nat) : mj_mo (mj_if f t n) := by
  intro L st hp pc' L' st' hp' h
  unfold mj_if at h
  (repeat' split at h) <;> first | (cases h; done) | (exact mj_nx_mo h mj_rf) | (exact mj_nx_mo h mj_up_mo) | (exact mj_nx_mo h mj_push_mo) | (simp at h; done)
theorem mj_mo_ic (f : Int32 → Int32 → Bool) (t : Nat) (n : Nat) : mj_mo (mj_ic f t n) := by
  intro L st hp pc' L' st' hp' h
  unfold mj_ic at h
  (repeat' split at h) <;> first | (cases h; done) | (exact mj_nx_mo h mj_rf) | (exact mj_nx_mo h mj_up_mo) | (exact mj_nx_mo h mj_push_mo) | (simp at h; done)
theorem mj_mo_ifn (t : Nat) (n : Nat) : mj_mo (mj_ifn t n) := by
  intro L st hp pc' L' st' hp' h
  unfold mj_ifn at h
  (repeat' split at h) <;> first | (cases h; done) | (exact mj_nx_mo h mj_rf) | (exact mj_nx_mo h mj_up_mo) | (exact mj_nx_mo h mj_push_mo) | (simp at h; done)
theorem mj_mo_go (t : Nat) : mj_mo (mj_go t) := by
  intro L st hp pc' L' st' hp' h
  unfold mj_go at h
  (repeat' split at h) <;> first | (cases h; done) | (exact mj_nx_mo h mj_rf) | (exact mj_nx_mo h mj_up_mo) | (exact mj_nx_mo h mj_push_mo) | (simp at h; done)
theorem mj_mo_tsw (lo : Int) (hi : Int) (d : Nat) (ts : List Nat) : mj_mo (mj_tsw lo hi d ts) := by
  intro L st hp pc' L' st' hp' h
  unfold mj_tsw at h
  (repeat' split at h) <;> first | (cases h; done) | (exact mj_nx_mo h mj_rf) | (exact mj_nx_mo h mj_up_mo) | (exact mj_nx_mo h mj_push_mo) | (simp at h; done)
theorem mj_mo_dup (n : Nat) : mj_mo (mj_dup n) := by
  intro L st hp pc' L' st' hp' h
  unfold mj_dup at h
  (repeat' split at h) <;> first | (cases h; done) | (exact mj_nx_mo h mj_rf) | (exact mj_nx_mo h mj_up_mo) | (exact mj_nx_mo h mj_push_mo) | (simp at h; done)
theorem mj_mo_pop (n : Nat) : mj_mo (mj_pop n) := by
  intro L st hp pc' L' st' hp' h
  unfold mj_pop at h
  (repeat' split at h) <;> first | (cases h; done) | (exact mj_nx_mo h mj_rf) | (exact mj_nx_mo h mj_up_mo) | (exact mj_nx_mo h mj_push_mo) | (simp at h; done)
theorem mj_mo_dx1 (n : Nat) : mj_mo (mj_dx1 n) := by
  intro L st hp pc' L' st' hp' h
  unfold mj_dx1 at h
  (repeat' split at h) <;> first | (cases h; done) | (exact mj_nx_mo h mj_rf) | (exact mj_nx_mo h mj_up_mo) | (exact mj_nx_mo h mj_push_mo) | (simp at h; done)
theorem mj_mo_dx2 (n : Nat) : mj_mo (mj_dx2 n) := by
  intro L st hp pc' L' st' hp' h
  unfold mj_dx2 at h
  (repeat' split at h) <;> first | (cases h; done) | (exact mj_nx_mo h mj_rf) | (exact mj_nx_mo h mj_up_mo) | (exact mj_nx_mo h mj_push_mo) | (simp at h; done)
theorem mj_mo_d2 (n : Nat) : mj_mo (mj_d2 n) := by
  intro L st hp pc' L' st' hp' h
  unfold mj_d2 at h
  (repeat' split at h) <;> first | (cases h; done) | (exact mj_nx_mo h mj_rf) | (exact mj_nx_mo h mj_up_mo) | (exact mj_nx_mo h mj_push_mo) | (simp at h; done)
theorem mj_mo_d21 (n : Nat) : mj_mo (mj_d21 n) := by
  intro L st hp pc' L' st' hp' h
  unfold mj_d21 at h
  (repeat' split at h) <;> first | (cases h; done) | (exact mj_nx_mo h mj_rf) | (exact mj_nx_mo h mj_up_mo) | (exact mj_nx_mo h mj_push_mo) | (simp at h; done)
theorem mj_mo_get (ci : Nat) (k : Nat) (n : Nat) : mj_mo (mj_get ci k n) := by
  intro L st hp pc' L' st' hp' h
  unfold mj_get at h
  (repeat' split at h) <;> first | (cases h; done) | (exact mj_nx_mo h mj_rf) | (exact mj_nx_mo h mj_up_mo) | (exact mj_nx_mo h mj_push_mo) | (simp at h; done)
theorem mj_mo_put (ci : Nat) (k : Nat) (ty : FieldType) (n : Nat) : mj_mo (mj_put ci k ty n) := by
  intro L st hp pc' L' st' hp' h
  unfold mj_put at h
  (repeat' split at h) <;> first | (cases h; done) | (exact mj_nx_mo h mj_rf) | (exact mj_nx_mo h mj_up_mo) | (exact mj_nx_mo h mj_push_mo) | (simp at h; done)
theorem mj_mo_nw (ci : Nat) (N : Nat) (fs : List Value) (n : Nat) : mj_mo (mj_nw ci N fs n) := by
  intro L st hp pc' L' st' hp' h
  unfold mj_nw at h
  (repeat' split at h) <;> first | (cases h; done) | (exact mj_nx_mo h mj_rf) | (exact mj_nx_mo h mj_up_mo) | (exact mj_nx_mo h mj_push_mo) | (simp at h; done)
theorem mj_mo_nwi (t : Nat) (n : Nat) : mj_mo (mj_nwi t n) := by
  intro L st hp pc' L' st' hp' h
  unfold mj_nwi at h
  (repeat' split at h) <;> first | (cases h; done) | (exact mj_nx_mo h mj_rf) | (exact mj_nx_mo h mj_up_mo) | (exact mj_nx_mo h mj_push_mo) | (simp at h; done)
theorem mj_mo_nwl (t : Nat) (n : Nat) : mj_mo (mj_nwl t n) := by
  intro L st hp pc' L' st' hp' h
  unfold mj_nwl at h
  (repeat' split at h) <;> first | (cases h; done) | (exact mj_nx_mo h mj_rf) | (exact mj_nx_mo h mj_up_mo) | (exact mj_nx_mo h mj_push_mo) | (simp at h; done)
theorem mj_mo_nwq (t : Nat) (n : Nat) : mj_mo (mj_nwq t n) := by
  intro L st hp pc' L' st' hp' h
  unfold mj_nwq at h
  (repeat' split at h) <;> first | (cases h; done) | (exact mj_nx_mo h mj_rf) | (exact mj_nx_mo h mj_up_mo) | (exact mj_nx_mo h mj_push_mo) | (simp at h; done)
theorem mj_mo_len (n : Nat) : mj_mo (mj_len n) := by
  intro L st hp pc' L' st' hp' h
  unfold mj_len at h
  (repeat' split at h) <;> first | (cases h; done) | (exact mj_nx_mo h mj_rf) | (exact mj_nx_mo h mj_up_mo) | (exact mj_nx_mo h mj_push_mo) | (simp at h; done)
theorem mj_mo_iar (ty : FieldType) (n : Nat) : mj_mo (mj_iar ty n) := by
  intro L st hp pc' L' st' hp' h
  unfold mj_iar at h
  (repeat' split at h) <;> first | (cases h; done) | (exact mj_nx_mo h mj_rf) | (exact mj_nx_mo h mj_up_mo) | (exact mj_nx_mo h mj_push_mo) | (simp at h; done)
theorem mj_mo_lar (n : Nat) : mj_mo (mj_lar n) := by
  intro L st hp pc' L' st' hp' h
  unfold mj_lar at h
  (repeat' split at h) <;> first | (cases h; done) | (exact mj_nx_mo h mj_rf) | (exact mj_nx_mo h mj_up_mo) | (exact mj_nx_mo h mj_push_mo) | (simp at h; done)
theorem mj_mo_aar (n : Nat) : mj_mo (mj_aar n) := by
  intro L st hp pc' L' st' hp' h
  unfold mj_aar at h
  (repeat' split at h) <;> first | (cases h; done) | (exact mj_nx_mo h mj_rf) | (exact mj_nx_mo h mj_up_mo) | (exact mj_nx_mo h mj_push_mo) | (simp at h; done)
theorem mj_mo_iaw (ty : FieldType) (n : Nat) : mj_mo (mj_iaw ty n) := by
  intro L st hp pc' L' st' hp' h
  unfold mj_iaw at h
  (repeat' split at h) <;> first | (cases h; done) | (exact mj_nx_mo h mj_rf) | (exact mj_nx_mo h mj_up_mo) | (exact mj_nx_mo h mj_push_mo) | (simp at h; done)
theorem mj_mo_law (n : Nat) : mj_mo (mj_law n) := by
  intro L st hp pc' L' st' hp' h
  unfold mj_law at h
  (repeat' split at h) <;> first | (cases h; done) | (exact mj_nx_mo h mj_rf) | (exact mj_nx_mo h mj_up_mo) | (exact mj_nx_mo h mj_push_mo) | (simp at h; done)
theorem mj_mo_aaw (n : Nat) : mj_mo (mj_aaw n) := by
  intro L st hp pc' L' st' hp' h
  unfold mj_aaw at h
  (repeat' split at h) <;> first | (cases h; done) | (exact mj_nx_mo h mj_rf) | (exact mj_nx_mo h mj_up_mo) | (exact mj_nx_mo h mj_push_mo) | (simp at h; done)
theorem mj_mo_ivs (m' : Nat) (na : Nat) (n : Nat) : mj_mo (mj_ivs m' na n) := by
  intro L st hp pc' L' st' hp' h
  unfold mj_ivs at h
  (repeat' split at h) <;> first | (cases h; done) | (exact mj_nx_mo h mj_rf) | (exact mj_nx_mo h mj_up_mo) | (exact mj_nx_mo h mj_push_mo) | (simp at h; done)
theorem mj_mo_ivv (m' : Nat) (na : Nat) (ci : Nat) (n : Nat) : mj_mo (mj_ivv m' na ci n) := by
  intro L st hp pc' L' st' hp' h
  unfold mj_ivv at h
  (repeat' split at h) <;> first | (cases h; done) | (exact mj_nx_mo h mj_rf) | (exact mj_nx_mo h mj_up_mo) | (exact mj_nx_mo h mj_push_mo) | (simp at h; done)
theorem mj_mo_ivi (m' : Nat) (na : Nat) (n : Nat) : mj_mo (mj_ivi m' na n) := by
  intro L st hp pc' L' st' hp' h
  unfold mj_ivi at h
  (repeat' split at h) <;> first | (cases h; done) | (exact mj_nx_mo h mj_rf) | (exact mj_nx_mo h mj_up_mo) | (exact mj_nx_mo h mj_push_mo) | (simp at h; done)
theorem mj_mo_ob (n : Nat) : mj_mo (mj_ob n) := by
  intro L st hp pc' L' st' hp' h
  unfold mj_ob at h
  (repeat' split at h) <;> first | (cases h; done) | (exact mj_nx_mo h mj_rf) | (exact mj_nx_mo h mj_up_mo) | (exact mj_nx_mo h mj_push_mo) | (simp at h; done)
theorem mj_mo_rti (ty : FieldType) : mj_mo (mj_rti ty) := by
  intro L st hp pc' L' st' hp' h
  unfold mj_rti at h
  (repeat' split at h) <;> first | (cases h; done) | (exact mj_nx_mo h mj_rf) | (exact mj_nx_mo h mj_up_mo) | (exact mj_nx_mo h mj_push_mo) | (simp at h; done)
theorem mj_mo_rtl : mj_mo (mj_rtl) := by
  intro L st hp pc' L' st' hp' h
  unfold mj_rtl at h
  (repeat' split at h) <;> first | (cases h; done) | (exact mj_nx_mo h mj_rf) | (exact mj_nx_mo h mj_up_mo) | (exact mj_nx_mo h mj_push_mo) | (simp at h; done)
theorem mj_mo_rta : mj_mo (mj_rta) := by
  intro L st hp pc' L' st' hp' h
  unfold mj_rta at h
  (repeat' split at h) <;> first | (cases h; done) | (exact mj_nx_mo h mj_rf) | (exact mj_nx_mo h mj_up_mo) | (exact mj_nx_mo h mj_push_mo) | (simp at h; done)
theorem mj_mo_rtv : mj_mo (mj_rtv) := by
  intro L st hp pc' L' st' hp' h
  unfold mj_rtv at h
  (repeat' split at h) <;> first | (cases h; done) | (exact mj_nx_mo h mj_rf) | (exact mj_nx_mo h mj_up_mo) | (exact mj_nx_mo h mj_push_mo) | (simp at h; done)
theorem mj_mo_b {pc : Nat} {off : Int} {f : Nat → mj_O} (h : ∀ t, mj_mo (f t)) : mj_mo (mj_b pc off f) := by
  unfold mj_b
  split
  · exact h _
  · exact mj_mo_no
theorem mj_mo_inv (m m' kd n : Nat) : mj_mo (mj_inv m m' kd n) := by
  unfold mj_inv
  (repeat' split) <;> first | exact mj_mo_ob _ | exact mj_mo_ivs _ _ _ | exact mj_mo_ivv _ _ _ _ | exact mj_mo_ivi _ _ _ | exact mj_mo_no
theorem mj_mo_ex (m : Nat) (i : ClassFile.Instr) (pc : Nat) : mj_mo (mj_ex m i pc) := by
  cases i with
  | ifCond cond off => cases cond <;> exact mj_mo_b (fun t => mj_mo_if _ _ _)
  | if_icmp cond off => cases cond <;> exact mj_mo_b (fun t => mj_mo_ic _ _ _)
  | ifnull off => exact mj_mo_b (fun t => mj_mo_ifn _ _)
  | ifnonnull off => exact mj_mo_b (fun t => mj_mo_ifn _ _)
  | goto off => exact mj_mo_b (fun t => mj_mo_go _)
  | tableswitch d lo hi offs =>
    unfold mj_ex
    dsimp only
    split
    · exact mj_mo_tsw _ _ _ _
    · exact mj_mo_no
  | newarray ty => cases ty <;> (unfold mj_ex; dsimp only; first | exact mj_mo_no | (split <;> first | exact mj_mo_nwi _ _ | exact mj_mo_nwl _ _ | exact mj_mo_no))
  | ldc x => unfold mj_ex; dsimp only; split <;> first | exact mj_mo_cst _ _ | exact mj_mo_no
  | ldc2_w x => unfold mj_ex; dsimp only; split <;> first | exact mj_mo_cst _ _ | exact mj_mo_no
  | getfield x => unfold mj_ex; dsimp only; split <;> first | exact mj_mo_get _ _ _ | exact mj_mo_no
  | putfield x => unfold mj_ex; dsimp only; (repeat' split) <;> first | exact mj_mo_put _ _ _ _ | exact mj_mo_no
  | new x => unfold mj_ex; dsimp only; split <;> first | exact mj_mo_nw _ _ _ _ | exact mj_mo_no
  | anewarray x => unfold mj_ex; dsimp only; split <;> first | exact mj_mo_nwq _ _ | exact mj_mo_no
  | invokestatic x => unfold mj_ex; dsimp only; (repeat' split) <;> first | exact mj_mo_inv _ _ _ _ | exact mj_mo_no
  | invokevirtual x => unfold mj_ex; dsimp only; (repeat' split) <;> first | exact mj_mo_inv _ _ _ _ | exact mj_mo_no
  | invokespecial x => unfold mj_ex; dsimp only; (repeat' split) <;> first | exact mj_mo_inv _ _ _ _ | exact mj_mo_no
  | ireturn => unfold mj_ex; dsimp only; split <;> first | exact mj_mo_rti _ | exact mj_mo_no
  | lreturn => unfold mj_ex; dsimp only; split <;> first | exact mj_mo_rtl | exact mj_mo_no
  | areturn => unfold mj_ex; dsimp only; split <;> first | exact mj_mo_rta | exact mj_mo_no
  | return_ => unfold mj_ex; dsimp only; split <;> first | exact mj_mo_rtv | exact mj_mo_no
  | _ => first | exact mj_mo_no | exact mj_mo_cst _ _ | exact mj_mo_ild _ _ | exact mj_mo_lld _ _ | exact mj_mo_ald _ _ | exact mj_mo_ist _ _ | exact mj_mo_lst _ _ | exact mj_mo_ast _ _ | exact mj_mo_inc _ _ _ | exact mj_mo_ii _ _ | exact mj_mo_iz _ _ | exact mj_mo_i1 _ _ | exact mj_mo_ll _ _ | exact mj_mo_l1 _ _ | exact mj_mo_li _ _ | exact mj_mo_i2l _ | exact mj_mo_l2i _ | exact mj_mo_lcm _ | exact mj_mo_dup _ | exact mj_mo_pop _ | exact mj_mo_dx1 _ | exact mj_mo_dx2 _ | exact mj_mo_d2 _ | exact mj_mo_d21 _ | exact mj_mo_len _ | exact mj_mo_iar _ _ | exact mj_mo_lar _ | exact mj_mo_aar _ | exact mj_mo_iaw _ _ | exact mj_mo_law _ | exact mj_mo_aaw _
theorem mj_grow : ∀ (f m pc : Nat) (L : mj_L) (st : List Value) (hp : mj_H) (r : Option Value) (hp' : mj_H), mj_run f m pc L st hp = some (r, hp') → hp.2.1 ≤ hp'.2.1 ∧ hp.2.2 ≤ hp'.2.2 := by
  intro f
  induction f with
  | zero => intro m pc L st hp r hp' h; simp [mj_run] at h
  | succ f ih =>
    intro m pc L st hp r hp' h
    rw [mj_run] at h
    cases hs : mj_step m pc L st hp with
    | none => simp [hs] at h
    | some q =>
      rw [hs] at h
      rcases q with ⟨pc', L', st', hp2⟩ | ⟨m', vs, rest, n⟩ | r'
      · obtain ⟨i, len, -, -, hx⟩ := mj_step_inv hs
        have h1 := mj_mo_ex m i pc L st hp pc' L' st' hp2 hx
        have h2 := ih _ _ _ _ _ _ _ h
        exact ⟨Nat.le_trans h1.1 h2.1, Nat.le_trans h1.2 h2.2⟩
      · dsimp only at h
        by_cases hl : (mj_lay0 vs).length ≤ mj_mxl m'
        · rw [if_pos hl] at h
          cases hr : mj_run f m' 0 (mj_lay (mj_mxl m') vs) [] hp with
          | none => simp [hr] at h
          | some y =>
            obtain ⟨r1, hp1⟩ := y
            rw [hr] at h
            have h1 := ih _ _ _ _ _ _ _ hr
            have h2 := ih _ _ _ _ _ _ _ h
            exact ⟨Nat.le_trans h1.1 h2.1, Nat.le_trans h1.2 h2.2⟩
        · rw [if_neg hl] at h; cases h
      · cases h
        exact mj_rf
/-! locals -/
def mj_en : Nat → mj_L → List (Nat × Value)
  | _, [] => []
  | i, none :: L => mj_en (i + 1) L
  | i, some v :: L => (i, v) :: mj_en (i + 1) L
theorem mj_en_mem : ∀ (L : mj_L) (i : Nat) (q : Nat × Value), q ∈ mj_en i L ↔ ∃ j, q.1 = i + j ∧ L[j]? = some (some q.2) := by
  intro L
  induction L with
  | nil => intro i q; simp [mj_en]
  | cons o L ih =>
    intro i q
    have key : (∃ j, q.1 = i + 1 + j ∧ L[j]? = some (some q.2)) ↔ ∃ j, q.1 = i + (j + 1) ∧ (o :: L)[j + 1]? = some (some q.2) := by
      constructor
      · rintro ⟨j, h1, h2⟩
        exact ⟨j, by omega, by simpa using h2⟩
      · rintro ⟨j, h1, h2⟩
        exact ⟨j, by omega, by simpa using h2⟩
    cases o with
    | none =>
      rw [mj_en, ih, key]
      constructor
      · rintro ⟨j, h1, h2⟩
        exact ⟨j + 1, h1, h2⟩
      · rintro ⟨j, h1, h2⟩
        cases j with
        | zero => simp at h2
        | succ j => exact ⟨j, h1, h2⟩
    | some v =>
      rw [mj_en, List.mem_cons, ih, key]
      constructor
      · rintro (h | ⟨j, h1, h2⟩)
        · subst h
          exact ⟨0, rfl, by simp⟩
        · exact ⟨j + 1, h1, h2⟩
      · rintro ⟨j, h1, h2⟩
        cases j with
        | zero =>
          left
          obtain ⟨q1, q2⟩ := q
          simp at h1 h2
          rw [h1, h2]
        | succ j => exact Or.inr ⟨j, h1, h2⟩
def mj_hasL (ls : Array Slot) (nL : Nat) (L : mj_L) : Prop := L.length = nL ∧ ls.size = nL ∧ lv_wf ls ∧ ∀ (i : Nat) (v : Value), L[i]? = some (some v) → ls[i]? = some (.val v)
theorem mj_hasL.has {ls : Array Slot} {nL : Nat} {L : mj_L} (h : mj_hasL ls nL L) : lv_has ls nL (mj_en 0 L) := by
  refine ⟨h.2.1, h.2.2.1, fun q hq => ?_⟩
  obtain ⟨j, h1, h2⟩ := (mj_en_mem L 0 q).mp hq
  rw [Nat.zero_add] at h1
  rw [h1]
  exact h.2.2.2 j q.2 h2
theorem mj_clr_len (L : mj_L) (i : Nat) : (mj_clr L i).length = L.length := by
  unfold mj_clr
  (repeat' split) <;> simp
theorem mj_clr_at {L : mj_L} {i j : Nat} {w : Value} (h : (mj_clr L i)[j]? = some (some w)) : L[j]? = some (some w) ∧ ¬ (j + 1 = i ∧ w.category = 2) := by
  unfold mj_clr at h
  split at h
  · exact ⟨h, by omega⟩
  · rename_i k
    split at h
    · rename_i v hv
      split at h
      · rename_i hc
        by_cases hj : k = j
        · subst hj
          rw [List.getElem?_set_self (List.getElem?_eq_some_iff.mp hv).1] at h
          cases h
        · rw [List.getElem?_set_ne hj] at h
          exact ⟨h, by omega⟩
      · rename_i hc
        refine ⟨h, fun q => ?_⟩
        have hk : k = j := by omega
        subst hk
        rw [hv] at h
        cases h
        exact hc q.2
    · rename_i hv
      refine ⟨h, fun q => ?_⟩
      have hk : k = j := by omega
      subst hk
      exact hv w h
theorem mj_hasL.st1 {ls' : Array Slot} {nL : Nat} {L : mj_L} {i : Nat} {v : Value} (hn : L.length = nL) (hi : i < nL) (h : lv_has ls' nL ((i, v) :: (mj_en 0 L).filter (fun q => !(q.1 == i) && !(q.1 + 1 == i && q.2.category == 2)))) : mj_hasL ls' nL (mj_st1 L i v) := by
  refine ⟨by unfold mj_st1; rw [List.length_set, mj_clr_len]; exact hn, h.1, h.2.1, fun j w hj => ?_⟩
  unfold mj_st1 at hj
  by_cases hij : i = j
  · subst hij
    rw [List.getElem?_set_self (by rw [mj_clr_len]; omega)] at hj
    cases hj
    exact h.2.2 (i, v) List.mem_cons_self
  · rw [List.getElem?_set_ne hij] at hj
    obtain ⟨h1, h2⟩ := mj_clr_at hj
    refine h.2.2 (j, w) (List.mem_cons_of_mem _ (List.mem_filter.mpr ⟨(mj_en_mem L 0 (j, w)).mpr ⟨j, (Nat.zero_add j).symm, h1⟩, ?_⟩))
    have : ¬ j = i := fun q => hij q.symm
    by_cases q1 : j + 1 = i
    · have q2 : ¬ w.category = 2 := fun q => h2 ⟨q1, q⟩
      simp [this, q1, q2]
    · simp [this, q1]
theorem mj_hasL.st2 {ls' : Array Slot} {nL : Nat} {L : mj_L} {i : Nat} {v : Value} (hn : L.length = nL) (hi : i + 1 < nL) (h : lv_has ls' nL ((i, v) :: (mj_en 0 L).filter (fun q => !(q.1 == i) && (!(q.1 == i + 1) && !(q.1 + 1 == i && q.2.category == 2))))) : mj_hasL ls' nL (mj_st2 L i v) := by
  refine ⟨by unfold mj_st2; rw [List.length_set, List.length_set, mj_clr_len]; exact hn, h.1, h.2.1, fun j w hj => ?_⟩
  unfold mj_st2 at hj
  by_cases hij1 : i + 1 = j
  · subst hij1
    rw [List.getElem?_set_self (by rw [List.length_set, mj_clr_len]; omega)] at hj
    cases hj
  · rw [List.getElem?_set_ne hij1] at hj
    by_cases hij : i = j
    · subst hij
      rw [List.getElem?_set_self (by rw [mj_clr_len]; omega)] at hj
      cases hj
      exact h.2.2 (i, v) List.mem_cons_self
    · rw [List.getElem?_set_ne hij] at hj
      obtain ⟨h1, h2⟩ := mj_clr_at hj
      refine h.2.2 (j, w) (List.mem_cons_of_mem _ (List.mem_filter.mpr ⟨(mj_en_mem L 0 (j, w)).mpr ⟨j, (Nat.zero_add j).symm, h1⟩, ?_⟩))
      have a1 : ¬ j = i := fun q => hij q.symm
      have a2 : ¬ j = i + 1 := fun q => hij1 q.symm
      by_cases q1 : j + 1 = i
      · have q2 : ¬ w.category = 2 := fun q => h2 ⟨q1, q⟩
        simp [a1, a2, q1, q2]
      · simp [a1, a2, q1]
theorem mj_lay0_len (vs : List Value) : (mj_lay0 vs).length = (lg_sl vs).length := by
  induction vs with
  | nil => rfl
  | cons v vs ih =>
    by_cases hc : v.category = 2
    · simp only [mj_lay0, hc, if_true, lg_sl, List.flatMap_cons, List.length_append, List.length_cons] at ih ⊢
      simp only [List.length_nil]
      omega
    · simp only [mj_lay0, hc, if_false, lg_sl, List.flatMap_cons, List.length_append, List.length_cons] at ih ⊢
      simp only [List.length_nil]
      omega
theorem mj_lay0_at : ∀ (vs : List Value) (k j : Nat) (w : Value), (mj_lay0 vs)[j]? = some (some w) → (k + j, w) ∈ lv_args k vs := by
  intro vs
  induction vs with
  | nil => intro k j w h; simp [mj_lay0] at h
  | cons v vs ih =>
    intro k j w h
    by_cases hc : v.category = 2
    · simp only [mj_lay0, hc, if_true] at h
      simp only [lv_args, hc, if_true]
      match j, h with
      | 0, h =>
        simp at h
        subst h
        exact List.mem_cons_self
      | 1, h => simp at h
      | j + 2, h =>
        simp at h
        have := ih (k + 2) j w h
        rw [show k + (j + 2) = k + 2 + j by omega]
        exact List.mem_cons_of_mem _ this
    · simp only [mj_lay0, hc, if_false] at h
      simp only [lv_args, hc, if_false]
      match j, h with
      | 0, h =>
        simp at h
        subst h
        exact List.mem_cons_self
      | j + 1, h =>
        simp at h
        have := ih (k + 1) j w h
        rw [show k + (j + 1) = k + 1 + j by omega]
        exact List.mem_cons_of_mem _ this
theorem mj_lay_has {vs : List Value} {n : Nat} (hl : (mj_lay0 vs).length ≤ n) : mj_hasL ((lg_sl vs ++ List.replicate (n - (lg_sl vs).length) Slot.unset).toArray) n (mj_lay n vs) := by
  have h := lv_entry vs (n := n) (by rw [← mj_lay0_len]; exact hl)
  refine ⟨by unfold mj_lay; rw [List.length_append, List.length_replicate]; omega, h.1, h.2.1, fun j w hj => ?_⟩
  unfold mj_lay at hj
  by_cases hjl : j < (mj_lay0 vs).length
  · rw [List.getElem?_append_left hjl] at hj
    have := mj_lay0_at vs 0 j w hj
    rw [Nat.zero_add] at this
    exact h.2.2 (j, w) this
  · rw [List.getElem?_append_right (by omega)] at hj
    have := List.eq_of_mem_replicate (List.mem_of_getElem? hj)
    cases this
