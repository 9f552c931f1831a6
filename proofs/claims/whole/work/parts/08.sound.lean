/-! What the small machine does, the Statement's machine does: heaps, then each instruction -/
def mj_real (ca : Nat → ClassId) (e : va_E) : va_E := match e with
  | .inl x => .inl (ca x.1, x.2)
  | .inr o => .inr o
/-- where things are: the classes' numbers and slots, the arrays' classes, the script's cell and its ints, the first address that is not old -/
abbrev mj_G : Type := va_G × (Nat → ClassId) × Nat × Nat × (Nat → Int32) × Nat
def mj_cell (G : mj_G) (H : Heap) (a : Nat) (e : va_E) : Prop := (a = G.2.2.1 ∧ e = .inl (mj_tag, G.2.2.2.1, .inl G.2.2.2.2.1)) ∨ (G.2.2.2.2.2 ≤ a ∧ (∀ x, e ≠ .inl (mj_tag, x)) ∧ va_at G.1 mj_cl (a, mj_real G.2.1 e) H)
def mj_rep (G : mj_G) (hp : mj_H) (H : Heap) : Prop := H.size = hp.2.1 ∧ G.2.2.2.2.2 ≤ hp.2.1 ∧ ∀ (a : Nat) (e : va_E), hp.1 a = some e → mj_cell G H a e
def mj_tys (ca : Nat → ClassId) : List (ClassId × FieldType) := (List.range mj_at.length).map fun t => (ca t, mj_at.getD t .int)
theorem mj_tys_at {ca : Nat → ClassId} {t : Nat} {ty : FieldType} (h : mj_at[t]? = some ty) : (mj_tys ca)[t]? = some (ca t, ty) := by
  have hlt : t < mj_at.length := (List.getElem?_eq_some_iff.mp h).1
  unfold mj_tys
  rw [List.getElem?_map, List.getElem?_range hlt]
  simp [List.getD_eq_getElem?_getD, h]
def mj_K (G : mj_G) (U : State) : Prop := va_K G.1 mj_cl (mj_tys G.2.1) U ∧ (∀ q ∈ mj_nm, va_Nw (.methodLinkNest q.1 q.2.1 q.2.2.1 q.2.2.2) U) ∧ ∀ C ∈ mj_ao, va_AO C U
theorem mj_K.warm {G : mj_G} {s U : State} (hW : s.WarmedH U.vm) (h : mj_K G s) : mj_K G U := ⟨h.1.moved hW.alike, fun q hq => va_Nw.warmM hW (h.2.1 q hq), fun C hC => va_AO.moved hW.alike (h.2.2 C hC)⟩
theorem mj_K.same {G : mj_G} {u U : State} (hv : u.vm = U.vm) (h : mj_K G u) : mj_K G U := ⟨h.1.moved (by rw [hv]; exact Vm.Alike.refl _), fun q hq => va_Nw.same rfl hv (h.2.1 q hq), fun C hC => va_AO.moved (by rw [hv]; exact Vm.Alike.refl _) (h.2.2 C hC)⟩
def mj_At (G : mj_G) (m : Nat) (p : Program) (s : State) (mi : MethodId) (args : Array Value) (meth : Method) (c : Code) : Prop :=
  p.tables.exec = Jvm.exec ∧ c.code = mj_code m ∧ c.maxLocals = mj_mxl m ∧ s.vm.findClass (mj_own m) = some mi.cls ∧ (∀ w ∈ mj_words, w.before args s = true) ∧ mj_K G s ∧ meth.name = (mj_y m).name ∧ va_X G.2.2.1 G.2.2.2.1 G.2.2.2.2.1 s s.heap ∧ G.2.2.1 < G.2.2.2.2.2
def mj_in (G : mj_G) (m : Nat) (s : State) (n0 k0 : Nat) (L : mj_L) (hp : mj_H) (H : Heap) (locs : List Loc) (cells slots : Nat) (ls : Array Slot) : Prop :=
  mj_hasL ls (mj_mxl m) L ∧ mj_rep G hp H ∧ (∀ q : Nat, q < G.2.2.2.2.2 → H[q]? = s.heap[q]?) ∧ (∀ q ∈ locs, G.2.2.2.2.2 ≤ q.base) ∧ n0 + cells = hp.2.1 ∧ k0 + slots = hp.2.2
theorem mj_P1 {D : va_G} {cl : List vw_C} {q : Nat × va_E} {H : Heap} (h : va_at D cl q H) : va_P D cl [q] H := by
  intro k x hx
  have hk : k < 1 := (List.getElem?_eq_some_iff.mp hx).1
  obtain rfl : k = 0 := by omega
  cases hx
  exact h
theorem mj_P2 {D : va_G} {cl : List vw_C} {q r : Nat × va_E} {H : Heap} (h : va_at D cl q H) (h' : va_at D cl r H) : va_P D cl [q, r] H := by
  intro k x hx
  have hk : k < 2 := (List.getElem?_eq_some_iff.mp hx).1
  match k, hx with
  | 0, hx => cases hx; exact h
  | 1, hx => cases hx; exact h'
theorem mj_cell.o {G : mj_G} {H : Heap} {a : Nat} {o : Nat × List Value} (h : mj_cell G H a (.inr o)) : G.2.2.2.2.2 ≤ a ∧ va_at G.1 mj_cl (a, .inr o) H := by
  rcases h with ⟨-, h⟩ | ⟨h1, -, h3⟩
  · cases h
  · exact ⟨h1, h3⟩
theorem mj_cell.a {G : mj_G} {H : Heap} {a t : Nat} {x : vp_A} (h : mj_cell G H a (.inl (t, x))) (ht : t < mj_at.length) : G.2.2.2.2.2 ≤ a ∧ va_at G.1 mj_cl (a, .inl (G.2.1 t, x)) H := by
  rcases h with ⟨-, h⟩ | ⟨h1, -, h3⟩
  · cases h
    exact absurd ht (by decide)
  · exact ⟨h1, h3⟩
theorem mj_cell.s {G : mj_G} {H : Heap} {a : Nat} {x : vp_A} (h : mj_cell G H a (.inl (mj_tag, x))) : a = G.2.2.1 ∧ x = (G.2.2.2.1, .inl G.2.2.2.2.1) := by
  rcases h with ⟨h1, h⟩ | ⟨-, h2, -⟩
  · cases h
    exact ⟨h1, rfl⟩
  · exact absurd rfl (h2 x)
theorem mj_rep.up {G : mj_G} {hp : mj_H} {H H' : Heap} {a : Nat} {e : va_E} (h : mj_rep G hp H) (ha : G.2.2.2.2.2 ≤ a) (hz : H'.size = H.size) (ho : ∀ q : Nat, q ≠ a → H'[q]? = H[q]?) (hb : G.2.2.1 < G.2.2.2.2.2) (he : ∀ x, e ≠ .inl (mj_tag, x)) (hc : va_at G.1 mj_cl (a, mj_real G.2.1 e) H') : mj_rep G (mj_up hp a e) H' := by
  refine ⟨hz.trans h.1, h.2.1, fun q x hq => ?_⟩
  unfold mj_up at hq
  dsimp only at hq
  by_cases hqa : q = a
  · rw [if_pos hqa] at hq
    cases hq
    subst hqa
    exact Or.inr ⟨ha, he, hc⟩
  · rw [if_neg hqa] at hq
    rcases h.2.2 q x hq with h1 | ⟨h1, h2, h3⟩
    · exact Or.inl h1
    · exact Or.inr ⟨h1, h2, h3.kept (ho q hqa)⟩
theorem mj_rep.push {G : mj_G} {hp : mj_H} {H H' : Heap} {e : va_E} {k : Nat} (h : mj_rep G hp H) (hz : H'.size = H.size + 1) (ho : ∀ q : Nat, q < H.size → H'[q]? = H[q]?) (hb : G.2.2.1 < G.2.2.2.2.2) (he : ∀ x, e ≠ .inl (mj_tag, x)) (hc : va_at G.1 mj_cl (H.size, mj_real G.2.1 e) H') : mj_rep G (mj_push hp e k) H' := by
  refine ⟨by rw [hz, h.1]; rfl, Nat.le_trans h.2.1 (Nat.le_add_right _ _), fun q x hq => ?_⟩
  unfold mj_push at hq
  dsimp only at hq
  by_cases hqa : q = hp.2.1
  · rw [if_pos hqa] at hq
    cases hq
    rw [← h.1] at hqa
    subst hqa
    exact Or.inr ⟨by rw [h.1]; exact h.2.1, he, hc⟩
  · rw [if_neg hqa] at hq
    rcases h.2.2 q x hq with h1 | ⟨h1, h2, h3⟩
    · exact Or.inl h1
    · exact Or.inr ⟨h1, h2, h3.kept (ho q h3.lt)⟩
theorem mj_lk {len n : Nat} (h : (len == n) = true) : len = n := by simpa using h
section MJS
variable {p : Program} {l : Launch} {e : Env} {R : Room} {s : State} {mi : MethodId} {args : Array Value} {below : List Frame} {meth : Method} {c : Code} {Q : State → Prop} {G : mj_G} {m n0 k0 pc pc' : Nat} {L L' : mj_L} {st st' : List Value} {hp hp' : mj_H}
def mj_Go (G : mj_G) (p : Program) (l : Launch) (e : Env) (R : Room) (s : State) (mi : MethodId) (args : Array Value) (below : List Frame) (meth : Method) (c : Code) (Q : State → Prop) (m n0 k0 pc : Nat) (L : mj_L) (st : List Value) (hp : mj_H) : Prop :=
  ∀ (H : Heap) (locs : List Loc) (cells slots : Nat) (ls : Array Slot), mj_in G m s n0 k0 L hp H locs cells slots ls → W p l e R s mi args below meth c H locs cells slots Q (F0 mi pc ls st)
theorem mj_in.up {H H' : Heap} {locs : List Loc} {cells slots : Nat} {ls : Array Slot} {a j : Nat} {x : va_E} (hI : mj_in G m s n0 k0 L hp H locs cells slots ls) (ha : G.2.2.2.2.2 ≤ a) (hz : H'.size = H.size) (ho : ∀ q : Nat, q ≠ a → H'[q]? = H[q]?) (hb : G.2.2.1 < G.2.2.2.2.2) (he : ∀ y, x ≠ .inl (mj_tag, y)) (hc : va_at G.1 mj_cl (a, mj_real G.2.1 x) H') : mj_in G m s n0 k0 L (mj_up hp a x) H' (locs ++ [⟨a, j⟩]) cells slots ls := by
  obtain ⟨h1, h2, h3, h4, h5, h6⟩ := hI
  refine ⟨h1, h2.up ha hz ho hb he hc, fun q hq => ?_, fun q hq => ?_, h5, h6⟩
  · rw [ho q (by omega)]
    exact h3 q hq
  · rcases List.mem_append.mp hq with hq | hq
    · exact h4 q hq
    · rw [List.mem_singleton.mp hq]
      exact ha
theorem mj_in.push {H H' : Heap} {locs : List Loc} {cells slots k : Nat} {ls : Array Slot} {x : va_E} (hI : mj_in G m s n0 k0 L hp H locs cells slots ls) (hz : H'.size = H.size + 1) (ho : ∀ q : Nat, q < H.size → H'[q]? = H[q]?) (hb : G.2.2.1 < G.2.2.2.2.2) (he : ∀ y, x ≠ .inl (mj_tag, y)) (hc : va_at G.1 mj_cl (H.size, mj_real G.2.1 x) H') : mj_in G m s n0 k0 L (mj_push hp x k) H' locs (cells + 1) (slots + k) ls := by
  obtain ⟨h1, h2, h3, h4, h5, h6⟩ := hI
  refine ⟨h1, h2.push hz ho hb he hc, fun q hq => ?_, h4, ?_, ?_⟩
  · rw [ho q (by have := h2.1; have := h2.2.1; omega)]
    exact h3 q hq
  · show n0 + (cells + 1) = hp.2.1 + 1
    omega
  · show k0 + (slots + k) = hp.2.2 + k
    omega
theorem mj_in.loc {H : Heap} {locs : List Loc} {cells slots : Nat} {ls ls' : Array Slot} (hI : mj_in G m s n0 k0 L hp H locs cells slots ls) (h : mj_hasL ls' (mj_mxl m) L') : mj_in G m s n0 k0 L' hp H locs cells slots ls' := ⟨h, hI.2⟩
/-- getfield -/
theorem mj_go_get (A : mj_At G m p s mi args meth c) {x ci k : Nat} (hf : mj_find mj_fl (mj_on m) x = some (ci, k)) (hd : decode (mj_code m) pc = .ok (.getfield x, 3)) (h : mj_get ci k (pc + 3) L st hp = some (.inl (pc', L', st', hp'))) (kk : mj_Go G p l e R s mi args below meth c Q m n0 k0 pc' L' st' hp') : mj_Go G p l e R s mi args below meth c Q m n0 k0 pc L st hp := by
  obtain ⟨hx, hb, hml, hown, hts, hK, hnm, hX, hbb⟩ := A
  intro H locs cells slots ls hI
  unfold mj_get at h
  split at h
  · rename_i a rest
    split at h
    · rename_i cj fs hc
      split at h
      · rename_i hcj
        subst hcj
        split at h
        · rename_i v hv
          obtain ⟨rfl, rfl, rfl, rfl⟩ := mj_nx_eq h
          obtain ⟨hk, hlink⟩ := mj_ok_fl (mj_find_mem hf)
          obtain ⟨r, hr, h1, h2, h3⟩ := mj_cl_of (mj_N_lt hk)
          obtain ⟨C, T, N⟩ := r
          obtain ⟨o1, o2, o3, o4, o5, o6⟩ := mj_ok_cl hr
          obtain ⟨f1, f2, f3, f4⟩ := h3 k
          rw [h2] at hk
          rw [f1, f2, f3] at hlink
          exact va_get (D := G.1) (ci := cj) (v := v) (C := C) (T := T) (N := N) (Ts := mj_words) hx hb hts o1 hown hK.1 (mj_P1 (hI.2.1.2.2 a _ hc).o.2) 0 rfl hr k hk (hts _ hlink) (fun _ h9 => h9) hv hd (kk _ _ _ _ _ hI)
        · exact mj_none h
      · exact mj_none h
    · exact mj_none h
  · exact mj_none h
/-- putfield -/
theorem mj_go_put (A : mj_At G m p s mi args meth c) {x ci k : Nat} (hf : mj_find mj_fl (mj_on m) x = some (ci, k)) (hfin : mj_fin ci k = false ∨ ((mj_y m).name = "<init>" ∧ mj_fown ci k = mj_own m)) (hd : decode (mj_code m) pc = .ok (.putfield x, 3)) (h : mj_put ci k (mj_ty ci k) (pc + 3) L st hp = some (.inl (pc', L', st', hp'))) (kk : mj_Go G p l e R s mi args below meth c Q m n0 k0 pc' L' st' hp') : mj_Go G p l e R s mi args below meth c Q m n0 k0 pc L st hp := by
  obtain ⟨hx, hb, hml, hown, hts, hK, hnm, hX, hbb⟩ := A
  intro H locs cells slots ls hI
  unfold mj_put at h
  split at h
  · rename_i v a rest
    split at h
    · rename_i cj fs hc
      split at h
      · rename_i hcj
        obtain ⟨rfl, hkl, hnar, hfit⟩ := hcj
        obtain ⟨rfl, rfl, rfl, rfl⟩ := mj_nx_eq h
        obtain ⟨hk, hlink⟩ := mj_ok_fl (mj_find_mem hf)
        obtain ⟨r, hr, h1, h2, h3⟩ := mj_cl_of (mj_N_lt hk)
        obtain ⟨C, T, N⟩ := r
        obtain ⟨o1, o2, o3, o4, o5, o6⟩ := mj_ok_cl hr
        obtain ⟨f1, f2, f3, f4⟩ := h3 k
        rw [h2] at hk
        rw [f1, f2, f3] at hlink
        rw [f1, f4] at hfin
        have hcl := (hI.2.1.2.2 a _ hc).o
        have hap := va_apart (own := mj_own m) (D := G.1) (tys := mj_tys G.2.1) hts o1 (mj_ty cj) o4 o6 hK.1 hr
        obtain ⟨r', e1, cell, q1, q2, q3, q4⟩ := hcl.2
        have hr' : r' = (C, T, N) := Option.some.inj (e1.symm.trans hr)
        subst hr'
        obtain ⟨hS, hfc, kC, hkC, hkind⟩ := hK.1.1 cj _ hr
        obtain ⟨cf, kf, fi, f, hi, hsl⟩ := hS k hk
        have hlay := hts _ (o1 _ (u_in_lay hk))
        have hst := (u_facts hfc hkC (u_lays hts o1 hk) hi).1
        have fin : ∀ H' : Heap, H'[a]? = some (cell.setSlot f.slot v) → H'.size = H.size → (∀ q : Nat, q ≠ a → H'[q]? = H[q]?) → W p l e R s mi args below meth c H' (locs ++ [⟨a, f.slot⟩]) cells slots Q (F0 mi (pc + 3) ls rest) := by
          intro H' e1 e2 e3
          refine kk _ _ _ _ _ (hI.up hcl.1 e2 e3 hbb (fun y hy => by cases hy) ?_)
          rw [hsl] at e1
          exact ⟨_, hr, t_OB.to (V := updV (vp_V fs) k v) ⟨_, e1, q2, q3, t_set q4 hap hk v⟩ (fun j _ => vp_updV_set hkl v j)⟩
        unfold u_lay at hlay
        by_cases hfn : (T k).2.2.2 = true
        · rw [if_pos hfn] at hlay
          obtain ⟨hin2, hdecl⟩ : (mj_y m).name = "<init>" ∧ (T k).1 = mj_own m := by
            rcases hfin with h9 | h9
            · dsimp only at h9; rw [hfn] at h9; cases h9
            · exact h9
          have hcf : mi.cls = cf := by
            obtain ⟨_, _, c', _, _, _, -, -, hf', -, -, -, hown2, -⟩ := Cond.laysFinal_spec hlay
            have e1 : c' = cf := by have := hi.symm.trans hf'; simp at this; exact this.1.symm
            rw [hdecl] at hown2
            rw [← e1]; exact Option.some.inj (hown.symm.trans hown2)
          have h6 := u_fits hfc hkC hkind (Or.inr hlay) hi (o4 k hk) hnar hfit
          exact W.putFinK hx hb hown (hts _ hlink) hi hst hcf (hnm.trans hin2) (by rw [q2]; exact h6) q1 q3 (by rw [hsl]; exact k2_hasslot (q4 k hk)) rfl rfl hd fin
        · rw [if_neg hfn] at hlay
          have h6 := u_store hfc hkC hkind hlay hi (o4 k hk) hnar hfit
          exact W.putK hx hb (f := f) ⟨hown, hts _ hlink, ⟨_, _, _, hi⟩, hst⟩ (by rw [q2]; exact h6) q1 q3 (by rw [hsl]; exact k2_hasslot (q4 k hk)) rfl rfl hd fin
      · exact mj_none h
    · exact mj_none h
  · exact mj_none h
/-- new -/
theorem mj_go_new (A : mj_At G m p s mi args meth c) {x ci : Nat} (hR : hp'.2.1 ≤ n0 + R.cells ∧ hp'.2.2 ≤ k0 + R.slots) (hf : mj_find mj_nl (mj_on m) x = some ci) (hd : decode (mj_code m) pc = .ok (.new x, 3)) (h : mj_nw ci (mj_N ci) (mj_def ci) (pc + 3) L st hp = some (.inl (pc', L', st', hp'))) (kk : mj_Go G p l e R s mi args below meth c Q m n0 k0 pc' L' st' hp') : mj_Go G p l e R s mi args below meth c Q m n0 k0 pc L st hp := by
  obtain ⟨hx, hb, hml, hown, hts, hK, hnm, hX, hbb⟩ := A
  intro H locs cells slots ls hI
  obtain ⟨hlt, hlink⟩ := mj_ok_nl (mj_find_mem hf)
  obtain ⟨r, hr, h1, h2, h3⟩ := mj_cl_of hlt
  obtain ⟨C, T, N⟩ := r
  obtain ⟨o1, o2, o3, o4, o5, o6⟩ := mj_ok_cl hr
  rw [h1] at hlink
  unfold mj_nw at h
  rw [h2] at h
  obtain ⟨rfl, rfl, rfl, rfl⟩ := mj_nx_eq h
  have hKn := hK.1.1 ci _ hr
  have g5 := hI.2.2.2.2.1
  have g6 := hI.2.2.2.2.2
  have hR1 : hp.2.1 + 1 ≤ n0 + R.cells := hR.1
  have hR2 : hp.2.2 + N ≤ k0 + R.slots := hR.2
  refine W.newcK (n := N) hx hb hown (hts _ hlink) (hts _ o2) (hts _ o3) rfl hd (by omega) (by omega) hKn.2.1 hI.2.1.1 fun H1 kC hkC e1 z1 q1 => ?_
  refine kk _ _ _ _ _ (hI.push (by rw [z1, hI.2.1.1]) (fun q hq => q1 q (by rw [← hI.2.1.1]; exact hq)) hbb (fun y hy => by cases hy) ?_)
  rw [hI.2.1.1]
  refine ⟨_, hr, (u_born (mj_ty ci) hts o1 hKn hkC e1 o4).to (fun j hj => ?_)⟩
  have hj' : j < (mj_def ci).length := by rw [o5]; exact hj
  have hj2 : j < (mj_tyl.getD ci []).length := by unfold mj_def at hj'; rwa [List.length_map] at hj'
  unfold vp_V mj_ty
  simp only [mj_def, List.getD_eq_getElem?_getD, List.getElem?_map]
  rw [List.getD_eq_getElem?_getD] at hj2
  rw [List.getElem?_eq_getElem hj2]
  rfl
/-- newarray of ints, booleans, longs -/
theorem mj_go_nwa (A : mj_At G m p s mi args meth c) {t : Nat} {ty : FieldType} {at_ : ClassFile.ArrayType} {x : Int32} {rest : List Value} {z : (Nat → Int32) ⊕ (Nat → Int64) ⊕ (Nat → UInt32) ⊕ (Nat → UInt64) ⊕ (Nat → Option Nat)} (hn : ¬ (x < 0 ∨ 65536 < x.toNatClampNeg)) (hty : newarray.typeOf at_ = ty) (hat : mj_at[t]? = some ty) (hw : Cond.arrayClass ty ∈ mj_words) (hB : componentBytes ty ≤ 8) (hta : ∀ cA : ClassId, va_RA s cA ty → s.vm.findClass ("[" ++ ty.toString) = some cA) (hz : ∀ (cA : ClassId) (N : Nat), vp_cell cA (N, z) = arrV cA N (fun _ => defaultValue ty)) (hR : (mj_push hp (.inl (t, x.toNatClampNeg, z)) x.toNatClampNeg).2.1 ≤ n0 + R.cells ∧ (mj_push hp (.inl (t, x.toNatClampNeg, z)) x.toNatClampNeg).2.2 ≤ k0 + R.slots) (hd : decode (mj_code m) pc = .ok (.newarray at_, 2))
    (kk : mj_Go G p l e R s mi args below meth c Q m n0 k0 (pc + 2) L (.ref hp.2.1 :: rest) (mj_push hp (.inl (t, x.toNatClampNeg, z)) x.toNatClampNeg)) : mj_Go G p l e R s mi args below meth c Q m n0 k0 pc L (.int x :: rest) hp := by
  obtain ⟨hx, hb, hml, hown, hts, hK, hnm, hX, hbb⟩ := A
  intro H locs cells slots ls hI
  have hn1 : ¬ x < 0 := fun q => hn (Or.inl q)
  have hn2 : x.toNatClampNeg ≤ 65536 := Nat.not_lt.mp fun q => hn (Or.inr q)
  have g5 := hI.2.2.2.2.1
  have g6 := hI.2.2.2.2.2
  have hR1 : hp.2.1 + 1 ≤ n0 + R.cells := hR.1
  have hR2 : hp.2.2 + x.toNatClampNeg ≤ k0 + R.slots := hR.2
  subst hty
  refine va_newaK hx hb (hts _ hw) rfl hd rfl hn1 rfl (Nat.le_trans (Nat.mul_le_mul hn2 hB) (by decide)) (by omega) (by omega) hI.2.1.1 fun H1 cA e1 z1 q1 hAr hNm => ?_
  have hca : cA = G.2.1 t := Option.some.inj (hNm.symm.trans (hta _ (hK.1.2 t _ (mj_tys_at hat)).2))
  subst hca
  refine kk _ _ _ _ _ (hI.push (by rw [z1, hI.2.1.1]) (fun q hq => q1 q (by rw [← hI.2.1.1]; exact hq)) hbb (fun y hy => ?_) ?_)
  · cases hy
    exact absurd (List.getElem?_eq_some_iff.mp hat).1 (by decide)
  · rw [hI.2.1.1]
    show H1[hp.2.1]? = some (vp_cell _ _)
    rw [hz]
    exact e1
/-- anewarray -/
theorem mj_go_nwq (A : mj_At G m p s mi args meth c) {x t : Nat} (hf : mj_find mj_ql (mj_on m) x = some t) (hR : hp'.2.1 ≤ n0 + R.cells ∧ hp'.2.2 ≤ k0 + R.slots) (hd : decode (mj_code m) pc = .ok (.anewarray x, 3)) (h : mj_nwq t (pc + 3) L st hp = some (.inl (pc', L', st', hp'))) (kk : mj_Go G p l e R s mi args below meth c Q m n0 k0 pc' L' st' hp') : mj_Go G p l e R s mi args below meth c Q m n0 k0 pc L st hp := by
  obtain ⟨hx, hb, hml, hown, hts, hK, hnm, hX, hbb⟩ := A
  intro H locs cells slots ls hI
  unfold mj_nwq at h
  split at h
  · rename_i v rest
    split at h
    · exact mj_none h
    · rename_i hn
      obtain ⟨rfl, rfl, rfl, rfl⟩ := mj_nx_eq h
      obtain ⟨C, hat, hao, hlink⟩ := mj_ok_ql (mj_find_mem hf)
      have hn1 : ¬ v < 0 := fun q => hn (Or.inl q)
      have hn2 : v.toNatClampNeg ≤ 65536 := Nat.not_lt.mp fun q => hn (Or.inr q)
      have g5 := hI.2.2.2.2.1
      have g6 := hI.2.2.2.2.2
      have hR1 : hp.2.1 + 1 ≤ n0 + R.cells := hR.1
      have hR2 : hp.2.2 + v.toNatClampNeg ≤ k0 + R.slots := hR.2
      refine W.anew hx hb hown (hts _ hlink) (va_AO.use (hK.2.2 C hao)) rfl hd rfl hn1 (by omega) (by omega) (by omega) fun cA kA comp f1 f2 f3 f4 => ?_
      obtain ⟨kA', comp', g1, g2, g3, g4⟩ := (hK.1.2 t _ (mj_tys_at hat)).2
      have hca : cA = G.2.1 t := Option.some.inj (f1.symm.trans g4)
      subst hca
      have hsz := hI.2.1.1
      generalize hH1 : H.push ({ cls := G.2.1 t, slots := Array.replicate v.toNatClampNeg .null, vm := .none } : Cell) = H1
      have z1 : H1.size = H.size + 1 := by rw [← hH1, Array.size_push]
      have e1 : H1[H.size]? = some (arrV (G.2.1 t) v.toNatClampNeg (fun _ => .null)) := by rw [← hH1, Array.getElem?_push_size, ← arrV_new]
      have o1 : ∀ q : Nat, q < H.size → H1[q]? = H[q]? := fun q hq => by rw [← hH1, Array.getElem?_push, if_neg (Nat.ne_of_lt hq)]
      rw [hsz]
      refine kk _ _ _ _ _ (hI.push z1 o1 hbb (fun y hy => ?_) ?_)
      · cases hy
        exact absurd (List.getElem?_eq_some_iff.mp hat).1 (by decide)
      · show H1[H.size]? = some (vp_cell _ _)
        rw [vp_cell_q]
        exact e1
  · exact mj_none h
theorem mj_tag_ge {t : Nat} {ty : FieldType} (hat : mj_at[t]? = some ty) : t < mj_at.length := (List.getElem?_eq_some_iff.mp hat).1
/-- arraylength -/
theorem mj_go_len (A : mj_At G m p s mi args meth c) (hd : decode (mj_code m) pc = .ok (.arraylength, 1)) (h : mj_len (pc + 1) L st hp = some (.inl (pc', L', st', hp'))) (kk : mj_Go G p l e R s mi args below meth c Q m n0 k0 pc' L' st' hp') : mj_Go G p l e R s mi args below meth c Q m n0 k0 pc L st hp := by
  obtain ⟨hx, hb, hml, hown, hts, hK, hnm, hX, hbb⟩ := A
  intro H locs cells slots ls hI
  unfold mj_len at h
  split at h
  · rename_i a rest
    split at h
    · rename_i t k z hc
      split at h
      · rename_i ht
        obtain ⟨rfl, rfl, rfl, rfl⟩ := mj_nx_eq h
        rcases ht with ht | ht
        · have hat : mj_at[t]? = some (mj_at[t]'ht) := List.getElem?_eq_getElem ht
          exact va_alen (D := G.1) (cl := mj_cl) hx hb hK.1 (mj_P1 ((hI.2.1.2.2 a _ hc).a ht).2) 0 t rfl (mj_tys_at hat) rfl hd (kk _ _ _ _ _ hI)
        · subst ht
          obtain ⟨rfl, hz⟩ := (hI.2.1.2.2 a _ hc).s
          cases hz
          obtain ⟨scr, x1, x2, x3, x4, x5⟩ := hX
          exact W.alen (n := Int32.ofNat G.2.2.2.1) hx hb (by rw [hI.2.2.1 _ hbb]; exact x1) x2 (by rw [x4] <;> rfl) rfl rfl hd (kk _ _ _ _ _ hI)
      · exact mj_none h
    · exact mj_none h
  · exact mj_none h
/-- iaload, baload -/
theorem mj_go_iar (A : mj_At G m p s mi args meth c) {ty : FieldType} (hd : (ty = .int ∧ decode (mj_code m) pc = .ok (.iaload, 1)) ∨ (ty = .boolean ∧ decode (mj_code m) pc = .ok (.baload, 1))) (h : mj_iar ty (pc + 1) L st hp = some (.inl (pc', L', st', hp'))) (kk : mj_Go G p l e R s mi args below meth c Q m n0 k0 pc' L' st' hp') : mj_Go G p l e R s mi args below meth c Q m n0 k0 pc L st hp := by
  obtain ⟨hx, hb, hml, hown, hts, hK, hnm, hX, hbb⟩ := A
  intro H locs cells slots ls hI
  unfold mj_iar at h
  split at h
  · rename_i i a rest
    split at h
    · rename_i t k f hc
      split at h
      · rename_i ht
        obtain ⟨ht, hin⟩ := ht
        obtain ⟨rfl, rfl, rfl, rfl⟩ := mj_nx_eq h
        rcases ht with hat | ⟨rfl, rfl⟩
        · have hP := mj_P1 ((hI.2.1.2.2 a _ hc).a (mj_tag_ge hat)).2
          rcases hd with ⟨rfl, hd⟩ | ⟨rfl, hd⟩
          · exact va_iald (D := G.1) (cl := mj_cl) hx hb hK.1 hP 0 t rfl (mj_tys_at hat) hin hd (kk _ _ _ _ _ hI)
          · exact va_zald (D := G.1) (cl := mj_cl) hx hb hK.1 hP 0 t rfl (mj_tys_at hat) hin hd (kk _ _ _ _ _ hI)
        · obtain ⟨rfl, hz⟩ := (hI.2.1.2.2 a _ hc).s
          cases hz
          rcases hd with ⟨-, hd⟩ | ⟨hq, -⟩
          · obtain ⟨scr, x1, x2, x3, x4, x5⟩ := hX
            have hlt : i.toNatClampNeg < G.2.2.2.1 := Nat.not_le.mp fun q => hin (Or.inr q)
            exact W.iald (v := .int (G.2.2.2.2.1 i.toNatClampNeg)) hx hb (by rw [hI.2.2.1 _ hbb]; exact x1) x2 x3 (by rw [x4]; exact hin) (x5 _ hlt) rfl rfl hd (kk _ _ _ _ _ hI)
          · cases hq
      · exact mj_none h
    · exact mj_none h
  · exact mj_none h
/-- laload -/
theorem mj_go_lar (A : mj_At G m p s mi args meth c) (hd : decode (mj_code m) pc = .ok (.laload, 1)) (h : mj_lar (pc + 1) L st hp = some (.inl (pc', L', st', hp'))) (kk : mj_Go G p l e R s mi args below meth c Q m n0 k0 pc' L' st' hp') : mj_Go G p l e R s mi args below meth c Q m n0 k0 pc L st hp := by
  obtain ⟨hx, hb, hml, hown, hts, hK, hnm, hX, hbb⟩ := A
  intro H locs cells slots ls hI
  unfold mj_lar at h
  split at h
  · rename_i i a rest
    split at h
    · rename_i t k f hc
      split at h
      · rename_i ht
        obtain ⟨hat, hin⟩ := ht
        obtain ⟨rfl, rfl, rfl, rfl⟩ := mj_nx_eq h
        exact va_lald (D := G.1) (cl := mj_cl) hx hb hK.1 (mj_P1 ((hI.2.1.2.2 a _ hc).a (mj_tag_ge hat)).2) 0 t rfl (mj_tys_at hat) hin hd (kk _ _ _ _ _ hI)
      · exact mj_none h
    · exact mj_none h
  · exact mj_none h
/-- aaload -/
theorem mj_go_aar (A : mj_At G m p s mi args meth c) (hd : decode (mj_code m) pc = .ok (.aaload, 1)) (h : mj_aar (pc + 1) L st hp = some (.inl (pc', L', st', hp'))) (kk : mj_Go G p l e R s mi args below meth c Q m n0 k0 pc' L' st' hp') : mj_Go G p l e R s mi args below meth c Q m n0 k0 pc L st hp := by
  obtain ⟨hx, hb, hml, hown, hts, hK, hnm, hX, hbb⟩ := A
  intro H locs cells slots ls hI
  unfold mj_aar at h
  split at h
  · rename_i i a rest
    split at h
    · rename_i t k f hc
      split at h
      · rename_i C hat
        split at h
        · rename_i hin
          obtain ⟨rfl, rfl, rfl, rfl⟩ := mj_nx_eq h
          exact va_aldq (D := G.1) (cl := mj_cl) hx hb hK.1 (mj_P1 ((hI.2.1.2.2 a _ hc).a (mj_tag_ge hat)).2) 0 t rfl (mj_tys_at hat) hin hd (kk _ _ _ _ _ hI)
        · exact mj_none h
      · exact mj_none h
    · exact mj_none h
  · exact mj_none h
theorem mj_upd_cell {cA : ClassId} {k j : Nat} {f : Nat → Int32} {x : Int32} : (vp_cell cA (k, .inl f)).setSlot j (.int x) = vp_cell cA (k, .inl (upd f j x)) := by
  rw [vp_cell_i, vp_cell_i, arrV_store]
  congr 2
  funext q
  by_cases hq : q = j
  · subst hq
    simp [updV, upd]
  · simp [updV, upd, hq]
/-- iastore, bastore -/
theorem mj_go_iaw (A : mj_At G m p s mi args meth c) {ty : FieldType} (hd : (ty = .int ∧ decode (mj_code m) pc = .ok (.iastore, 1)) ∨ (ty = .boolean ∧ decode (mj_code m) pc = .ok (.bastore, 1))) (h : mj_iaw ty (pc + 1) L st hp = some (.inl (pc', L', st', hp'))) (kk : mj_Go G p l e R s mi args below meth c Q m n0 k0 pc' L' st' hp') : mj_Go G p l e R s mi args below meth c Q m n0 k0 pc L st hp := by
  obtain ⟨hx, hb, hml, hown, hts, hK, hnm, hX, hbb⟩ := A
  intro H locs cells slots ls hI
  unfold mj_iaw at h
  split at h
  · rename_i x i a rest
    split at h
    · rename_i t k f hc
      split at h
      · rename_i ht
        obtain ⟨hat, hin, hnar⟩ := ht
        obtain ⟨rfl, rfl, rfl, rfl⟩ := mj_nx_eq h
        have hcl := (hI.2.1.2.2 a _ hc).a (mj_tag_ge hat)
        have hin' : ¬ (i < 0 ∨ (vp_cell (G.2.1 t) (k, .inl f)).slots.size ≤ i.toNatClampNeg) := by
          rw [vp_cell_i, arrV_size]
          exact hin
        have hta := (hK.1.2 t _ (mj_tys_at hat)).1 k (fun j => .int (f j))
        have fin : ∀ H' : Heap, H'[a]? = some ((vp_cell (G.2.1 t) (k, .inl f)).setSlot i.toNatClampNeg (.int x)) → H'.size = H.size → (∀ q : Nat, q ≠ a → H'[q]? = H[q]?) → W p l e R s mi args below meth c H' (locs ++ [⟨a, i.toNatClampNeg⟩]) cells slots Q (F0 mi (pc + 1) ls rest) := by
          intro H' e1 e2 e3
          refine kk _ _ _ _ _ (hI.up hcl.1 e2 e3 hbb (fun y hy => ?_) ?_)
          · cases hy
            exact absurd (mj_tag_ge hat) (by decide)
          · show H'[a]? = some (vp_cell _ _)
            rw [e1, mj_upd_cell]
        rcases hd with ⟨rfl, hd⟩ | ⟨rfl, hd⟩
        · exact W.iast hx hb hcl.2 hta (fun q => by cases q) hin' rfl rfl hd fin
        · refine W.zast hx hb hcl.2 hta (fun q => by cases q) hin' rfl rfl hd ?_
          rw [hnar]
          exact fin
      · exact mj_none h
    · exact mj_none h
  · exact mj_none h
/-- lastore -/
theorem mj_go_law (A : mj_At G m p s mi args meth c) (hd : decode (mj_code m) pc = .ok (.lastore, 1)) (h : mj_law (pc + 1) L st hp = some (.inl (pc', L', st', hp'))) (kk : mj_Go G p l e R s mi args below meth c Q m n0 k0 pc' L' st' hp') : mj_Go G p l e R s mi args below meth c Q m n0 k0 pc L st hp := by
  obtain ⟨hx, hb, hml, hown, hts, hK, hnm, hX, hbb⟩ := A
  intro H locs cells slots ls hI
  unfold mj_law at h
  split at h
  · rename_i x i a rest
    split at h
    · rename_i t k f hc
      split at h
      · rename_i ht
        obtain ⟨hat, hin⟩ := ht
        obtain ⟨rfl, rfl, rfl, rfl⟩ := mj_nx_eq h
        have hcl := (hI.2.1.2.2 a _ hc).a (mj_tag_ge hat)
        have hin' : ¬ (i < 0 ∨ (vp_cell (G.2.1 t) (k, .inr (.inl f))).slots.size ≤ i.toNatClampNeg) := by
          rw [vp_cell_l, arrV_size]
          exact hin
        have hta := (hK.1.2 t _ (mj_tys_at hat)).1 k (fun j => .long (f j))
        refine W.last hx hb hcl.2 hta (fun q => by cases q) hin' rfl rfl hd fun H' e1 e2 e3 => ?_
        refine kk _ _ _ _ _ (hI.up hcl.1 e2 e3 hbb (fun y hy => ?_) ?_)
        · cases hy
          exact absurd (mj_tag_ge hat) (by decide)
        · show H'[a]? = some (vp_cell _ _)
          rw [e1, vp_cell_l, vp_cell_l, arrV_store]
          congr 2
          funext q
          by_cases hq : q = i.toNatClampNeg
          · subst hq
            simp [updV, vp_updL]
          · simp [updV, vp_updL, hq]
      · exact mj_none h
    · exact mj_none h
  · exact mj_none h
/-- aastore -/
theorem mj_go_aaw (A : mj_At G m p s mi args meth c) (hd : decode (mj_code m) pc = .ok (.aastore, 1)) (h : mj_aaw (pc + 1) L st hp = some (.inl (pc', L', st', hp'))) (kk : mj_Go G p l e R s mi args below meth c Q m n0 k0 pc' L' st' hp') : mj_Go G p l e R s mi args below meth c Q m n0 k0 pc L st hp := by
  obtain ⟨hx, hb, hml, hown, hts, hK, hnm, hX, hbb⟩ := A
  intro H locs cells slots ls hI
  unfold mj_aaw at h
  split at h
  · rename_i v i a rest
    split at h
    · rename_i t k f ci fs hc hv
      split at h
      · rename_i ht
        obtain ⟨hat, hsome, hin⟩ := ht
        obtain ⟨rfl, rfl, rfl, rfl⟩ := mj_nx_eq h
        obtain ⟨r, hr⟩ := Option.isSome_iff_exists.mp hsome
        rw [hr, Option.map_some] at hat
        have hcl := (hI.2.1.2.2 a _ hc).a (mj_tag_ge hat)
        have hcv := (hI.2.1.2.2 v _ hv).o
        have hlt : i.toNatClampNeg < k := Nat.not_le.mp fun q => hin (Or.inr q)
        have h0 : ¬ i < 0 := fun q => hin (Or.inl q)
        obtain ⟨r', hr', cellV, g1, g2, g3, -⟩ := hcv.2
        have hcls := (hK.1.1 ci r hr).2
        obtain ⟨kA, comp, k1, k2, k3, -⟩ := (hK.1.2 t _ (mj_tys_at hat)).2
        have hcomp : comp = G.1.1 ci := Option.some.inj (k3.symm.trans hcls.1)
        subst hcomp
        obtain ⟨kC, hkC, -⟩ := hcls.2
        refine W.aast hx hb hcl.2 (fun q h => by cases h) (fun h => by cases h) k1 k2 rfl hkC ⟨h0, by show _ < (arrV _ _ _).slots.size; rw [arrV_size]; exact hlt⟩ g1 (fun q h => by rw [g3] at h; cases h) (by rw [g2]; exact hkC) (by rw [g2]; exact va_assign hcls) rfl rfl hd fun H' e1 e2 e3 => ?_
        refine kk _ _ _ _ _ (hI.up hcl.1 e2 e3 hbb (fun y hy => ?_) ?_)
        · cases hy
          exact absurd (mj_tag_ge hat) (by decide)
        · show H'[a]? = some (vp_cell _ _)
          rw [e1, vp_cell_q, vp_cell_q, arrV_store]
          congr 2
          funext q
          by_cases hq : q = i.toNatClampNeg
          · subst hq
            simp [updV, va_up, va_rf]
          · simp [updV, va_up, hq]
      · exact mj_none h
    · exact mj_none h
  · rename_i i a rest
    split at h
    · rename_i t k f hc
      split at h
      · rename_i C hat
        split at h
        · rename_i hin
          obtain ⟨rfl, rfl, rfl, rfl⟩ := mj_nx_eq h
          have hcl := (hI.2.1.2.2 a _ hc).a (mj_tag_ge hat)
          refine va_WaastN (C := C) hx hb hcl.2 ((hK.1.2 t _ (mj_tys_at hat)).1 k (fun j => va_rf (f j))) (fun h => by cases h) (by show ¬ (i < 0 ∨ (arrV _ _ _).slots.size ≤ _); rw [arrV_size]; exact hin) rfl rfl hd fun H' e1 e2 e3 => ?_
          refine kk _ _ _ _ _ (hI.up hcl.1 e2 e3 hbb (fun y hy => ?_) ?_)
          · cases hy
            exact absurd (mj_tag_ge hat) (by decide)
          · show H'[a]? = some (vp_cell _ _)
            rw [e1, vp_cell_q, vp_cell_q, arrV_store]
            congr 2
            funext q
            by_cases hq : q = i.toNatClampNeg
            · subst hq
              simp [updV, va_up, va_rf]
            · simp [updV, va_up, hq]
        · exact mj_none h
      · exact mj_none h
    · exact mj_none h
  · exact mj_none h
theorem mj_ivs_inl {m' na n : Nat} {q : Nat × mj_L × List Value × mj_H} (h : mj_ivs m' na n L st hp = some (.inl q)) : False := by
  unfold mj_ivs at h
  (repeat' split at h) <;> first | exact mj_none h | cases h
theorem mj_ivv_inl {m' na ci n : Nat} {q : Nat × mj_L × List Value × mj_H} (h : mj_ivv m' na ci n L st hp = some (.inl q)) : False := by
  unfold mj_ivv at h
  (repeat' split at h) <;> first | exact mj_none h | cases h
theorem mj_ivi_inl {m' na n : Nat} {q : Nat × mj_L × List Value × mj_H} (h : mj_ivi m' na n L st hp = some (.inl q)) : False := by
  unfold mj_ivi at h
  (repeat' split at h) <;> first | exact mj_none h | cases h
theorem mj_inv_inl {m' kd n : Nat} {q : Nat × mj_L × List Value × mj_H} (h5 : ¬ kd = 5) (h : mj_inv m m' kd n L st hp = some (.inl q)) : False := by
  unfold mj_inv at h
  rw [if_neg h5] at h
  (repeat' split at h) <;> first | exact mj_none h | exact mj_ivs_inl h | exact mj_ivv_inl h | exact mj_ivi_inl h
theorem mj_rt_inl {o : mj_O} {q : Nat × mj_L × List Value × mj_H} (ho : (∃ ty, o = mj_rti ty) ∨ o = mj_rtl ∨ o = mj_rta ∨ o = mj_rtv) (h : o L st hp = some (.inl q)) : False := by
  rcases ho with ⟨ty, rfl⟩ | rfl | rfl | rfl
  · unfold mj_rti at h
    (repeat' split at h) <;> first | exact mj_none h | cases h
  · unfold mj_rtl at h
    (repeat' split at h) <;> first | exact mj_none h | cases h
  · unfold mj_rta at h
    (repeat' split at h) <;> first | exact mj_none h | cases h
  · unfold mj_rtv at h
    (repeat' split at h) <;> first | exact mj_none h | cases h
set_option maxHeartbeats 4000000 in
/-- one instruction that is no call and no return -/
theorem mj_next (A : mj_At G m p s mi args meth c) (hR : hp'.2.1 ≤ n0 + R.cells ∧ hp'.2.2 ≤ k0 + R.slots) (hF : mj_hgt m ≤ R.frames ∧ mj_lr m ≤ R.locals) {i : ClassFile.Instr} {len : Nat} (hd : decode (mj_code m) pc = .ok (i, len)) (hl : mj_lok i len = true) (h : mj_ex m i pc L st hp = some (.inl (pc', L', st', hp'))) (kk : mj_Go G p l e R s mi args below meth c Q m n0 k0 pc' L' st' hp') : mj_Go G p l e R s mi args below meth c Q m n0 k0 pc L st hp := by
  have A0 := A
  obtain ⟨hx, hb, hml, hown, hts, hK, hnm, hX, hbb⟩ := A
  cases i with
  | aconst_null =>
    obtain rfl : len = 1 := mj_lk hl
    change mj_cst .null (pc + 1) L st hp = _ at h
    unfold mj_cst at h
    obtain ⟨rfl, rfl, rfl, rfl⟩ := mj_nx_eq h
    intro H locs cells slots ls hI
    exact lv_null hx hb hd (kk _ _ _ _ _ hI)
  | iconst n =>
    obtain rfl : len = 1 := mj_lk hl
    change mj_cst (.int (Int32.ofInt n)) (pc + 1) L st hp = _ at h
    unfold mj_cst at h
    obtain ⟨rfl, rfl, rfl, rfl⟩ := mj_nx_eq h
    intro H locs cells slots ls hI
    exact lv_iconst hx hb hd rfl (kk _ _ _ _ _ hI)
  | bipush n =>
    obtain rfl : len = 2 := mj_lk hl
    change mj_cst (.int (Int8.ofInt n).toInt32) (pc + 2) L st hp = _ at h
    unfold mj_cst at h
    obtain ⟨rfl, rfl, rfl, rfl⟩ := mj_nx_eq h
    intro H locs cells slots ls hI
    exact lv_bipush hx hb hd rfl (kk _ _ _ _ _ hI)
  | sipush n =>
    obtain rfl : len = 3 := mj_lk hl
    change mj_cst (.int (Int16.ofInt n).toInt32) (pc + 3) L st hp = _ at h
    unfold mj_cst at h
    obtain ⟨rfl, rfl, rfl, rfl⟩ := mj_nx_eq h
    intro H locs cells slots ls hI
    exact lv_sipush hx hb hd rfl (kk _ _ _ _ _ hI)
  | lconst n =>
    obtain rfl : len = 1 := mj_lk hl
    change mj_cst (.long (Int64.ofNat (n : Nat))) (pc + 1) L st hp = _ at h
    unfold mj_cst at h
    obtain ⟨rfl, rfl, rfl, rfl⟩ := mj_nx_eq h
    intro H locs cells slots ls hI
    exact lv_lconst hx hb hd rfl (kk _ _ _ _ _ hI)
  | ldc x =>
    obtain rfl : len = 2 := mj_lk hl
    unfold mj_ex at h
    dsimp only at h
    cases hf : mj_find mj_kl (mj_on m) x with
    | none => rw [hf] at h; exact mj_none h
    | some v0 =>
      rw [hf] at h
      cases v0 with
      | int v =>
        dsimp only at h
        unfold mj_cst at h
        obtain ⟨rfl, rfl, rfl, rfl⟩ := mj_nx_eq h
        intro H locs cells slots ls hI
        exact lv_ldc hx hb hown (hts _ (mj_ok_kli (mj_find_mem hf))) hd (kk _ _ _ _ _ hI)
      | _ => exact mj_none h
  | ldc2_w x =>
    obtain rfl : len = 3 := mj_lk hl
    unfold mj_ex at h
    dsimp only at h
    cases hf : mj_find mj_kl (mj_on m) x with
    | none => rw [hf] at h; exact mj_none h
    | some v0 =>
      rw [hf] at h
      cases v0 with
      | long v =>
        dsimp only at h
        unfold mj_cst at h
        obtain ⟨rfl, rfl, rfl, rfl⟩ := mj_nx_eq h
        intro H locs cells slots ls hI
        exact lv_ldc2 hx hb hown (hts _ (mj_ok_kll (mj_find_mem hf))) hd (kk _ _ _ _ _ hI)
      | _ => exact mj_none h
  | iload i =>
    obtain rfl : len = 2 := mj_lk hl
    change mj_ild i (pc + 2) L st hp = _ at h
    unfold mj_ild at h
    intro H locs cells slots ls hI
    split at h
    · rename_i x hq
      obtain ⟨rfl, rfl, rfl, rfl⟩ := mj_nx_eq h
      exact lv_iload hx hb hd (hI.1.2.2.2 _ _ hq) (kk _ _ _ _ _ hI)
    · exact mj_none h
  | iload_n k =>
    obtain rfl : len = 1 := mj_lk hl
    change mj_ild (k : Nat) (pc + 1) L st hp = _ at h
    unfold mj_ild at h
    intro H locs cells slots ls hI
    split at h
    · rename_i x hq
      obtain ⟨rfl, rfl, rfl, rfl⟩ := mj_nx_eq h
      exact lv_iload_n hx hb hd rfl (hI.1.2.2.2 _ _ hq) (kk _ _ _ _ _ hI)
    · exact mj_none h
  | lload i =>
    obtain rfl : len = 2 := mj_lk hl
    change mj_lld i (pc + 2) L st hp = _ at h
    unfold mj_lld at h
    intro H locs cells slots ls hI
    split at h
    · rename_i x hq
      obtain ⟨rfl, rfl, rfl, rfl⟩ := mj_nx_eq h
      exact lv_lload hx hb hd (hI.1.2.2.2 _ _ hq) (kk _ _ _ _ _ hI)
    · exact mj_none h
  | lload_n k =>
    obtain rfl : len = 1 := mj_lk hl
    change mj_lld (k : Nat) (pc + 1) L st hp = _ at h
    unfold mj_lld at h
    intro H locs cells slots ls hI
    split at h
    · rename_i x hq
      obtain ⟨rfl, rfl, rfl, rfl⟩ := mj_nx_eq h
      exact lv_lload_n hx hb hd rfl (hI.1.2.2.2 _ _ hq) (kk _ _ _ _ _ hI)
    · exact mj_none h
  | aload i =>
    obtain rfl : len = 2 := mj_lk hl
    change mj_ald i (pc + 2) L st hp = _ at h
    unfold mj_ald at h
    intro H locs cells slots ls hI
    split at h
    · rename_i x hq
      obtain ⟨rfl, rfl, rfl, rfl⟩ := mj_nx_eq h
      exact lv_aload hx hb hd (hI.1.2.2.2 _ _ hq) (kk _ _ _ _ _ hI)
    · rename_i hq
      obtain ⟨rfl, rfl, rfl, rfl⟩ := mj_nx_eq h
      exact lv_aloadN hx hb hd (hI.1.2.2.2 _ _ hq) (kk _ _ _ _ _ hI)
    · exact mj_none h
  | aload_n k =>
    obtain rfl : len = 1 := mj_lk hl
    change mj_ald (k : Nat) (pc + 1) L st hp = _ at h
    unfold mj_ald at h
    intro H locs cells slots ls hI
    split at h
    · rename_i x hq
      obtain ⟨rfl, rfl, rfl, rfl⟩ := mj_nx_eq h
      exact lv_aload_n hx hb hd rfl (hI.1.2.2.2 _ _ hq) (kk _ _ _ _ _ hI)
    · rename_i hq
      obtain ⟨rfl, rfl, rfl, rfl⟩ := mj_nx_eq h
      exact lv_aload_nN hx hb hd rfl (hI.1.2.2.2 _ _ hq) (kk _ _ _ _ _ hI)
    · exact mj_none h
  | istore i =>
    obtain rfl : len = 2 := mj_lk hl
    change mj_ist i (pc + 2) L st hp = _ at h
    unfold mj_ist at h
    intro H locs cells slots ls hI
    have hLn := hI.1.1
    split at h
    · rename_i x rest
      split at h
      · rename_i hlt
        obtain ⟨rfl, rfl, rfl, rfl⟩ := mj_nx_eq h
        exact lv_istore hx hb hd hI.1.has (by omega) rfl (fun ls' h' => kk _ _ _ _ _ (hI.loc (mj_hasL.st1 hLn (by omega) h')))
      · exact mj_none h
    · exact mj_none h
  | istore_n k =>
    obtain rfl : len = 1 := mj_lk hl
    change mj_ist (k : Nat) (pc + 1) L st hp = _ at h
    unfold mj_ist at h
    intro H locs cells slots ls hI
    have hLn := hI.1.1
    split at h
    · rename_i x rest
      split at h
      · rename_i hlt
        obtain ⟨rfl, rfl, rfl, rfl⟩ := mj_nx_eq h
        exact lv_istore_n hx hb hd rfl hI.1.has (by omega) rfl (fun ls' h' => kk _ _ _ _ _ (hI.loc (mj_hasL.st1 hLn (by omega) h')))
      · exact mj_none h
    · exact mj_none h
  | lstore i =>
    obtain rfl : len = 2 := mj_lk hl
    change mj_lst i (pc + 2) L st hp = _ at h
    unfold mj_lst at h
    intro H locs cells slots ls hI
    have hLn := hI.1.1
    split at h
    · rename_i x rest
      split at h
      · rename_i hlt
        obtain ⟨rfl, rfl, rfl, rfl⟩ := mj_nx_eq h
        exact lv_lstore hx hb hd hI.1.has (by omega) rfl (fun ls' h' => kk _ _ _ _ _ (hI.loc (mj_hasL.st2 hLn (by omega) h')))
      · exact mj_none h
    · exact mj_none h
  | lstore_n k =>
    obtain rfl : len = 1 := mj_lk hl
    change mj_lst (k : Nat) (pc + 1) L st hp = _ at h
    unfold mj_lst at h
    intro H locs cells slots ls hI
    have hLn := hI.1.1
    split at h
    · rename_i x rest
      split at h
      · rename_i hlt
        obtain ⟨rfl, rfl, rfl, rfl⟩ := mj_nx_eq h
        exact lv_lstore_n hx hb hd rfl hI.1.has (by omega) rfl (fun ls' h' => kk _ _ _ _ _ (hI.loc (mj_hasL.st2 hLn (by omega) h')))
      · exact mj_none h
    · exact mj_none h
  | astore i =>
    obtain rfl : len = 2 := mj_lk hl
    change mj_ast i (pc + 2) L st hp = _ at h
    unfold mj_ast at h
    intro H locs cells slots ls hI
    have hLn := hI.1.1
    split at h
    · rename_i x rest
      split at h
      · rename_i hlt
        obtain ⟨rfl, rfl, rfl, rfl⟩ := mj_nx_eq h
        exact lv_astore hx hb hd hI.1.has (by omega) rfl (fun ls' h' => kk _ _ _ _ _ (hI.loc (mj_hasL.st1 hLn (by omega) h')))
      · exact mj_none h
    · rename_i rest
      split at h
      · rename_i hlt
        obtain ⟨rfl, rfl, rfl, rfl⟩ := mj_nx_eq h
        exact lv_astoreN hx hb hd hI.1.has (by omega) rfl (fun ls' h' => kk _ _ _ _ _ (hI.loc (mj_hasL.st1 hLn (by omega) h')))
      · exact mj_none h
    · exact mj_none h
  | astore_n k =>
    obtain rfl : len = 1 := mj_lk hl
    change mj_ast (k : Nat) (pc + 1) L st hp = _ at h
    unfold mj_ast at h
    intro H locs cells slots ls hI
    have hLn := hI.1.1
    split at h
    · rename_i x rest
      split at h
      · rename_i hlt
        obtain ⟨rfl, rfl, rfl, rfl⟩ := mj_nx_eq h
        exact lv_astore_n hx hb hd rfl hI.1.has (by omega) rfl (fun ls' h' => kk _ _ _ _ _ (hI.loc (mj_hasL.st1 hLn (by omega) h')))
      · exact mj_none h
    · rename_i rest
      split at h
      · rename_i hlt
        obtain ⟨rfl, rfl, rfl, rfl⟩ := mj_nx_eq h
        exact lv_astore_nN hx hb hd rfl hI.1.has (by omega) rfl (fun ls' h' => kk _ _ _ _ _ (hI.loc (mj_hasL.st1 hLn (by omega) h')))
      · exact mj_none h
    · exact mj_none h
  | iinc i n =>
    obtain rfl : len = 3 := mj_lk hl
    change mj_inc i (Int32.ofInt n) (pc + 3) L st hp = _ at h
    unfold mj_inc at h
    intro H locs cells slots ls hI
    have hLn := hI.1.1
    split at h
    · rename_i x hq
      split at h
      · rename_i hlt
        obtain ⟨rfl, rfl, rfl, rfl⟩ := mj_nx_eq h
        obtain ⟨kq, hkq⟩ := List.getElem?_of_mem ((mj_en_mem L 0 (i, .int x)).mpr ⟨i, (Nat.zero_add i).symm, hq⟩)
        exact lv_iinc hx hb hd hI.1.has hkq rfl (by omega) rfl (fun ls' h' => kk _ _ _ _ _ (hI.loc (mj_hasL.st1 hLn (by omega) h')))
      · exact mj_none h
    · exact mj_none h
  | iadd =>
    obtain rfl : len = 1 := mj_lk hl
    change mj_ii (fun x y => x + y) (pc + 1) L st hp = _ at h
    unfold mj_ii at h
    intro H locs cells slots ls hI
    split at h
    · obtain ⟨rfl, rfl, rfl, rfl⟩ := mj_nx_eq h
      exact lv_iadd hx hb hd (kk _ _ _ _ _ hI)
    · exact mj_none h
  | isub =>
    obtain rfl : len = 1 := mj_lk hl
    change mj_ii (fun x y => x - y) (pc + 1) L st hp = _ at h
    unfold mj_ii at h
    intro H locs cells slots ls hI
    split at h
    · obtain ⟨rfl, rfl, rfl, rfl⟩ := mj_nx_eq h
      exact lv_isub hx hb hd (kk _ _ _ _ _ hI)
    · exact mj_none h
  | imul =>
    obtain rfl : len = 1 := mj_lk hl
    change mj_ii (fun x y => x * y) (pc + 1) L st hp = _ at h
    unfold mj_ii at h
    intro H locs cells slots ls hI
    split at h
    · obtain ⟨rfl, rfl, rfl, rfl⟩ := mj_nx_eq h
      exact lv_imul hx hb hd (kk _ _ _ _ _ hI)
    · exact mj_none h
  | iand =>
    obtain rfl : len = 1 := mj_lk hl
    change mj_ii (fun x y => x &&& y) (pc + 1) L st hp = _ at h
    unfold mj_ii at h
    intro H locs cells slots ls hI
    split at h
    · obtain ⟨rfl, rfl, rfl, rfl⟩ := mj_nx_eq h
      exact lv_iand hx hb hd (kk _ _ _ _ _ hI)
    · exact mj_none h
  | ior =>
    obtain rfl : len = 1 := mj_lk hl
    change mj_ii (fun x y => x ||| y) (pc + 1) L st hp = _ at h
    unfold mj_ii at h
    intro H locs cells slots ls hI
    split at h
    · obtain ⟨rfl, rfl, rfl, rfl⟩ := mj_nx_eq h
      exact lv_ior hx hb hd (kk _ _ _ _ _ hI)
    · exact mj_none h
  | ixor =>
    obtain rfl : len = 1 := mj_lk hl
    change mj_ii (fun x y => x ^^^ y) (pc + 1) L st hp = _ at h
    unfold mj_ii at h
    intro H locs cells slots ls hI
    split at h
    · obtain ⟨rfl, rfl, rfl, rfl⟩ := mj_nx_eq h
      exact lv_ixor hx hb hd (kk _ _ _ _ _ hI)
    · exact mj_none h
  | ishl =>
    obtain rfl : len = 1 := mj_lk hl
    change mj_ii (fun x y => x <<< (y &&& 31)) (pc + 1) L st hp = _ at h
    unfold mj_ii at h
    intro H locs cells slots ls hI
    split at h
    · obtain ⟨rfl, rfl, rfl, rfl⟩ := mj_nx_eq h
      exact lv_ishl hx hb hd (kk _ _ _ _ _ hI)
    · exact mj_none h
  | ishr =>
    obtain rfl : len = 1 := mj_lk hl
    change mj_ii (fun x y => x >>> (y &&& 31)) (pc + 1) L st hp = _ at h
    unfold mj_ii at h
    intro H locs cells slots ls hI
    split at h
    · obtain ⟨rfl, rfl, rfl, rfl⟩ := mj_nx_eq h
      exact lv_ishr hx hb hd (kk _ _ _ _ _ hI)
    · exact mj_none h
  | iushr =>
    obtain rfl : len = 1 := mj_lk hl
    change mj_ii (fun x y => (x.toUInt32 >>> (y.toUInt32 &&& Int32.toUInt32 31)).toInt32) (pc + 1) L st hp = _ at h
    unfold mj_ii at h
    intro H locs cells slots ls hI
    split at h
    · obtain ⟨rfl, rfl, rfl, rfl⟩ := mj_nx_eq h
      exact lv_iushr hx hb hd rfl (kk _ _ _ _ _ hI)
    · exact mj_none h
  | idiv =>
    obtain rfl : len = 1 := mj_lk hl
    change mj_iz (fun x y => x / y) (pc + 1) L st hp = _ at h
    unfold mj_iz at h
    intro H locs cells slots ls hI
    split at h
    · split at h
      · exact mj_none h
      · rename_i hne
        obtain ⟨rfl, rfl, rfl, rfl⟩ := mj_nx_eq h
        exact lv_idiv hx hb hd hne (kk _ _ _ _ _ hI)
    · exact mj_none h
  | irem =>
    obtain rfl : len = 1 := mj_lk hl
    change mj_iz (fun x y => x - x / y * y) (pc + 1) L st hp = _ at h
    unfold mj_iz at h
    intro H locs cells slots ls hI
    split at h
    · split at h
      · exact mj_none h
      · rename_i hne
        obtain ⟨rfl, rfl, rfl, rfl⟩ := mj_nx_eq h
        exact lv_irem hx hb hd hne (kk _ _ _ _ _ hI)
    · exact mj_none h
  | ineg =>
    obtain rfl : len = 1 := mj_lk hl
    change mj_i1 (fun x => -x) (pc + 1) L st hp = _ at h
    unfold mj_i1 at h
    intro H locs cells slots ls hI
    split at h
    · obtain ⟨rfl, rfl, rfl, rfl⟩ := mj_nx_eq h
      exact lv_ineg hx hb hd (kk _ _ _ _ _ hI)
    · exact mj_none h
  | ladd =>
    obtain rfl : len = 1 := mj_lk hl
    change mj_ll (fun x y => x + y) (pc + 1) L st hp = _ at h
    unfold mj_ll at h
    intro H locs cells slots ls hI
    split at h
    · obtain ⟨rfl, rfl, rfl, rfl⟩ := mj_nx_eq h
      exact lv_ladd hx hb hd (kk _ _ _ _ _ hI)
    · exact mj_none h
  | lsub =>
    obtain rfl : len = 1 := mj_lk hl
    change mj_ll (fun x y => x - y) (pc + 1) L st hp = _ at h
    unfold mj_ll at h
    intro H locs cells slots ls hI
    split at h
    · obtain ⟨rfl, rfl, rfl, rfl⟩ := mj_nx_eq h
      exact lv_lsub hx hb hd (kk _ _ _ _ _ hI)
    · exact mj_none h
  | lmul =>
    obtain rfl : len = 1 := mj_lk hl
    change mj_ll (fun x y => x * y) (pc + 1) L st hp = _ at h
    unfold mj_ll at h
    intro H locs cells slots ls hI
    split at h
    · obtain ⟨rfl, rfl, rfl, rfl⟩ := mj_nx_eq h
      exact lv_lmul hx hb hd (kk _ _ _ _ _ hI)
    · exact mj_none h
  | land =>
    obtain rfl : len = 1 := mj_lk hl
    change mj_ll (fun x y => x &&& y) (pc + 1) L st hp = _ at h
    unfold mj_ll at h
    intro H locs cells slots ls hI
    split at h
    · obtain ⟨rfl, rfl, rfl, rfl⟩ := mj_nx_eq h
      exact lv_land hx hb hd (kk _ _ _ _ _ hI)
    · exact mj_none h
  | lor =>
    obtain rfl : len = 1 := mj_lk hl
    change mj_ll (fun x y => x ||| y) (pc + 1) L st hp = _ at h
    unfold mj_ll at h
    intro H locs cells slots ls hI
    split at h
    · obtain ⟨rfl, rfl, rfl, rfl⟩ := mj_nx_eq h
      exact lv_lor hx hb hd (kk _ _ _ _ _ hI)
    · exact mj_none h
  | lxor =>
    obtain rfl : len = 1 := mj_lk hl
    change mj_ll (fun x y => x ^^^ y) (pc + 1) L st hp = _ at h
    unfold mj_ll at h
    intro H locs cells slots ls hI
    split at h
    · obtain ⟨rfl, rfl, rfl, rfl⟩ := mj_nx_eq h
      exact lv_lxor hx hb hd (kk _ _ _ _ _ hI)
    · exact mj_none h
  | lneg =>
    obtain rfl : len = 1 := mj_lk hl
    change mj_l1 (fun x => -x) (pc + 1) L st hp = _ at h
    unfold mj_l1 at h
    intro H locs cells slots ls hI
    split at h
    · obtain ⟨rfl, rfl, rfl, rfl⟩ := mj_nx_eq h
      exact lv_lneg hx hb hd (kk _ _ _ _ _ hI)
    · exact mj_none h
  | lshl =>
    obtain rfl : len = 1 := mj_lk hl
    change mj_li (fun x y => x <<< (y.toInt64 &&& 63)) (pc + 1) L st hp = _ at h
    unfold mj_li at h
    intro H locs cells slots ls hI
    split at h
    · obtain ⟨rfl, rfl, rfl, rfl⟩ := mj_nx_eq h
      exact lv_lshl hx hb hd rfl (kk _ _ _ _ _ hI)
    · exact mj_none h
  | lshr =>
    obtain rfl : len = 1 := mj_lk hl
    change mj_li (fun x y => x >>> (y.toInt64 &&& 63)) (pc + 1) L st hp = _ at h
    unfold mj_li at h
    intro H locs cells slots ls hI
    split at h
    · obtain ⟨rfl, rfl, rfl, rfl⟩ := mj_nx_eq h
      exact lv_lshr hx hb hd rfl (kk _ _ _ _ _ hI)
    · exact mj_none h
  | lushr =>
    obtain rfl : len = 1 := mj_lk hl
    change mj_li (fun x y => (x.toUInt64 >>> (y.toInt64.toUInt64 &&& Int64.toUInt64 63)).toInt64) (pc + 1) L st hp = _ at h
    unfold mj_li at h
    intro H locs cells slots ls hI
    split at h
    · obtain ⟨rfl, rfl, rfl, rfl⟩ := mj_nx_eq h
      exact lv_lushr hx hb hd rfl (kk _ _ _ _ _ hI)
    · exact mj_none h
  | i2l =>
    obtain rfl : len = 1 := mj_lk hl
    change mj_i2l (pc + 1) L st hp = _ at h
    unfold mj_i2l at h
    intro H locs cells slots ls hI
    split at h
    · obtain ⟨rfl, rfl, rfl, rfl⟩ := mj_nx_eq h
      exact lv_i2l hx hb hd rfl (kk _ _ _ _ _ hI)
    · exact mj_none h
  | l2i =>
    obtain rfl : len = 1 := mj_lk hl
    change mj_l2i (pc + 1) L st hp = _ at h
    unfold mj_l2i at h
    intro H locs cells slots ls hI
    split at h
    · obtain ⟨rfl, rfl, rfl, rfl⟩ := mj_nx_eq h
      exact lv_l2i hx hb hd rfl (kk _ _ _ _ _ hI)
    · exact mj_none h
  | lcmp =>
    obtain rfl : len = 1 := mj_lk hl
    change mj_lcm (pc + 1) L st hp = _ at h
    unfold mj_lcm at h
    intro H locs cells slots ls hI
    split at h
    · obtain ⟨rfl, rfl, rfl, rfl⟩ := mj_nx_eq h
      exact W.lcmp hx hb hd (kk _ _ _ _ _ hI)
    · exact mj_none h
  | ifCond cond off =>
    obtain rfl : len = 3 := mj_lk hl
    intro H locs cells slots ls hI
    cases cond
    case eq =>
      change mj_b pc off (fun t => mj_if (fun x => decide (x = 0)) t (pc + 3)) L st hp = _ at h
      unfold mj_b at h
      split at h
      · rename_i h0
        dsimp only at h
        have ht : (pc : Int) + off = ((((pc : Int) + off).toNat : Nat) : Int) := (Int.toNat_of_nonneg h0).symm
        unfold mj_if at h
        split at h
        · split at h
          · rename_i hc
            obtain ⟨rfl, rfl, rfl, rfl⟩ := mj_nx_eq h
            exact lv_if_eq hx hb hd ht (fun _ => kk _ _ _ _ _ hI) (fun h9 => (by first | exact absurd (of_decide_eq_true hc) h9 | exact absurd h9 (of_decide_eq_true hc)))
          · rename_i hc
            obtain ⟨rfl, rfl, rfl, rfl⟩ := mj_nx_eq h
            exact lv_if_eq hx hb hd ht (fun h9 => (by first | exact absurd (decide_eq_true h9) hc)) (fun _ => kk _ _ _ _ _ hI)
        · exact mj_none h
      · exact mj_none h
    case ne =>
      change mj_b pc off (fun t => mj_if (fun x => decide (¬ x = 0)) t (pc + 3)) L st hp = _ at h
      unfold mj_b at h
      split at h
      · rename_i h0
        dsimp only at h
        have ht : (pc : Int) + off = ((((pc : Int) + off).toNat : Nat) : Int) := (Int.toNat_of_nonneg h0).symm
        unfold mj_if at h
        split at h
        · split at h
          · rename_i hc
            obtain ⟨rfl, rfl, rfl, rfl⟩ := mj_nx_eq h
            exact lv_if_ne hx hb hd ht (fun _ => kk _ _ _ _ _ hI) (fun h9 => (by first | exact absurd (of_decide_eq_true hc) h9 | exact absurd h9 (of_decide_eq_true hc)))
          · rename_i hc
            obtain ⟨rfl, rfl, rfl, rfl⟩ := mj_nx_eq h
            exact lv_if_ne hx hb hd ht (fun h9 => (by first | exact absurd (decide_eq_true h9) hc)) (fun _ => kk _ _ _ _ _ hI)
        · exact mj_none h
      · exact mj_none h
    case lt =>
      change mj_b pc off (fun t => mj_if (fun x => decide (x < 0)) t (pc + 3)) L st hp = _ at h
      unfold mj_b at h
      split at h
      · rename_i h0
        dsimp only at h
        have ht : (pc : Int) + off = ((((pc : Int) + off).toNat : Nat) : Int) := (Int.toNat_of_nonneg h0).symm
        unfold mj_if at h
        split at h
        · split at h
          · rename_i hc
            obtain ⟨rfl, rfl, rfl, rfl⟩ := mj_nx_eq h
            exact lv_if_lt hx hb hd ht (fun _ => kk _ _ _ _ _ hI) (fun h9 => (by first | exact absurd (of_decide_eq_true hc) h9 | exact absurd h9 (of_decide_eq_true hc)))
          · rename_i hc
            obtain ⟨rfl, rfl, rfl, rfl⟩ := mj_nx_eq h
            exact lv_if_lt hx hb hd ht (fun h9 => (by first | exact absurd (decide_eq_true h9) hc)) (fun _ => kk _ _ _ _ _ hI)
        · exact mj_none h
      · exact mj_none h
    case ge =>
      change mj_b pc off (fun t => mj_if (fun x => decide (0 ≤ x)) t (pc + 3)) L st hp = _ at h
      unfold mj_b at h
      split at h
      · rename_i h0
        dsimp only at h
        have ht : (pc : Int) + off = ((((pc : Int) + off).toNat : Nat) : Int) := (Int.toNat_of_nonneg h0).symm
        unfold mj_if at h
        split at h
        · split at h
          · rename_i hc
            obtain ⟨rfl, rfl, rfl, rfl⟩ := mj_nx_eq h
            exact lv_if_ge hx hb hd ht (fun _ => kk _ _ _ _ _ hI) (fun h9 => (by first | exact absurd (of_decide_eq_true hc) h9 | exact absurd h9 (of_decide_eq_true hc)))
          · rename_i hc
            obtain ⟨rfl, rfl, rfl, rfl⟩ := mj_nx_eq h
            exact lv_if_ge hx hb hd ht (fun h9 => (by first | exact absurd (decide_eq_true h9) hc)) (fun _ => kk _ _ _ _ _ hI)
        · exact mj_none h
      · exact mj_none h
    case gt =>
      change mj_b pc off (fun t => mj_if (fun x => decide (0 < x)) t (pc + 3)) L st hp = _ at h
      unfold mj_b at h
      split at h
      · rename_i h0
        dsimp only at h
        have ht : (pc : Int) + off = ((((pc : Int) + off).toNat : Nat) : Int) := (Int.toNat_of_nonneg h0).symm
        unfold mj_if at h
        split at h
        · split at h
          · rename_i hc
            obtain ⟨rfl, rfl, rfl, rfl⟩ := mj_nx_eq h
            exact lv_if_gt hx hb hd ht (fun _ => kk _ _ _ _ _ hI) (fun h9 => (by first | exact absurd (of_decide_eq_true hc) h9 | exact absurd h9 (of_decide_eq_true hc)))
          · rename_i hc
            obtain ⟨rfl, rfl, rfl, rfl⟩ := mj_nx_eq h
            exact lv_if_gt hx hb hd ht (fun h9 => (by first | exact absurd (decide_eq_true h9) hc)) (fun _ => kk _ _ _ _ _ hI)
        · exact mj_none h
      · exact mj_none h
    case le =>
      change mj_b pc off (fun t => mj_if (fun x => decide (x ≤ 0)) t (pc + 3)) L st hp = _ at h
      unfold mj_b at h
      split at h
      · rename_i h0
        dsimp only at h
        have ht : (pc : Int) + off = ((((pc : Int) + off).toNat : Nat) : Int) := (Int.toNat_of_nonneg h0).symm
        unfold mj_if at h
        split at h
        · split at h
          · rename_i hc
            obtain ⟨rfl, rfl, rfl, rfl⟩ := mj_nx_eq h
            exact lv_if_le hx hb hd ht (fun _ => kk _ _ _ _ _ hI) (fun h9 => (by first | exact absurd (of_decide_eq_true hc) h9 | exact absurd h9 (of_decide_eq_true hc)))
          · rename_i hc
            obtain ⟨rfl, rfl, rfl, rfl⟩ := mj_nx_eq h
            exact lv_if_le hx hb hd ht (fun h9 => (by first | exact absurd (decide_eq_true h9) hc)) (fun _ => kk _ _ _ _ _ hI)
        · exact mj_none h
      · exact mj_none h
  | if_icmp cond off =>
    obtain rfl : len = 3 := mj_lk hl
    intro H locs cells slots ls hI
    cases cond
    case eq =>
      change mj_b pc off (fun t => mj_ic (fun x y => decide (x = y)) t (pc + 3)) L st hp = _ at h
      unfold mj_b at h
      split at h
      · rename_i h0
        dsimp only at h
        have ht : (pc : Int) + off = ((((pc : Int) + off).toNat : Nat) : Int) := (Int.toNat_of_nonneg h0).symm
        unfold mj_ic at h
        split at h
        · split at h
          · rename_i hc
            obtain ⟨rfl, rfl, rfl, rfl⟩ := mj_nx_eq h
            exact lv_icmp_eq hx hb hd ht (fun _ => kk _ _ _ _ _ hI) (fun h9 => (by first | exact absurd (of_decide_eq_true hc) h9 | exact absurd h9 (of_decide_eq_true hc)))
          · rename_i hc
            obtain ⟨rfl, rfl, rfl, rfl⟩ := mj_nx_eq h
            exact lv_icmp_eq hx hb hd ht (fun h9 => (by first | exact absurd (decide_eq_true h9) hc)) (fun _ => kk _ _ _ _ _ hI)
        · exact mj_none h
      · exact mj_none h
    case ne =>
      change mj_b pc off (fun t => mj_ic (fun x y => decide (¬ x = y)) t (pc + 3)) L st hp = _ at h
      unfold mj_b at h
      split at h
      · rename_i h0
        dsimp only at h
        have ht : (pc : Int) + off = ((((pc : Int) + off).toNat : Nat) : Int) := (Int.toNat_of_nonneg h0).symm
        unfold mj_ic at h
        split at h
        · split at h
          · rename_i hc
            obtain ⟨rfl, rfl, rfl, rfl⟩ := mj_nx_eq h
            exact lv_icmp_ne hx hb hd ht (fun _ => kk _ _ _ _ _ hI) (fun h9 => (by first | exact absurd (of_decide_eq_true hc) h9 | exact absurd h9 (of_decide_eq_true hc)))
          · rename_i hc
            obtain ⟨rfl, rfl, rfl, rfl⟩ := mj_nx_eq h
            exact lv_icmp_ne hx hb hd ht (fun h9 => (by first | exact absurd (decide_eq_true h9) hc)) (fun _ => kk _ _ _ _ _ hI)
        · exact mj_none h
      · exact mj_none h
    case lt =>
      change mj_b pc off (fun t => mj_ic (fun x y => decide (x < y)) t (pc + 3)) L st hp = _ at h
      unfold mj_b at h
      split at h
      · rename_i h0
        dsimp only at h
        have ht : (pc : Int) + off = ((((pc : Int) + off).toNat : Nat) : Int) := (Int.toNat_of_nonneg h0).symm
        unfold mj_ic at h
        split at h
        · split at h
          · rename_i hc
            obtain ⟨rfl, rfl, rfl, rfl⟩ := mj_nx_eq h
            exact lv_icmp_lt hx hb hd ht (fun _ => kk _ _ _ _ _ hI) (fun h9 => (by first | exact absurd (of_decide_eq_true hc) h9 | exact absurd h9 (of_decide_eq_true hc)))
          · rename_i hc
            obtain ⟨rfl, rfl, rfl, rfl⟩ := mj_nx_eq h
            exact lv_icmp_lt hx hb hd ht (fun h9 => (by first | exact absurd (decide_eq_true h9) hc)) (fun _ => kk _ _ _ _ _ hI)
        · exact mj_none h
      · exact mj_none h
    case ge =>
      change mj_b pc off (fun t => mj_ic (fun x y => decide (y ≤ x)) t (pc + 3)) L st hp = _ at h
      unfold mj_b at h
      split at h
      · rename_i h0
        dsimp only at h
        have ht : (pc : Int) + off = ((((pc : Int) + off).toNat : Nat) : Int) := (Int.toNat_of_nonneg h0).symm
        unfold mj_ic at h
        split at h
        · split at h
          · rename_i hc
            obtain ⟨rfl, rfl, rfl, rfl⟩ := mj_nx_eq h
            exact lv_icmp_ge hx hb hd ht (fun _ => kk _ _ _ _ _ hI) (fun h9 => (by first | exact absurd (of_decide_eq_true hc) h9 | exact absurd h9 (of_decide_eq_true hc)))
          · rename_i hc
            obtain ⟨rfl, rfl, rfl, rfl⟩ := mj_nx_eq h
            exact lv_icmp_ge hx hb hd ht (fun h9 => (by first | exact absurd (decide_eq_true h9) hc)) (fun _ => kk _ _ _ _ _ hI)
        · exact mj_none h
      · exact mj_none h
    case gt =>
      change mj_b pc off (fun t => mj_ic (fun x y => decide (y < x)) t (pc + 3)) L st hp = _ at h
      unfold mj_b at h
      split at h
      · rename_i h0
        dsimp only at h
        have ht : (pc : Int) + off = ((((pc : Int) + off).toNat : Nat) : Int) := (Int.toNat_of_nonneg h0).symm
        unfold mj_ic at h
        split at h
        · split at h
          · rename_i hc
            obtain ⟨rfl, rfl, rfl, rfl⟩ := mj_nx_eq h
            exact lv_icmp_gt hx hb hd ht (fun _ => kk _ _ _ _ _ hI) (fun h9 => (by first | exact absurd (of_decide_eq_true hc) h9 | exact absurd h9 (of_decide_eq_true hc)))
          · rename_i hc
            obtain ⟨rfl, rfl, rfl, rfl⟩ := mj_nx_eq h
            exact lv_icmp_gt hx hb hd ht (fun h9 => (by first | exact absurd (decide_eq_true h9) hc)) (fun _ => kk _ _ _ _ _ hI)
        · exact mj_none h
      · exact mj_none h
    case le =>
      change mj_b pc off (fun t => mj_ic (fun x y => decide (x ≤ y)) t (pc + 3)) L st hp = _ at h
      unfold mj_b at h
      split at h
      · rename_i h0
        dsimp only at h
        have ht : (pc : Int) + off = ((((pc : Int) + off).toNat : Nat) : Int) := (Int.toNat_of_nonneg h0).symm
        unfold mj_ic at h
        split at h
        · split at h
          · rename_i hc
            obtain ⟨rfl, rfl, rfl, rfl⟩ := mj_nx_eq h
            exact lv_icmp_le hx hb hd ht (fun _ => kk _ _ _ _ _ hI) (fun h9 => (by first | exact absurd (of_decide_eq_true hc) h9 | exact absurd h9 (of_decide_eq_true hc)))
          · rename_i hc
            obtain ⟨rfl, rfl, rfl, rfl⟩ := mj_nx_eq h
            exact lv_icmp_le hx hb hd ht (fun h9 => (by first | exact absurd (decide_eq_true h9) hc)) (fun _ => kk _ _ _ _ _ hI)
        · exact mj_none h
      · exact mj_none h
  | ifnull off =>
    obtain rfl : len = 3 := mj_lk hl
    change mj_b pc off (fun t => mj_ifn t (pc + 3)) L st hp = _ at h
    intro H locs cells slots ls hI
    unfold mj_b at h
    split at h
    · rename_i h0
      dsimp only at h
      have ht : (pc : Int) + off = ((((pc : Int) + off).toNat : Nat) : Int) := (Int.toNat_of_nonneg h0).symm
      unfold mj_ifn at h
      split at h
      · obtain ⟨rfl, rfl, rfl, rfl⟩ := mj_nx_eq h
        exact lv_ifnullN hx hb hd ht (kk _ _ _ _ _ hI)
      · obtain ⟨rfl, rfl, rfl, rfl⟩ := mj_nx_eq h
        exact lv_ifnull hx hb hd (kk _ _ _ _ _ hI)
      · exact mj_none h
    · exact mj_none h
  | ifnonnull off =>
    obtain rfl : len = 3 := mj_lk hl
    change mj_b pc off (fun t => mj_ifn (pc + 3) t) L st hp = _ at h
    intro H locs cells slots ls hI
    unfold mj_b at h
    split at h
    · rename_i h0
      dsimp only at h
      have ht : (pc : Int) + off = ((((pc : Int) + off).toNat : Nat) : Int) := (Int.toNat_of_nonneg h0).symm
      unfold mj_ifn at h
      split at h
      · obtain ⟨rfl, rfl, rfl, rfl⟩ := mj_nx_eq h
        exact lv_ifnonnullN hx hb hd (kk _ _ _ _ _ hI)
      · obtain ⟨rfl, rfl, rfl, rfl⟩ := mj_nx_eq h
        exact lv_ifnonnull hx hb hd ht (kk _ _ _ _ _ hI)
      · exact mj_none h
    · exact mj_none h
  | goto off =>
    obtain rfl : len = 3 := mj_lk hl
    change mj_b pc off (fun t => mj_go t) L st hp = _ at h
    intro H locs cells slots ls hI
    unfold mj_b at h
    split at h
    · rename_i h0
      dsimp only at h
      have ht : (pc : Int) + off = ((((pc : Int) + off).toNat : Nat) : Int) := (Int.toNat_of_nonneg h0).symm
      unfold mj_go at h
      obtain ⟨rfl, rfl, rfl, rfl⟩ := mj_nx_eq h
      exact lv_goto hx hb hd ht (kk _ _ _ _ _ hI)
    · exact mj_none h
  | tableswitch d lo hi offs =>
    unfold mj_ex at h
    dsimp only at h
    intro H locs cells slots ls hI
    split at h
    · rename_i hbs
      have hbs' : ∀ o ∈ d :: offs.toList, 0 ≤ (pc : Int) + o := fun o ho => by simpa using List.all_eq_true.mp hbs o ho
      unfold mj_tsw at h
      split at h
      · split at h
        · rename_i hrg
          obtain ⟨rfl, rfl, rfl, rfl⟩ := mj_nx_eq h
          exact lv_tableOut hx hb hd hrg (Int.toNat_of_nonneg (hbs' d List.mem_cons_self)).symm (kk _ _ _ _ _ hI)
        · rename_i hrg
          split at h
          · rename_i t ht
            obtain ⟨rfl, rfl, rfl, rfl⟩ := mj_nx_eq h
            rw [List.getElem?_map] at ht
            obtain ⟨off, ho1, ho2⟩ := Option.map_eq_some_iff.mp ht
            subst ho2
            have ho3 := hbs' off (List.mem_cons_of_mem _ (List.mem_of_getElem? ho1))
            exact lv_tableIn hx hb hd (fun q => hrg (Or.inl q)) (fun q => hrg (Or.inr q)) (by rw [← Array.getElem?_toList]; exact ho1) (Int.toNat_of_nonneg ho3).symm (kk _ _ _ _ _ hI)
          · exact mj_none h
      · exact mj_none h
    · exact mj_none h
  | dup =>
    obtain rfl : len = 1 := mj_lk hl
    change mj_dup (pc + 1) L st hp = _ at h
    unfold mj_dup at h
    intro H locs cells slots ls hI
    split at h
    · split at h
      · rename_i hc
        obtain ⟨rfl, rfl, rfl, rfl⟩ := mj_nx_eq h
        exact lv_dup hx hb hd hc (kk _ _ _ _ _ hI)
      · exact mj_none h
    · exact mj_none h
  | pop =>
    obtain rfl : len = 1 := mj_lk hl
    change mj_pop (pc + 1) L st hp = _ at h
    unfold mj_pop at h
    intro H locs cells slots ls hI
    split at h
    · split at h
      · rename_i hc
        obtain ⟨rfl, rfl, rfl, rfl⟩ := mj_nx_eq h
        exact lv_pop hx hb hd hc (kk _ _ _ _ _ hI)
      · exact mj_none h
    · exact mj_none h
  | dup_x1 =>
    obtain rfl : len = 1 := mj_lk hl
    change mj_dx1 (pc + 1) L st hp = _ at h
    unfold mj_dx1 at h
    intro H locs cells slots ls hI
    split at h
    · split at h
      · rename_i hc
        obtain ⟨rfl, rfl, rfl, rfl⟩ := mj_nx_eq h
        exact lv_dup_x1 hx hb hd hc.1 hc.2 (kk _ _ _ _ _ hI)
      · exact mj_none h
    · exact mj_none h
  | dup_x2 =>
    obtain rfl : len = 1 := mj_lk hl
    change mj_dx2 (pc + 1) L st hp = _ at h
    unfold mj_dx2 at h
    intro H locs cells slots ls hI
    split at h
    · split at h
      · rename_i hc
        obtain ⟨rfl, rfl, rfl, rfl⟩ := mj_nx_eq h
        exact lv_dup_x2 hx hb hd hc.1 hc.2.1 hc.2.2 (kk _ _ _ _ _ hI)
      · exact mj_none h
    · exact mj_none h
  | dup2 =>
    obtain rfl : len = 1 := mj_lk hl
    change mj_d2 (pc + 1) L st hp = _ at h
    unfold mj_d2 at h
    intro H locs cells slots ls hI
    split at h
    · rename_i v w rest
      split at h
      · rename_i hc
        obtain ⟨rfl, rfl, rfl, rfl⟩ := mj_nx_eq h
        exact lv_dup2_2 hx hb hd hc (kk _ _ _ _ _ hI)
      · rename_i hc
        split at h
        · rename_i hc2
          obtain ⟨rfl, rfl, rfl, rfl⟩ := mj_nx_eq h
          exact lv_dup2_11 hx hb hd ((lv_cat v).resolve_right hc) hc2 (kk _ _ _ _ _ hI)
        · exact mj_none h
    · split at h
      · rename_i hc
        obtain ⟨rfl, rfl, rfl, rfl⟩ := mj_nx_eq h
        exact lv_dup2_2 hx hb hd hc (kk _ _ _ _ _ hI)
      · exact mj_none h
    · exact mj_none h
  | dup2_x1 =>
    obtain rfl : len = 1 := mj_lk hl
    change mj_d21 (pc + 1) L st hp = _ at h
    unfold mj_d21 at h
    intro H locs cells slots ls hI
    split at h
    · split at h
      · rename_i hc
        obtain ⟨rfl, rfl, rfl, rfl⟩ := mj_nx_eq h
        exact lv_dup2_x1_2 hx hb hd hc.1 hc.2 (kk _ _ _ _ _ hI)
      · exact mj_none h
    · exact mj_none h
  | getfield x =>
    obtain rfl : len = 3 := mj_lk hl
    unfold mj_ex at h
    dsimp only at h
    cases hf : mj_find mj_fl (mj_on m) x with
    | none => rw [hf] at h; exact mj_none h
    | some q =>
      obtain ⟨ci, k⟩ := q
      rw [hf] at h
      exact mj_go_get A0 hf hd h kk
  | putfield x =>
    obtain rfl : len = 3 := mj_lk hl
    unfold mj_ex at h
    dsimp only at h
    cases hf : mj_find mj_fl (mj_on m) x with
    | none => rw [hf] at h; exact mj_none h
    | some q =>
      obtain ⟨ci, k⟩ := q
      rw [hf] at h
      dsimp only at h
      by_cases hfin : mj_fin ci k = false ∨ ((mj_y m).name = "<init>" ∧ mj_fown ci k = mj_own m)
      · rw [if_pos hfin] at h
        exact mj_go_put A0 hf hfin hd h kk
      · rw [if_neg hfin] at h
        exact mj_none h
  | new x =>
    obtain rfl : len = 3 := mj_lk hl
    unfold mj_ex at h
    dsimp only at h
    cases hf : mj_find mj_nl (mj_on m) x with
    | none => rw [hf] at h; exact mj_none h
    | some ci =>
      rw [hf] at h
      exact mj_go_new A0 hR hf hd h kk
  | newarray ty =>
    obtain rfl : len = 2 := mj_lk hl
    cases ty
    case boolean =>
      unfold mj_ex at h
      dsimp only at h
      split at h
      · rename_i hat
        unfold mj_nwi at h
        split at h
        · split at h
          · exact mj_none h
          · rename_i hn
            obtain ⟨rfl, rfl, rfl, rfl⟩ := mj_nx_eq h
            exact mj_go_nwa A0 (ty := .boolean) hn rfl hat (mj_ok_at hat (by decide)) (by decide) (fun _ h9 => h9) (fun _ _ => rfl) hR hd kk
        · exact mj_none h
      · exact mj_none h
    case char =>
      exact mj_none h
    case float =>
      exact mj_none h
    case double =>
      exact mj_none h
    case byte =>
      exact mj_none h
    case short =>
      exact mj_none h
    case int =>
      unfold mj_ex at h
      dsimp only at h
      split at h
      · rename_i hat
        unfold mj_nwi at h
        split at h
        · split at h
          · exact mj_none h
          · rename_i hn
            obtain ⟨rfl, rfl, rfl, rfl⟩ := mj_nx_eq h
            exact mj_go_nwa A0 (ty := .int) hn rfl hat (mj_ok_at hat (by decide)) (by decide) (fun _ h9 => h9) (fun _ _ => rfl) hR hd kk
        · exact mj_none h
      · exact mj_none h
    case long =>
      unfold mj_ex at h
      dsimp only at h
      split at h
      · rename_i hat
        unfold mj_nwl at h
        split at h
        · split at h
          · exact mj_none h
          · rename_i hn
            obtain ⟨rfl, rfl, rfl, rfl⟩ := mj_nx_eq h
            exact mj_go_nwa A0 (ty := .long) hn rfl hat (mj_ok_at hat (by decide)) (by decide) (fun _ h9 => h9) (fun _ _ => rfl) hR hd kk
        · exact mj_none h
      · exact mj_none h
  | anewarray x =>
    obtain rfl : len = 3 := mj_lk hl
    unfold mj_ex at h
    dsimp only at h
    cases hf : mj_find mj_ql (mj_on m) x with
    | none => rw [hf] at h; exact mj_none h
    | some tq =>
      rw [hf] at h
      exact mj_go_nwq A0 hf hR hd h kk
  | arraylength =>
    obtain rfl : len = 1 := mj_lk hl
    exact mj_go_len A0 hd h kk
  | iaload =>
    obtain rfl : len = 1 := mj_lk hl
    exact mj_go_iar A0 (Or.inl ⟨rfl, hd⟩) h kk
  | baload =>
    obtain rfl : len = 1 := mj_lk hl
    exact mj_go_iar A0 (Or.inr ⟨rfl, hd⟩) h kk
  | laload =>
    obtain rfl : len = 1 := mj_lk hl
    exact mj_go_lar A0 hd h kk
  | aaload =>
    obtain rfl : len = 1 := mj_lk hl
    exact mj_go_aar A0 hd h kk
  | iastore =>
    obtain rfl : len = 1 := mj_lk hl
    exact mj_go_iaw A0 (Or.inl ⟨rfl, hd⟩) h kk
  | bastore =>
    obtain rfl : len = 1 := mj_lk hl
    exact mj_go_iaw A0 (Or.inr ⟨rfl, hd⟩) h kk
  | lastore =>
    obtain rfl : len = 1 := mj_lk hl
    exact mj_go_law A0 hd h kk
  | aastore =>
    obtain rfl : len = 1 := mj_lk hl
    exact mj_go_aaw A0 hd h kk
  | invokestatic x =>
    unfold mj_ex at h
    dsimp only at h
    cases hf : mj_find mj_ml (mj_on m) x with
    | none => rw [hf] at h; exact mj_none h
    | some q =>
      obtain ⟨m', kd⟩ := q
      rw [hf] at h
      dsimp only at h
      by_cases hkd : kd ≤ 1
      · rw [if_pos hkd] at h
        exact (mj_inv_inl (by omega) h).elim
      · rw [if_neg hkd] at h
        exact mj_none h
  | invokevirtual x =>
    unfold mj_ex at h
    dsimp only at h
    cases hf : mj_find mj_ml (mj_on m) x with
    | none => rw [hf] at h; exact mj_none h
    | some q =>
      obtain ⟨m', kd⟩ := q
      rw [hf] at h
      dsimp only at h
      by_cases hkd : 2 ≤ kd ∧ kd ≤ 3
      · rw [if_pos hkd] at h
        exact (mj_inv_inl (by omega) h).elim
      · rw [if_neg hkd] at h
        exact mj_none h
  | invokespecial x =>
    obtain rfl : len = 3 := mj_lk hl
    unfold mj_ex at h
    dsimp only at h
    cases hf : mj_find mj_ml (mj_on m) x with
    | none => rw [hf] at h; exact mj_none h
    | some q =>
      obtain ⟨m', kd⟩ := q
      rw [hf] at h
      dsimp only at h
      by_cases hkd : 4 ≤ kd
      · rw [if_pos hkd] at h
        by_cases h5 : kd = 5
        · subst h5
          obtain ⟨w1, w2, w3⟩ := mj_ok_ml5 (mj_find_mem hf)
          unfold mj_inv at h
          rw [if_pos rfl] at h
          by_cases hh : 1 ≤ mj_hgt m ∧ 20 ≤ mj_lr m
          · rw [if_pos hh] at h
            unfold mj_ob at h
            split at h
            · rename_i a rest
              split at h
              · rename_i hcat
                obtain ⟨rfl, rfl, rfl, rfl⟩ := mj_nx_eq h
                intro H locs cells slots ls hI
                unfold mj_cat at hcat
                have hm0 : ∀ (z : List Value), (F0 mi pc ls z).monitorRoom = 0 := fun _ => rfl
                exact W.objInit hx hb hown (hts _ w1) (hts _ w2) (hts _ w3) rfl (by rw [hml]; exact hI.1.2.1) rfl hd (by omega) (by rw [hm0]; omega) (kk _ _ _ _ _ hI)
              · exact mj_none h
            · exact mj_none h
          · rw [if_neg hh] at h
            exact mj_none h
        · exact (mj_inv_inl h5 h).elim
      · rw [if_neg hkd] at h
        exact mj_none h
  | ireturn =>
    unfold mj_ex at h
    dsimp only at h
    cases hr9 : mj_ret m with
    | none => rw [hr9] at h; exact mj_none h
    | some ty =>
      rw [hr9] at h
      exact (mj_rt_inl (Or.inl ⟨ty, rfl⟩) h).elim
  | lreturn =>
    unfold mj_ex at h
    dsimp only at h
    by_cases hr9 : mj_ret m = some .long
    · rw [if_pos hr9] at h
      exact (mj_rt_inl (Or.inr (Or.inl rfl)) h).elim
    · rw [if_neg hr9] at h
      exact mj_none h
  | areturn =>
    unfold mj_ex at h
    dsimp only at h
    cases hr9 : mj_ret m with
    | none => rw [hr9] at h; exact mj_none h
    | some ty =>
      rw [hr9] at h
      cases ty <;> first | exact mj_none h | exact (mj_rt_inl (Or.inr (Or.inr (Or.inl rfl))) h).elim
  | return_ =>
    unfold mj_ex at h
    dsimp only at h
    by_cases hr9 : mj_ret m = none
    · rw [if_pos hr9] at h
      exact (mj_rt_inl (Or.inr (Or.inr (Or.inr rfl))) h).elim
    · rw [if_neg hr9] at h
      exact mj_none h
  | _ => exact mj_none h
end MJS
