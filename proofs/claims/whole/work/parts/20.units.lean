/-! CLASH BY UNITS, as mathematics: literals are codes (2 times the thing, and 1 for true); the least set that is closed under unit steps -/
def un_neg (c : Nat) : Nat := if c % 2 = 0 then c + 1 else c - 1
theorem un_neg_neg (c : Nat) : un_neg (un_neg c) = c := by
  unfold un_neg
  by_cases h : c % 2 = 0
  · rw [if_pos h, if_neg (by omega)]
    omega
  · rw [if_neg h, if_pos (by omega)]
    omega
theorem un_neg_ne (c : Nat) : un_neg c ≠ c := by
  unfold un_neg
  split <;> omega
def un_st (Cs : List (List Nat)) (S : Nat → Prop) : Prop := ∀ C ∈ Cs, ∀ x ∈ C, (∀ y ∈ C, y ≠ x → S (un_neg y)) → S x
def un_cl (Cs : List (List Nat)) (A : Nat → Prop) (c : Nat) : Prop := ∀ S : Nat → Prop, (∀ x, A x → S x) → un_st Cs S → S c
def un_clash (Cs : List (List Nat)) (A : Nat → Prop) : Prop := [] ∈ Cs ∨ ∃ c, un_cl Cs A c ∧ un_cl Cs A (un_neg c)
theorem un_cl_in {Cs : List (List Nat)} {A : Nat → Prop} {c : Nat} (h : A c) : un_cl Cs A c := fun _ hA _ => hA c h
theorem un_cl_step {Cs : List (List Nat)} {A : Nat → Prop} {C : List Nat} {x : Nat} (hC : C ∈ Cs) (hx : x ∈ C) (h : ∀ y ∈ C, y ≠ x → un_cl Cs A (un_neg y)) : un_cl Cs A x := fun S hA hS => hS C hC x hx (fun y hy hne => h y hy hne S hA hS)
theorem un_cl_mono {Cs Ds : List (List Nat)} {A B : Nat → Prop} (h : ∀ C ∈ Cs, C ∈ Ds) (hA : ∀ x, A x → B x) {c : Nat} (hc : un_cl Cs A c) : un_cl Ds B c := fun S hB hS => hc S (fun x hx => hB x (hA x hx)) (fun C hC => hS C (h C hC))
/-- more clauses, more literals: more clashes -/
theorem un_mono {Cs Ds : List (List Nat)} {A B : Nat → Prop} (h : ∀ C ∈ Cs, C ∈ Ds) (hA : ∀ x, A x → B x) (hc : un_clash Cs A) : un_clash Ds B := by
  rcases hc with hc | ⟨c, h1, h2⟩
  · exact Or.inl (h _ hc)
  · exact Or.inr ⟨c, un_cl_mono h hA h1, un_cl_mono h hA h2⟩
theorem un_ext {Cs Ds : List (List Nat)} {A B : Nat → Prop} (h : ∀ C, C ∈ Cs ↔ C ∈ Ds) (hA : ∀ x, A x ↔ B x) : un_clash Cs A ↔ un_clash Ds B := ⟨un_mono (fun C => (h C).mp) (fun x => (hA x).mp), un_mono (fun C => (h C).mpr) (fun x => (hA x).mpr)⟩
/-- both literals of a thing hold -/
theorem un_both {Cs : List (List Nat)} {A : Nat → Prop} {c : Nat} (h1 : A c) (h2 : A (un_neg c)) : un_clash Cs A := Or.inr ⟨c, un_cl_in h1, un_cl_in h2⟩
/-- a clause has only literals whose opposite holds -/
theorem un_dead {Cs : List (List Nat)} {A H : Nat → Prop} {C : List Nat} (hH : ∀ x, H x → un_cl Cs A x) (hC : C ∈ Cs) (h : ∀ y ∈ C, H (un_neg y)) : un_clash Cs A := by
  cases C with
  | nil => exact Or.inl hC
  | cons x C =>
    refine Or.inr ⟨x, un_cl_step hC List.mem_cons_self (fun y hy _ => hH _ (h y hy)), hH _ (h x List.mem_cons_self)⟩
/-- nothing more follows, and nothing clashes -/
theorem un_done {Cs : List (List Nat)} {A H : Nat → Prop} (hA : ∀ x, A x → H x) (hcons : ∀ x, ¬ (H x ∧ H (un_neg x))) (hno : ∀ C ∈ Cs, ¬ ∀ y ∈ C, H (un_neg y)) (hst : un_st Cs H) : ¬ un_clash Cs A := by
  rintro (h | ⟨c, h1, h2⟩)
  · exact hno _ h (fun y hy => by cases hy)
  · exact hcons c ⟨h1 H hA hst, h2 H hA hst⟩
