/-! WHAT THE DOCUMENT ASKS, as functions on a state: things, what is collected, the lines (kind, codes), the text to be read -/
abbrev sp_Ln : Type := Nat × List Nat
abbrev sp_S : Type := Nat × List Nat × List sp_Ln × List Nat
noncomputable def sp_if {α : Type} (p : Prop) (a b : α) : α := @ite α p (Classical.propDecidable p) a b
theorem sp_if_t {α : Type} {p : Prop} {a b : α} (h : p) : sp_if p a b = a := by unfold sp_if; exact if_pos h
theorem sp_if_f {α : Type} {p : Prop} {a b : α} (h : ¬ p) : sp_if p a b = b := by unfold sp_if; exact if_neg h
def sp_cls (ls : List sp_Ln) : List (List Nat) := (ls.filter (fun l => l.1 != 3)).map (fun l => l.2)
/-- whether a line is RIGHT behind these lines -/
def sp_right (n : Nat) (ah : List sp_Ln) (l : sp_Ln) : Prop :=
  (l.1 = 0) ∨ ((l.1 = 1 ∨ l.1 = 2) ∧ un_clash (sp_cls ah) (fun x => un_neg x ∈ l.2)) ∨ (l.1 = 3 ∧ (∀ t, t < n → (2 * t ∈ l.2 ↔ ¬ 2 * t + 1 ∈ l.2)) ∧ ∀ g ∈ ah, g.1 = 0 → ∃ c ∈ g.2, c ∈ l.2)
noncomputable def sp_check (n : Nat) : List sp_Ln → List sp_Ln → Nat
  | _, [] => 0
  | ah, l :: r => sp_if (sp_right n ah l) (sp_check n (ah ++ [l]) r) (1 + ah.length)
def sp_spare (n : Nat) (ls : List sp_Ln) (i : Nat) : Prop := ∀ (j : Nat) (l : sp_Ln), i < j → ls[j]? = some l → sp_right n (ls.take j) l → sp_right n ((ls.take j).eraseIdx i) l
noncomputable def sp_dl (n : Nat) : Nat → List sp_Ln → List sp_Ln
  | 0, ls => ls
  | i + 1, ls => sp_dl n i (sp_if ((ls.getD i (0, [])).1 ≠ 0 ∧ sp_spare n ls i) (ls.eraseIdx i) ls)
noncomputable def sp_lits (n : Nat) (ah : List sp_Ln) (k : Nat) : List Nat → List Nat → List Nat
  | kept, [] => kept
  | kept, c :: r => sp_if (sp_right n ah (k, kept ++ c :: r) ∧ sp_right n ah (k, kept ++ r)) (sp_lits n ah k kept r) (sp_lits n ah k (kept ++ [c]) r)
noncomputable def sp_ph2 (n : Nat) : List sp_Ln → List sp_Ln → List sp_Ln
  | ah, [] => ah
  | ah, l :: r => sp_ph2 n (ah ++ [if l.1 = 1 ∨ l.1 = 2 then (l.1, sp_lits n ah l.1 [] l.2) else l]) r
noncomputable def sp_shorten (n : Nat) (ls : List sp_Ln) : List sp_Ln := sp_ph2 n [] (sp_dl n (ls.length - 1) ls)
def sp_ex (f t c : Nat) : Nat := 2 * (if c / 2 = f then t else if c / 2 = t then f else c / 2) + c % 2
def sp_exn (f t : Nat) (cs : List Nat) : Nat := cs.countP (fun c => sp_ex f t c != c)
def sp_letter (k : Nat) : Nat := if k = 0 then 103 else if k = 1 then 108 else if k = 2 then 106 else 97
def sp_num (v : Nat) : List Nat := if v < 10 then [48 + v] else [48 + v / 10, 48 + v % 10]
def sp_lit (c : Nat) : List Nat := 32 :: ((if c % 2 = 0 then [45] else []) ++ sp_num (c / 2 + 1))
def sp_line (l : sp_Ln) : List Nat := sp_letter l.1 :: (l.2.flatMap sp_lit ++ [10])
def sp_text (ls : List sp_Ln) : List Nat := ls.flatMap sp_line
