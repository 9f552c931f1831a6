/-! THE TEXT READ, as functions on its bytes: places are numbers; a loop has fuel -/
def hv (xs : List Nat) (p : Nat) : Int32 := match xs[p]? with
  | some c => nI c
  | none => -1
def rd_dig : Nat → List Nat → Nat → Nat → Nat × Nat
  | 0, _, p, v => (v, p)
  | f + 1, xs, p, v => match xs[p]? with
    | some c => if 48 ≤ c ∧ c ≤ 57 then rd_dig f xs (p + 1) (min 1000 (10 * v + (c - 48))) else (v, p)
    | none => (v, p)
/-- the number that stands at p: 0 when it may not be one -/
def rd_num (xs : List Nat) (p : Nat) : Nat := if xs[p]? = some 48 then 0 else (rd_dig 4000 xs p 0).1
def rd_end (xs : List Nat) (p : Nat) : Nat := (rd_dig 4000 xs p 0).2
/-- a literal behind its blank: its code and the place behind it, or the place at which it may not be -/
noncomputable def rd_lit (xs : List Nat) (n : Nat) (l : Nat × List Nat) (p : Nat) : (Nat × Nat) ⊕ Nat :=
  let q := if xs[p]? = some 45 then p + 1 else p
  let c := 2 * (rd_num xs q - 1) + (if xs[p]? = some 45 then 0 else 1)
  sp_if (1 ≤ rd_num xs q ∧ rd_num xs q ≤ n ∧ ¬ c ∈ l.2 ∧ (l.1 ≠ 3 ∨ ¬ un_neg c ∈ l.2)) (.inl (c, rd_end xs q)) (.inr q)
noncomputable def rd_lits : Nat → List Nat → Nat → Nat → List Nat → Nat → (List Nat × Nat) ⊕ Nat
  | 0, _, _, _, cs, p => .inl (cs, p)
  | f + 1, xs, n, k, cs, p => if xs[p]? = some 32 then (match rd_lit xs n (k, cs) (p + 1) with
    | .inl (c, p') => rd_lits f xs n k (cs ++ [c]) p'
    | .inr e => .inr e) else .inl (cs, p)
def rd_kind (xs : List Nat) (p : Nat) : Option Nat := if xs[p]? = some 103 then some 0 else if xs[p]? = some 108 then some 1 else if xs[p]? = some 106 then some 2 else if xs[p]? = some 97 then some 3 else none
/-- a line at p behind m lines -/
noncomputable def rd_line (xs : List Nat) (n m p : Nat) : (sp_Ln × Nat) ⊕ Nat := match rd_kind xs p with
  | none => .inr p
  | some k => if m = 80 then .inr p else match rd_lits 4000 xs n k [] (p + 1) with
    | .inr e => .inr e
    | .inl (cs, q) => if xs[q]? = some 10 then .inl ((k, cs), q + 1) else .inr q
noncomputable def rd_all : Nat → List Nat → Nat → List sp_Ln → Nat → (List sp_Ln) ⊕ Nat
  | 0, _, _, ls, _ => .inl ls
  | f + 1, xs, n, ls, p => if p < xs.length then (match rd_line xs n ls.length p with
    | .inl (l, q) => rd_all f xs n (ls ++ [l]) q
    | .inr e => .inr e) else .inl ls
