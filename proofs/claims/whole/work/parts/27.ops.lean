/-! EACH CALL, as a function on a state: what it answers and what is then -/
def so_n (x : Int32) : Nat := if x < 1 then 1 else if 64 < x then 64 else x.toNatClampNeg
def so_th (n : Nat) (t : Int32) : Prop := 0 ≤ t ∧ t < nI n
def so_code (t z : Int32) : Nat := 2 * t.toNatClampNeg + (if z = 0 then 0 else 1)
def so_at (ls : List sp_Ln) (i : Nat) : sp_Ln := ls.getD i (0, [])
def so_takes (l : sp_Ln) (k : Nat) : Prop := ¬ k ∈ l.2 ∧ (l.1 ≠ 3 ∨ ¬ un_neg k ∈ l.2)
def so_app (ls : List sp_Ln) (c : Nat) : List sp_Ln := ls.set (ls.length - 1) ((so_at ls (ls.length - 1)).1, (so_at ls (ls.length - 1)).2 ++ [c])
/-- the literals that come, without those of a thing and without those that are there -/
def so_adds (t : Nat) : List Nat → List Nat → List Nat
  | acc, [] => acc
  | acc, c :: r => so_adds t (if c / 2 = t ∨ c ∈ acc then acc else acc ++ [c]) r
noncomputable def so_open (k : Nat) (s : sp_S) : sp_S × Int32 := sp_if (s.2.2.1.length < 80) ((s.1, s.2.1, s.2.2.1 ++ [(k, [])], s.2.2.2), nI s.2.2.1.length) (s, -1)
noncomputable def so_add (k : Nat) (x t z : Int32) (s : sp_S) : sp_S × Int32 := sp_if (0 < s.2.2.1.length ∧ x = nI (s.2.2.1.length - 1) ∧ (so_at s.2.2.1 (s.2.2.1.length - 1)).1 = k ∧ so_th s.1 t ∧ so_takes (so_at s.2.2.1 (s.2.2.1.length - 1)) (so_code t z)) ((s.1, s.2.1, so_app s.2.2.1 (so_code t z), s.2.2.2), 1) (s, 0)
noncomputable def so_collect (t z : Int32) (s : sp_S) : sp_S × Int32 := sp_if (so_th s.1 t ∧ ¬ so_code t z ∈ s.2.1) ((s.1, s.2.1 ++ [so_code t z], s.2.2.1, s.2.2.2), 1) (s, 0)
noncomputable def so_learn (s : sp_S) : sp_S × Int32 := sp_if (s.2.2.1.length < 80) ((s.1, [], s.2.2.1 ++ [(1, s.2.1)], s.2.2.2), nI s.2.2.1.length) (s, -1)
def so_cases (a b : sp_Ln) (t : Nat) : Prop := a.1 ≠ 3 ∧ b.1 ≠ 3 ∧ ((2 * t + 1 ∈ a.2 ∧ 2 * t ∈ b.2) ∨ (2 * t ∈ a.2 ∧ 2 * t + 1 ∈ b.2))
noncomputable def so_split (t : Int32) (s : sp_S) : sp_S × Int32 := sp_if (2 ≤ s.2.2.1.length ∧ s.2.2.1.length < 80 ∧ so_th s.1 t ∧ so_cases (so_at s.2.2.1 (s.2.2.1.length - 2)) (so_at s.2.2.1 (s.2.2.1.length - 1)) t.toNatClampNeg) ((s.1, s.2.1, s.2.2.1 ++ [(2, so_adds t.toNatClampNeg (so_adds t.toNatClampNeg [] (so_at s.2.2.1 (s.2.2.1.length - 2)).2) (so_at s.2.2.1 (s.2.2.1.length - 1)).2)], s.2.2.2), nI s.2.2.1.length) (s, -1)
noncomputable def so_check (s : sp_S) : sp_S × Int32 := (s, nI (sp_check s.1 [] s.2.2.1))
noncomputable def so_shorten (s : sp_S) : sp_S × Int32 := ((s.1, s.2.1, sp_shorten s.1 s.2.2.1, s.2.2.2), nI (sp_shorten s.1 s.2.2.1).length)
def so_ex (f t : Nat) (l : sp_Ln) : sp_Ln := (l.1, l.2.map (sp_ex f t))
def so_exs (f t : Nat) (ls : List sp_Ln) : Nat := (ls.map (fun l => sp_exn f t l.2)).sum
noncomputable def so_turn (x y : Int32) (s : sp_S) : sp_S × Int32 := sp_if (so_th s.1 x ∧ so_th s.1 y) ((s.1, s.2.1.map (sp_ex x.toNatClampNeg y.toNatClampNeg), s.2.2.1.map (so_ex x.toNatClampNeg y.toNatClampNeg), s.2.2.2), nI (so_exs x.toNatClampNeg y.toNatClampNeg s.2.2.1 + sp_exn x.toNatClampNeg y.toNatClampNeg s.2.1)) (s, -1)
def so_lines (s : sp_S) : sp_S × Int32 := (s, nI s.2.2.1.length)
noncomputable def so_kind (x : Int32) (s : sp_S) : sp_S × Int32 := (s, sp_if (0 ≤ x ∧ x < nI s.2.2.1.length) (nI (so_at s.2.2.1 x.toNatClampNeg).1) (-1))
noncomputable def so_member (x i : Int32) (s : sp_S) : sp_S × Int32 := (s, sp_if ((0 ≤ x ∧ x < nI s.2.2.1.length) ∧ 0 ≤ i ∧ i < nI (so_at s.2.2.1 x.toNatClampNeg).2.length) (nI ((so_at s.2.2.1 x.toNatClampNeg).2.getD i.toNatClampNeg 0)) (-1))
noncomputable def so_text (i : Int32) (s : sp_S) : sp_S × Int32 := (s, sp_if (0 ≤ i ∧ i.toNatClampNeg < (sp_text s.2.2.1).length) (nI ((sp_text s.2.2.1).getD i.toNatClampNeg 0)) (-1))
noncomputable def so_unit (u : Int32) (s : sp_S) : sp_S × Int32 := sp_if (0 ≤ u ∧ u ≤ 255 ∧ s.2.2.2.length < 4000) ((s.1, s.2.1, s.2.2.1, s.2.2.2 ++ [u.toNatClampNeg]), 1) (s, 0)
noncomputable def so_read (s : sp_S) : sp_S × Int32 := match rd_all 4000 s.2.2.2 s.1 [] 0 with
  | .inl ls => ((s.1, s.2.1, ls, []), nI ls.length)
  | .inr e => ((s.1, s.2.1, s.2.2.1, []), -1 - nI e)
