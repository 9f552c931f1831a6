/-! One clause under what holds, as sets of bits -/
def hm (a b : Int64) (x : Nat) : Prop := (if x % 2 = 1 then lb a (x / 2) else lb b (x / 2)) = true
theorem hm_odd {a b : Int64} {j : Nat} : hm a b (2 * j + 1) ↔ lb a j = true := by
  unfold hm
  rw [if_pos (by omega), show (2 * j + 1) / 2 = j by omega]
theorem hm_even {a b : Int64} {j : Nat} : hm a b (2 * j) ↔ lb b j = true := by
  unfold hm
  rw [if_neg (by omega), show 2 * j / 2 = j by omega]
theorem un_odd (j : Nat) : un_neg (2 * j + 1) = 2 * j := by
  unfold un_neg
  rw [if_neg (by omega)]
  omega
theorem un_even (j : Nat) : un_neg (2 * j) = 2 * j + 1 := by
  unfold un_neg
  rw [if_pos (by omega)]
theorem nat_cases (x : Nat) : ∃ j, x = 2 * j ∨ x = 2 * j + 1 := ⟨x / 2, by omega⟩
theorem hm_start {cs : List Nat} {t u : Int64} (hw : ln_w cs t u) (x : Nat) : hm u t x ↔ un_neg x ∈ cs := by
  obtain ⟨j, rfl | rfl⟩ := nat_cases x
  · rw [hm_even, un_even, hw.1, decide_eq_true_eq]
  · rw [hm_odd, un_odd, hw.2, decide_eq_true_eq]
theorem hm_and0 {a b : Int64} : a &&& b = 0 ↔ ∀ x, ¬ (hm a b x ∧ hm a b (un_neg x)) := by
  rw [lb_eq0]
  constructor
  · intro h x
    obtain ⟨j, rfl | rfl⟩ := nat_cases x
    · rw [hm_even, un_even, hm_odd]
      rintro ⟨h1, h2⟩
      by_cases hj : j < 64
      · have := h j hj
        rw [lb_and, h1, h2] at this
        cases this
      · rw [lb_big (by omega)] at h1
        cases h1
    · rw [hm_odd, un_odd, hm_even]
      rintro ⟨h1, h2⟩
      by_cases hj : j < 64
      · have := h j hj
        rw [lb_and, h1, h2] at this
        cases this
      · rw [lb_big (by omega)] at h1
        cases h1
  · intro h i hi
    have := h (2 * i)
    rw [hm_even, un_even, hm_odd] at this
    rw [lb_and]
    cases h1 : lb a i <;> cases h2 : lb b i <;> first | rfl | exact absurd ⟨h2, h1⟩ this
/-- a literal of a clause is open: its opposite does not hold -/
def st_o (a b : Int64) (c : Nat) : Bool := !(if c % 2 = 1 then lb b (c / 2) else lb a (c / 2))
theorem st_o_iff {a b : Int64} {c : Nat} : st_o a b c = true ↔ ¬ hm a b (un_neg c) := by
  unfold st_o
  obtain ⟨j, rfl | rfl⟩ := nat_cases c
  · rw [un_even, hm_odd, if_neg (by omega), show 2 * j / 2 = j by omega]
    simp
  · rw [un_odd, hm_even, if_pos (by omega), show (2 * j + 1) / 2 = j by omega]
    simp
theorem st_count {cs : List Nat} {t u a b : Int64} (hw : ln_w cs t u) (hok : ln_ok cs) : lc (t &&& (b ^^^ (-1))) + lc (u &&& (a ^^^ (-1))) = (cs.filter (st_o a b)).length := by
  have e1 : lc (t &&& (b ^^^ (-1))) = cs.countP (fun c => decide (c % 2 = 1) && !lb b (c / 2)) := by
    rw [← cp_codes (fun j => !lb b j) 1 (by decide) cs hok]
    exact List.countP_congr (fun j hj => by rw [lb_and, lb_not _ (List.mem_range.mp hj), hw.1])
  have e2 : lc (u &&& (a ^^^ (-1))) = cs.countP (fun c => decide (c % 2 = 0) && !lb a (c / 2)) := by
    have := cp_codes (fun j => !lb a j) 0 (by decide) cs hok
    simp only [Nat.add_zero] at this
    rw [← this]
    exact List.countP_congr (fun j hj => by rw [lb_and, lb_not _ (List.mem_range.mp hj), hw.2])
  rw [e1, e2, ← List.countP_eq_length_filter]
  clear e1 e2 hw hok
  induction cs with
  | nil => rfl
  | cons c cs ih =>
    simp only [List.countP_cons]
    have : (if (decide (c % 2 = 1) && !lb b (c / 2)) = true then 1 else 0) + (if (decide (c % 2 = 0) && !lb a (c / 2)) = true then 1 else 0) = (if st_o a b c = true then 1 else 0) := by
      unfold st_o
      by_cases h1 : c % 2 = 1
      · have h0 : ¬ c % 2 = 0 := by omega
        simp [h1]
      · have h0 : c % 2 = 0 := by omega
        simp [h0]
    omega
def st_quiet (H : Nat → Prop) (cs : List Nat) : Prop := (¬ ∀ y ∈ cs, H (un_neg y)) ∧ ∀ x ∈ cs, (∀ y ∈ cs, y ≠ x → H (un_neg y)) → H x
theorem st_dead {cs : List Nat} {a b : Int64} (h : cs.filter (st_o a b) = []) : ∀ y ∈ cs, hm a b (un_neg y) := by
  intro y hy
  rw [List.filter_eq_nil_iff] at h
  have := h y hy
  rw [st_o_iff] at this
  exact Classical.not_not.mp this
theorem st_unit {cs : List Nat} {a b : Int64} {x : Nat} (h : cs.filter (st_o a b) = [x]) : x ∈ cs ∧ ¬ hm a b (un_neg x) ∧ ∀ y ∈ cs, y ≠ x → hm a b (un_neg y) := by
  have hx : x ∈ cs.filter (st_o a b) := by rw [h]; simp
  obtain ⟨h1, h2⟩ := List.mem_filter.mp hx
  refine ⟨h1, st_o_iff.mp h2, fun y hy hne => ?_⟩
  by_cases ho : hm a b (un_neg y)
  · exact ho
  · have : y ∈ cs.filter (st_o a b) := List.mem_filter.mpr ⟨hy, st_o_iff.mpr ho⟩
    rw [h, List.mem_singleton] at this
    exact absurd this hne
theorem st_quiet1 {cs : List Nat} {a b : Int64} {x : Nat} (h : cs.filter (st_o a b) = [x]) (hx : hm a b x) : st_quiet (hm a b) cs := by
  obtain ⟨h1, h2, h3⟩ := st_unit h
  refine ⟨fun hall => h2 (hall x h1), fun y hy hall => ?_⟩
  by_cases hyx : y = x
  · rw [hyx]; exact hx
  · exact absurd (hall x h1 (fun e => hyx e.symm)) h2
theorem st_quiet2 {cs : List Nat} {a b : Int64} {x y : Nat} {r : List Nat} (hok : ln_ok cs) (h : cs.filter (st_o a b) = x :: y :: r) : st_quiet (hm a b) cs := by
  have hnd : (cs.filter (st_o a b)).Nodup := List.Pairwise.filter _ hok.1
  rw [h] at hnd
  have hxy : x ≠ y := fun e => (List.nodup_cons.mp hnd).1 (by rw [e]; exact List.mem_cons_self)
  have hx : x ∈ cs.filter (st_o a b) := by rw [h]; simp
  have hy : y ∈ cs.filter (st_o a b) := by rw [h]; simp
  obtain ⟨x1, x2⟩ := List.mem_filter.mp hx
  obtain ⟨y1, y2⟩ := List.mem_filter.mp hy
  have x3 := st_o_iff.mp x2
  have y3 := st_o_iff.mp y2
  refine ⟨fun hall => x3 (hall x x1), fun z hz hall => ?_⟩
  by_cases hzx : z = x
  · exact absurd (hall y y1 (fun e => hxy (by rw [← hzx, ← e]))) y3
  · exact absurd (hall x x1 (fun e => hzx e.symm)) x3
/-- the one open literal, as bits -/
theorem st_bits {cs : List Nat} {t u a b : Int64} (hw : ln_w cs t u) (hok : ln_ok cs) {x : Nat} (h : cs.filter (st_o a b) = [x]) : (∀ j, j < 64 → lb (t &&& (b ^^^ (-1))) j = decide (x = 2 * j + 1)) ∧ (∀ j, j < 64 → lb (u &&& (a ^^^ (-1))) j = decide (x = 2 * j)) := by
  have hmem : ∀ c, (c ∈ cs ∧ ¬ hm a b (un_neg c)) ↔ x = c := by
    intro c
    rw [← st_o_iff, ← List.mem_filter, h, List.mem_singleton, eq_comm]
  refine ⟨fun j hj => ?_, fun j hj => ?_⟩
  · rw [lb_and, lb_not _ hj, hw.1]
    have := hmem (2 * j + 1)
    rw [un_odd, hm_even] at this
    by_cases h1 : 2 * j + 1 ∈ cs <;> cases h2 : lb b j <;> simp [h1, h2] at this ⊢ <;> simp [this]
  · rw [lb_and, lb_not _ hj, hw.2]
    have := hmem (2 * j)
    rw [un_even, hm_odd] at this
    by_cases h1 : 2 * j ∈ cs <;> cases h2 : lb a j <;> simp [h1, h2] at this ⊢ <;> simp [this]
theorem st_hold {cs : List Nat} {t u a b : Int64} (hw : ln_w cs t u) (hok : ln_ok cs) {x : Nat} (h : cs.filter (st_o a b) = [x]) : (((t &&& (b ^^^ (-1))) &&& a) ||| ((u &&& (a ^^^ (-1))) &&& b) = 0) ↔ ¬ hm a b x := by
  obtain ⟨b1, b2⟩ := st_bits hw hok h
  have hx : x < 128 := hok.2 x (st_unit h).1
  rw [lb_eq0]
  constructor
  · intro hz hx2
    have := hz (x / 2) (by omega)
    rw [lb_or, lb_and (t &&& (b ^^^ (-1))) a, lb_and (u &&& (a ^^^ (-1))) b, b1 (x / 2) (by omega), b2 (x / 2) (by omega)] at this
    unfold hm at hx2
    by_cases hp : x % 2 = 1
    · rw [if_pos hp] at hx2
      rw [hx2, decide_eq_true (by omega : x = 2 * (x / 2) + 1)] at this
      simp at this
    · rw [if_neg hp] at hx2
      rw [hx2, decide_eq_true (by omega : x = 2 * (x / 2))] at this
      simp at this
  · intro hx2 i hi
    rw [lb_or, lb_and (t &&& (b ^^^ (-1))) a, lb_and (u &&& (a ^^^ (-1))) b, b1 _ hi, b2 _ hi]
    by_cases e1 : x = 2 * i + 1
    · have e2 : ¬ x = 2 * i := by omega
      rw [e1, hm_odd] at hx2
      simp only [Bool.not_eq_true] at hx2
      simp [hx2]
      omega
    · by_cases e2 : x = 2 * i
      · rw [e2, hm_even] at hx2
        simp only [Bool.not_eq_true] at hx2
        simp [hx2]
        omega
      · simp [e1, e2]
theorem st_after {cs : List Nat} {t u a b : Int64} (hw : ln_w cs t u) (hok : ln_ok cs) {x : Nat} (h : cs.filter (st_o a b) = [x]) (z : Nat) : hm (a ||| (t &&& (b ^^^ (-1)))) (b ||| (u &&& (a ^^^ (-1)))) z ↔ hm a b z ∨ z = x := by
  obtain ⟨b1, b2⟩ := st_bits hw hok h
  have hx : x < 128 := hok.2 x (st_unit h).1
  obtain ⟨j, rfl | rfl⟩ := nat_cases z
  · rw [hm_even, hm_even, lb_or]
    by_cases hj : j < 64
    · rw [b2 j hj, Bool.or_eq_true, decide_eq_true_eq]
      exact or_congr Iff.rfl eq_comm
    · rw [lb_big (by omega), lb_big (by omega)]
      simp
      omega
  · rw [hm_odd, hm_odd, lb_or]
    by_cases hj : j < 64
    · rw [b1 j hj, Bool.or_eq_true, decide_eq_true_eq]
      exact or_congr Iff.rfl eq_comm
    · rw [lb_big (by omega), lb_big (by omega)]
      simp
      omega
theorem st_more {cs : List Nat} {t u a b : Int64} (hw : ln_w cs t u) (hok : ln_ok cs) {x : Nat} (h : cs.filter (st_o a b) = [x]) (hx : ¬ hm a b x) : lc ((a ||| (t &&& (b ^^^ (-1)))) ||| (b ||| (u &&& (a ^^^ (-1))))) = lc (a ||| b) + 1 := by
  obtain ⟨b1, b2⟩ := st_bits hw hok h
  obtain ⟨h1, h2, -⟩ := st_unit h
  have hx2 : x < 128 := hok.2 x h1
  have hn : lb (a ||| b) (x / 2) = false := by
    rw [lb_or]
    obtain ⟨j, rfl | rfl⟩ := nat_cases x
    · rw [hm_even] at hx
      rw [un_even, hm_odd] at h2
      rw [show 2 * j / 2 = j by omega]
      simp at hx h2
      simp [hx, h2]
    · rw [hm_odd] at hx
      rw [un_odd, hm_even] at h2
      rw [show (2 * j + 1) / 2 = j by omega]
      simp at hx h2
      simp [hx, h2]
  unfold lc
  rw [← cp_ins (lb (a ||| b)) (x / 2) 64 (by omega) hn]
  apply List.countP_congr
  intro j hj
  have hj := List.mem_range.mp hj
  rw [lb_or, lb_or, lb_or, lb_or, b1 j hj, b2 j hj]
  by_cases e : j = x / 2
  · have : x = 2 * j + 1 ∨ x = 2 * j := by omega
    rw [decide_eq_true e]
    rcases this with q | q <;> rw [decide_eq_true q] <;> simp
  · have q1 : ¬ x = 2 * j + 1 := by omega
    have q2 : ¬ x = 2 * j := by omega
    simp [e, q1, q2]
theorem lc_le (x : Int64) : lc x ≤ 64 := by
  unfold lc
  have := List.countP_le_length (p := lb x) (l := List.range 64)
  simpa using this
