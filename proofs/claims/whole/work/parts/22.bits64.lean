/-! Int64 as a set of bits -/
def lb (x : Int64) (i : Nat) : Bool := x.toBitVec.getLsbD i
theorem lb_ext {x y : Int64} (h : ∀ i, i < 64 → lb x i = lb y i) : x = y := Int64.toBitVec_inj.mp (BitVec.eq_of_getLsbD_eq (fun i hi => h i hi))
theorem lb_or (x y : Int64) (i : Nat) : lb (x ||| y) i = (lb x i || lb y i) := by unfold lb; rw [Int64.toBitVec_or, BitVec.getLsbD_or]
theorem lb_and (x y : Int64) (i : Nat) : lb (x &&& y) i = (lb x i && lb y i) := by unfold lb; rw [Int64.toBitVec_and, BitVec.getLsbD_and]
theorem lb_big {x : Int64} {i : Nat} (h : 64 ≤ i) : lb x i = false := BitVec.getLsbD_of_ge _ _ h
theorem lb_0 (i : Nat) : lb 0 i = false := BitVec.getLsbD_zero
theorem lb_m1 : ∀ i, i < 64 → lb (-1) i = true := by decide +kernel
theorem lb_not (x : Int64) {i : Nat} (h : i < 64) : lb (x ^^^ (-1)) i = !lb x i := by
  have e := lb_m1 i h
  unfold lb at e ⊢
  rw [Int64.toBitVec_xor, BitVec.getLsbD_xor, e]
  cases x.toBitVec.getLsbD i <;> rfl
theorem lb_one : ∀ j, j < 64 → ((1 : Int64) <<< ((nI j).toInt64 &&& 63)).toBitVec = BitVec.twoPow 64 j := by decide +kernel
theorem lb_shl {j : Nat} (hj : j < 64) (i : Nat) : lb ((1 : Int64) <<< ((nI j).toInt64 &&& 63)) i = decide (j = i) := by
  unfold lb
  rw [lb_one j hj, BitVec.getLsbD_twoPow]
  by_cases h : j = i
  · subst h; simp [hj]
  · simp [h]
theorem lb_eq0 {x : Int64} : x = 0 ↔ ∀ i, i < 64 → lb x i = false := by
  constructor
  · intro h i _
    rw [h]; exact lb_0 i
  · intro h
    exact lb_ext (fun i hi => by rw [h i hi, lb_0])
/-- how many bits -/
def lc (x : Int64) : Nat := (List.range 64).countP (lb x)
theorem lc_p : ∀ (n v : Nat), bc_p n v = (List.range n).countP (fun i => v.testBit i) := by
  intro n
  induction n with
  | zero => intro v; rfl
  | succ n ih =>
    intro v
    rw [bc_p, ih, List.range_succ_eq_map, List.countP_cons, List.countP_map]
    have e : ((fun i => v.testBit i) ∘ Nat.succ) = (fun i => (v / 2).testBit i) := by
      funext i
      simp [Nat.testBit_succ]
    rw [e]
    have z : (if v.testBit 0 = true then 1 else 0) = v % 2 := by
      rw [Nat.testBit_zero]
      by_cases h : v % 2 = 1
      · simp [h]
      · have : v % 2 = 0 := by omega
        simp [this]
    omega
theorem lc_bp (x : Int64) : lc x = bc_p 64 x.toBitVec.toNat := by
  rw [lc_p]
  rfl
