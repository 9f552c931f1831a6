/-! Long.bitCount counts bits: the steps of its text over base 4, 16 and 256 digits -/
theorem bc_and {k a b c d : Nat} (hb : b < 2 ^ k) (hd : d < 2 ^ k) : (2 ^ k * a + b) &&& (2 ^ k * c + d) = 2 ^ k * (a &&& c) + (b &&& d) := by
  have hbd : b &&& d < 2 ^ k := Nat.and_lt_two_pow b hd
  apply Nat.eq_of_testBit_eq
  intro i
  rw [Nat.testBit_and, Nat.testBit_two_pow_mul_add a hb, Nat.testBit_two_pow_mul_add c hd, Nat.testBit_two_pow_mul_add _ hbd]
  split <;> rw [Nat.testBit_and]
def bc_m1 : Nat → Nat
  | 0 => 0
  | n + 1 => 4 * bc_m1 n + 1
def bc_m2 : Nat → Nat
  | 0 => 0
  | n + 1 => 16 * bc_m2 n + 3
def bc_m3 : Nat → Nat
  | 0 => 0
  | n + 1 => 256 * bc_m3 n + 15
def bc_p (n v : Nat) : Nat := match n with
  | 0 => 0
  | n + 1 => v % 2 + bc_p n (v / 2)
def bc_1 : Nat → Nat → Nat
  | 0, _ => 0
  | n + 1, x => 4 * bc_1 n (x / 4) + bc_p 2 (x % 4)
def bc_2 : Nat → Nat → Nat
  | 0, _ => 0
  | n + 1, x => 16 * bc_2 n (x / 16) + bc_p 4 (x % 16)
def bc_3 : Nat → Nat → Nat
  | 0, _ => 0
  | n + 1, x => 256 * bc_3 n (x / 256) + bc_p 8 (x % 256)
theorem bc_and4 {a b c d : Nat} (hb : b < 4) (hd : d < 4) : (4 * a + b) &&& (4 * c + d) = 4 * (a &&& c) + (b &&& d) := bc_and (k := 2) hb hd
theorem bc_and16 {a b c d : Nat} (hb : b < 16) (hd : d < 16) : (16 * a + b) &&& (16 * c + d) = 16 * (a &&& c) + (b &&& d) := bc_and (k := 4) hb hd
theorem bc_and256 {a b c d : Nat} (hb : b < 256) (hd : d < 256) : (256 * a + b) &&& (256 * c + d) = 256 * (a &&& c) + (b &&& d) := bc_and (k := 8) hb hd
theorem bc_s1 : ∀ (n x : Nat), x < 4 ^ n → ((x / 2) &&& bc_m1 n) ≤ x ∧ x - ((x / 2) &&& bc_m1 n) = bc_1 n x := by
  intro n
  induction n with
  | zero => intro x hx; simp [bc_m1, bc_1] at hx ⊢; omega
  | succ n ih =>
    intro x hx
    have hq : x / 4 < 4 ^ n := by rw [Nat.pow_succ] at hx; omega
    obtain ⟨h1, h2⟩ := ih (x / 4) hq
    have e : x / 2 = 4 * (x / 4 / 2) + (2 * (x / 4 % 2) + x % 4 / 2) := by omega
    have e2 : (2 * (x / 4 % 2) + x % 4 / 2) &&& 1 = x % 4 / 2 := by
      rw [Nat.and_one_is_mod]; omega
    have key : (x / 2) &&& bc_m1 (n + 1) = 4 * ((x / 4 / 2) &&& bc_m1 n) + x % 4 / 2 := by
      rw [bc_m1, e, bc_and4 (by omega) (by omega), e2]
    have hp : bc_p 2 (x % 4) = x % 4 - x % 4 / 2 := by
      simp only [bc_p]; omega
    rw [key, bc_1, hp]
    omega
theorem bc_14 (n x : Nat) : bc_1 (n + 1 + 1) x = 16 * bc_1 n (x / 16) + (4 * bc_p 2 (x / 4 % 4) + bc_p 2 (x % 4)) := by
  have e : x / 4 / 4 = x / 16 := by omega
  rw [bc_1, bc_1, e]
  omega
theorem bc_p4 : ∀ v, v < 16 → ((4 * bc_p 2 (v / 4 % 4) + bc_p 2 (v % 4)) &&& 3) + (4 * bc_p 2 (v / 4 % 4) + bc_p 2 (v % 4)) / 4 = bc_p 4 v ∧ 4 * bc_p 2 (v / 4 % 4) + bc_p 2 (v % 4) < 16 := by decide
theorem bc_s2 : ∀ (n x : Nat), (bc_1 (2 * n) x &&& bc_m2 n) + ((bc_1 (2 * n) x / 4) &&& bc_m2 n) = bc_2 n x := by
  intro n
  induction n with
  | zero => intro x; simp [bc_m2, bc_2]
  | succ n ih =>
    intro x
    have h := ih (x / 16)
    rw [show 2 * (n + 1) = 2 * n + 1 + 1 by omega, bc_14]
    obtain ⟨p1, p2⟩ := bc_p4 (x % 16) (Nat.mod_lt _ (by decide))
    have v1 : x % 16 / 4 % 4 = x / 4 % 4 := by omega
    have v2 : x % 16 % 4 = x % 4 := by omega
    rw [v1, v2] at p1 p2
    generalize 4 * bc_p 2 (x / 4 % 4) + bc_p 2 (x % 4) = cc at p1 p2 ⊢
    generalize bc_1 (2 * n) (x / 16) = y at h ⊢
    have e : (16 * y + cc) / 4 = 16 * (y / 4) + (4 * (y % 4) + cc / 4) := by omega
    have e2 : (4 * (y % 4) + cc / 4) &&& 3 = cc / 4 := by
      rw [show (3 : Nat) = 2 ^ 2 - 1 from rfl, Nat.and_two_pow_sub_one_eq_mod]; omega
    rw [bc_m2, bc_2, e, bc_and16 p2 (by decide), bc_and16 (by omega) (by decide), e2]
    omega
theorem bc_24 (n x : Nat) : bc_2 (n + 1 + 1) x = 256 * bc_2 n (x / 256) + (16 * bc_p 4 (x / 16 % 16) + bc_p 4 (x % 16)) := by
  have e : x / 16 / 16 = x / 256 := by omega
  rw [bc_2, bc_2, e]
  omega
theorem bc_p_le : ∀ v, v < 16 → bc_p 4 v ≤ 4 := by decide
theorem bc_p8 : ∀ a, a < 16 → ∀ b, b < 16 → bc_p 4 a + bc_p 4 b = bc_p 8 (16 * a + b) := by decide +kernel
theorem bc_2low (n x : Nat) : bc_2 n x % 16 ≤ 4 := by
  cases n with
  | zero => simp [bc_2]
  | succ n =>
    have := bc_p_le (x % 16) (Nat.mod_lt _ (by decide))
    rw [bc_2]
    omega
theorem bc_s3 : ∀ (n x : Nat), (bc_2 (2 * n) x + bc_2 (2 * n) x / 16) &&& bc_m3 n = bc_3 n x := by
  intro n
  induction n with
  | zero => intro x; simp [bc_m3, bc_3]
  | succ n ih =>
    intro x
    have h := ih (x / 256)
    have hz := bc_2low (2 * n) (x / 256)
    have p1 := bc_p_le (x / 16 % 16) (Nat.mod_lt _ (by decide))
    have p2 := bc_p_le (x % 16) (Nat.mod_lt _ (by decide))
    have p3 := bc_p8 (x / 16 % 16) (Nat.mod_lt _ (by decide)) (x % 16) (Nat.mod_lt _ (by decide))
    rw [show 16 * (x / 16 % 16) + x % 16 = x % 256 by omega] at p3
    rw [show 2 * (n + 1) = 2 * n + 1 + 1 by omega, bc_24, bc_3, ← p3]
    generalize bc_p 4 (x / 16 % 16) = a at p1 ⊢
    generalize bc_p 4 (x % 16) = b at p2 ⊢
    generalize bc_2 (2 * n) (x / 256) = z at h hz ⊢
    have e : 256 * z + (16 * a + b) + (256 * z + (16 * a + b)) / 16 = 256 * (z + z / 16) + (16 * (z % 16) + 16 * a + b + a) := by omega
    have e2 : (16 * (z % 16) + 16 * a + b + a) &&& 15 = a + b := by
      rw [show (15 : Nat) = 2 ^ 4 - 1 from rfl, Nat.and_two_pow_sub_one_eq_mod]; omega
    rw [e, bc_m3, bc_and256 (by omega) (by decide), h, e2]
theorem bc_p8_le : ∀ v, v < 256 → bc_p 8 v ≤ 8 := by decide +kernel
theorem bc_p_add : ∀ (m n x : Nat), bc_p (m + n) x = bc_p m (x % 2 ^ m) + bc_p n (x / 2 ^ m) := by
  intro m
  induction m with
  | zero => intro n x; simp [bc_p]
  | succ m ih =>
    intro n x
    rw [show m + 1 + n = m + n + 1 by omega, bc_p, bc_p, ih]
    have e1 : x % 2 ^ (m + 1) % 2 = x % 2 := by rw [Nat.pow_succ, Nat.mul_comm]; exact Nat.mod_mul_right_mod x 2 (2 ^ m)
    have e2 : x % 2 ^ (m + 1) / 2 = x / 2 % 2 ^ m := by rw [Nat.pow_succ, Nat.mul_comm, Nat.mod_mul_right_div_self]
    have e3 : x / 2 / 2 ^ m = x / 2 ^ (m + 1) := by rw [Nat.div_div_eq_div_mul, Nat.pow_succ, Nat.mul_comm]
    rw [e1, e2, e3]
    omega
