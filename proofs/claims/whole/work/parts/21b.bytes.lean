/-! the sum of eight bytes, as bitCount takes it -/
theorem bc_dv {x r k X : Nat} (h : x = r + k * X) (hr : r < k) : x / k = X := by
  rw [h, Nat.add_mul_div_left _ _ (by omega), Nat.div_eq_of_lt hr, Nat.zero_add]
theorem bc_up {q X Y B : Nat} (h : X = q + 256 * Y) (hq : q ≤ 8) (hY : Y < B) : X < 256 * B := by omega
theorem bc_f2 {q0 q1 q2 X1 X2 X3 w : Nat} (hw : w = q0 + 256 * X1) (e1 : X1 = q1 + 256 * X2) (e2 : X2 = q2 + 256 * X3) : w + X1 = (q0 + q1 + 256 * (q1 + q2)) + 65536 * (X2 + X3) := by omega
theorem bc_f3 {q0 q1 q2 q3 q4 q5 q6 q7 X1 X2 X3 X4 X5 X6 w : Nat} (hw : w = q0 + 256 * X1) (e1 : X1 = q1 + 256 * X2) (e2 : X2 = q2 + 256 * X3) (e3 : X3 = q3 + 256 * X4) (e4 : X4 = q4 + 256 * X5) (e5 : X5 = q5 + 256 * X6) (e6 : X6 = q6 + 256 * q7) : w + X1 + (X2 + X3) = (q0 + q1 + q2 + q3 + 256 * (q1 + q2 + q3 + q4) + 65536 * (q2 + q3 + q4 + q5) + 16777216 * (q3 + q4 + q5 + q6)) + 4294967296 * (X4 + X5 + X6 + q7) := by omega
theorem bc_f4 {q0 q1 q2 q3 q4 q5 q6 q7 X1 X2 X3 X4 X5 X6 w : Nat} (hw : w = q0 + 256 * X1) (e1 : X1 = q1 + 256 * X2) (e2 : X2 = q2 + 256 * X3) (e3 : X3 = q3 + 256 * X4) (e4 : X4 = q4 + 256 * X5) (e5 : X5 = q5 + 256 * X6) (e6 : X6 = q6 + 256 * q7) : w + X1 + (X2 + X3) + (X4 + X5 + X6 + q7) = (q0 + q1 + q2 + q3 + q4 + q5 + q6 + q7) + 256 * (X1 + X2 + X3 + X4 + X5 + X6 + q7) := by omega
theorem bc_lt {q0 q1 q2 q3 q4 q5 q6 : Nat} (h0 : q0 ≤ 8) (h1 : q1 ≤ 8) (h2 : q2 ≤ 8) (h3 : q3 ≤ 8) (h4 : q4 ≤ 8) (h5 : q5 ≤ 8) (h6 : q6 ≤ 8) : q0 + q1 + 256 * (q1 + q2) < 65536 ∧ q0 + q1 + q2 + q3 + 256 * (q1 + q2 + q3 + q4) + 65536 * (q2 + q3 + q4 + q5) + 16777216 * (q3 + q4 + q5 + q6) < 4294967296 := by omega
theorem bc_md {S Y c : Nat} (h : c = S + 256 * Y) (hS : S ≤ 64) : c % 128 = S := by omega
theorem bc_s64 {q0 q1 q2 q3 q4 q5 q6 q7 : Nat} (h0 : q0 ≤ 8) (h1 : q1 ≤ 8) (h2 : q2 ≤ 8) (h3 : q3 ≤ 8) (h4 : q4 ≤ 8) (h5 : q5 ≤ 8) (h6 : q6 ≤ 8) (h7 : q7 ≤ 8) : q0 + q1 + q2 + q3 + q4 + q5 + q6 + q7 ≤ 64 := by omega
theorem bc_s6 {q0 q1 q2 q3 q4 q5 q6 q7 X1 X2 X3 X4 X5 X6 w a b c : Nat} (h0 : q0 ≤ 8) (h1 : q1 ≤ 8) (h2 : q2 ≤ 8) (h3 : q3 ≤ 8) (h4 : q4 ≤ 8) (h5 : q5 ≤ 8) (h6 : q6 ≤ 8) (h7 : q7 ≤ 8) (hw : w = q0 + 256 * X1) (e1 : X1 = q1 + 256 * X2) (e2 : X2 = q2 + 256 * X3) (e3 : X3 = q3 + 256 * X4) (e4 : X4 = q4 + 256 * X5) (e5 : X5 = q5 + 256 * X6) (e6 : X6 = q6 + 256 * q7) (ha : a = w + w / 256) (hb : b = a + a / 65536) (hc : c = b + b / 4294967296) : c % 128 = q0 + q1 + q2 + q3 + q4 + q5 + q6 + q7 ∧ w < 10 * 256 ^ 7 ∧ a ≤ 2 * w ∧ b ≤ 2 * a := by
  have b6 : X6 < 256 * 10 := bc_up e6 h6 (by omega)
  have b5 := bc_up e5 h5 b6
  have b4 := bc_up e4 h4 b5
  have b3 := bc_up e3 h3 b4
  have b2 := bc_up e2 h2 b3
  have b1 := bc_up e1 h1 b2
  have bw := bc_up hw h0 b1
  obtain ⟨l1, l2⟩ := bc_lt h0 h1 h2 h3 h4 h5 h6
  have d1 : w / 256 = X1 := bc_dv hw (Nat.lt_of_le_of_lt h0 (by decide))
  have f2 := bc_f2 hw e1 e2
  have a1 : a = w + X1 := by rw [ha, d1]
  have d2 : a / 65536 = X2 + X3 := bc_dv (a1.trans f2) l1
  have b9 : b = w + X1 + (X2 + X3) := by rw [hb, d2, a1]
  have d3 : b / 4294967296 = X4 + X5 + X6 + q7 := bc_dv (b9.trans (bc_f3 hw e1 e2 e3 e4 e5 e6)) l2
  have c9 : c = w + X1 + (X2 + X3) + (X4 + X5 + X6 + q7) := by rw [hc, d3, b9]
  refine ⟨bc_md (c9.trans (bc_f4 hw e1 e2 e3 e4 e5 e6)) (bc_s64 h0 h1 h2 h3 h4 h5 h6 h7), ?_, ?_, ?_⟩
  · exact Nat.lt_of_lt_of_le bw (by decide)
  · rw [ha, Nat.two_mul]
    exact Nat.add_le_add_left (Nat.div_le_self _ _) _
  · rw [hb, Nat.two_mul]
    exact Nat.add_le_add_left (Nat.div_le_self _ _) _
