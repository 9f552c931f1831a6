/-! Long.bitCount -/
theorem bc_3d (n : Nat) : ∃ X1 X2 X3 X4 X5 X6 : Nat, bc_3 8 n = bc_p 8 (n % 256) + 256 * X1 ∧ X1 = bc_p 8 (n / 256 % 256) + 256 * X2 ∧ X2 = bc_p 8 (n / 256 / 256 % 256) + 256 * X3 ∧ X3 = bc_p 8 (n / 256 / 256 / 256 % 256) + 256 * X4 ∧ X4 = bc_p 8 (n / 256 / 256 / 256 / 256 % 256) + 256 * X5 ∧ X5 = bc_p 8 (n / 256 / 256 / 256 / 256 / 256 % 256) + 256 * X6 ∧ X6 = bc_p 8 (n / 256 / 256 / 256 / 256 / 256 / 256 % 256) + 256 * bc_p 8 (n / 256 / 256 / 256 / 256 / 256 / 256 / 256 % 256) := by
  refine ⟨bc_3 7 (n / 256), bc_3 6 (n / 256 / 256), bc_3 5 (n / 256 / 256 / 256), bc_3 4 (n / 256 / 256 / 256 / 256), bc_3 3 (n / 256 / 256 / 256 / 256 / 256), bc_3 2 (n / 256 / 256 / 256 / 256 / 256 / 256), Nat.add_comm _ _, Nat.add_comm _ _, Nat.add_comm _ _, Nat.add_comm _ _, Nat.add_comm _ _, Nat.add_comm _ _, ?_⟩
  show 256 * (256 * bc_3 0 _ + bc_p 8 _) + bc_p 8 _ = _
  rw [bc_3, Nat.mul_zero, Nat.zero_add, Nat.add_comm]
theorem bc_p64 (n : Nat) : bc_p 64 n = bc_p 8 (n % 256) + bc_p 8 (n / 256 % 256) + bc_p 8 (n / 256 / 256 % 256) + bc_p 8 (n / 256 / 256 / 256 % 256) + bc_p 8 (n / 256 / 256 / 256 / 256 % 256) + bc_p 8 (n / 256 / 256 / 256 / 256 / 256 % 256) + bc_p 8 (n / 256 / 256 / 256 / 256 / 256 / 256 % 256) + bc_p 8 (n / 256 / 256 / 256 / 256 / 256 / 256 / 256 % 256) := by
  have s : ∀ (k n : Nat), bc_p (8 + k) n = bc_p 8 (n % 256) + bc_p k (n / 256) := fun k n => bc_p_add 8 k n
  have z : ∀ v, bc_p 8 v = bc_p 8 (v % 256) := fun v => s 0 v
  have h : bc_p 64 n = bc_p 8 (n % 256) + (bc_p 8 (n / 256 % 256) + (bc_p 8 (n / 256 / 256 % 256) + (bc_p 8 (n / 256 / 256 / 256 % 256) + (bc_p 8 (n / 256 / 256 / 256 / 256 % 256) + (bc_p 8 (n / 256 / 256 / 256 / 256 / 256 % 256) + (bc_p 8 (n / 256 / 256 / 256 / 256 / 256 / 256 % 256) + bc_p 8 (n / 256 / 256 / 256 / 256 / 256 / 256 / 256))))))) := by
    rw [← s 8, ← s 16, ← s 24, ← s 32, ← s 40, ← s 48, ← s 56]
  rw [h, z (n / 256 / 256 / 256 / 256 / 256 / 256 / 256)]
  simp only [Nat.add_assoc]
theorem bc_1lt : ∀ (n x : Nat), bc_1 n x < 4 ^ n := by
  intro n
  induction n with
  | zero => intro x; simp [bc_1]
  | succ n ih =>
    intro x
    have h := ih (x / 4)
    have h2 : ∀ v, v < 4 → bc_p 2 v < 4 := by decide
    have h3 := h2 (x % 4) (Nat.mod_lt _ (by decide))
    rw [bc_1, Nat.pow_succ]
    omega
theorem bc_2lt : ∀ (n x : Nat), 3 * bc_2 n x < 16 ^ n := by
  intro n
  induction n with
  | zero => intro x; simp [bc_2]
  | succ n ih =>
    intro x
    have h := ih (x / 16)
    have h3 := bc_p_le (x % 16) (Nat.mod_lt _ (by decide))
    rw [bc_2, Nat.pow_succ]
    omega
theorem bc_lN {n : Nat} (hn : n < 2 ^ 64) : let i1 := lN n - (((lN n).toUInt64 >>> ((1 : Int32).toInt64.toUInt64 &&& Int64.toUInt64 63)).toInt64 &&& 6148914691236517205)
    i1 = lN (bc_1 32 n) := by
  intro i1
  show lN n - (((lN n).toUInt64 >>> ((nI 1).toInt64.toUInt64 &&& Int64.toUInt64 63)).toInt64 &&& lN (bc_m1 32)) = _
  have h := bc_s1 32 n (by simpa using hn)
  rw [wb_shr hn (by decide), wb_and (by omega) (by decide), Nat.pow_one, lN_sub h.1, h.2]
theorem bc_lN2 {y n : Nat} (hy : y = bc_1 32 n) : (lN y &&& 3689348814741910323) + (((lN y).toUInt64 >>> ((2 : Int32).toInt64.toUInt64 &&& Int64.toUInt64 63)).toInt64 &&& 3689348814741910323) = lN (bc_2 16 n) := by
  have hl : y < 2 ^ 64 := by rw [hy]; exact Nat.lt_of_lt_of_le (bc_1lt 32 n) (by decide)
  show (lN y &&& lN (bc_m2 16)) + (((lN y).toUInt64 >>> ((nI 2).toInt64.toUInt64 &&& Int64.toUInt64 63)).toInt64 &&& lN (bc_m2 16)) = _
  rw [wb_shr hl (by decide), wb_and hl (by decide), wb_and (by omega) (by decide), lN_add, hy, show (2 : Nat) ^ 2 = 4 from rfl]
  rw [bc_s2 16 n]
theorem bc_lN3 {y n : Nat} (hy : y = bc_2 16 n) : (lN y + ((lN y).toUInt64 >>> ((4 : Int32).toInt64.toUInt64 &&& Int64.toUInt64 63)).toInt64) &&& 1085102592571150095 = lN (bc_3 8 n) := by
  have hl : 3 * y < 2 ^ 64 := by rw [hy]; exact Nat.lt_of_lt_of_le (bc_2lt 16 n) (by decide)
  show (lN y + ((lN y).toUInt64 >>> ((nI 4).toInt64.toUInt64 &&& Int64.toUInt64 63)).toInt64) &&& lN (bc_m3 8) = _
  rw [wb_shr (by omega) (by decide), lN_add, wb_and (by omega) (by decide), hy, show (2 : Nat) ^ 4 = 16 from rfl]
  rw [bc_s3 8 n]
theorem bc_lN4 {y k p : Nat} {K : Int32} (hK : K = nI k) (hk : k < 64) (hp : 2 ^ k = p) (hl : y < 2 ^ 64) : lN y + ((lN y).toUInt64 >>> (K.toInt64.toUInt64 &&& Int64.toUInt64 63)).toInt64 = lN (y + y / p) := by
  subst hK
  rw [wb_shr hl hk, lN_add, hp]
theorem bc_i (c : Nat) : nI c &&& 127 = nI (c % 128) := by
  have e : nI c = nI (c % 2 ^ 32) := Int32.toBitVec_inj.mp (by show BitVec.ofNat 32 c = BitVec.ofNat 32 (c % 2 ^ 32); apply BitVec.eq_of_toNat_eq; simp)
  have h := pk_andN (n := c % 2 ^ 32) (m := 127) (Nat.mod_lt _ (by decide)) 7 (by decide)
  rw [e, h]
  congr 1
  omega
theorem c_bitCount (x : Int64) (hp : mj_H) (Q : mj_Q) : mj_call 0 [.long x] hp Q = Q (some (.int (nI (lc x)))) hp := by
  obtain ⟨n, hn, rfl⟩ := wb_of x
  rw [en_0]
  simp only [x_0_0, x_0_1, x_0_2, x_0_3, x_0_4, x_0_7, x_0_8, x_0_9, x_0_10, x_0_11, x_0_14, x_0_15, x_0_16, x_0_17, x_0_18, x_0_21, x_0_22, x_0_23, x_0_24, x_0_25, x_0_26, x_0_27, x_0_28, x_0_29, x_0_32, x_0_33, x_0_34, x_0_35, x_0_36, x_0_38, x_0_39, x_0_40, x_0_41, x_0_42, x_0_43, x_0_45, x_0_46, x_0_47, x_0_48, x_0_49, x_0_50, x_0_52, x_0_53, x_0_54, x_0_55, x_0_56, x_0_57, x_0_59, x_0_60, mw_nx, mw_no, mw_ite, mw_call, mw_ret, mw_cst, mw_ii, mw_i1, mw_ll, mw_l1, mw_li, mw_i2l, mw_l2i, mw_lcm, mw_if, mw_ic, mw_ifnN, mw_ifnR, mw_go, mw_dupi, mw_dupr, mw_popi, mw_popr, mw_nw, mw_rti, mw_rtl, mw_rtr, mw_rtn, mw_rtv, mw_rt0, mw_rt1, mj_ild, mj_lld, mj_ald, mj_ist, mj_lst, mj_ast, mj_inc, mj_iz, mj_get, mj_put, mj_len, mj_iar, mj_aar, mj_iaw, mj_aaw, mj_ivs, mj_ivv, mj_ivi, mj_ob, mj_tk, mj_cat, mj_st1, mj_st2, mj_clr, mj_nwi, mj_nwq, List.getElem?_cons_zero, List.getElem?_cons_succ, List.length_cons, List.length_nil, List.set_cons_zero, List.set_cons_succ, Value.category, decide_eq_true_eq, List.map_cons, List.map_nil, List.sum_cons, List.sum_nil, Option.toList, List.cons_append, List.nil_append, ite_true, ite_false, if_true, if_false, reduceCtorEq, true_and, and_true, narrow_i, narrow_l, narrow_r, narrow_n, fits_i, fits_l, fits_ro, fits_ra, fits_no, fits_na, Nat.reduceAdd, Nat.reduceLT, Nat.reduceLeDiff, Nat.reduceEqDiff, Nat.reduceSub, zero_add0, true_or, or_true, false_or, or_false, not_true_eq_false, not_false_eq_true, eq_self, i10, i01, im0, im1]
  have h1 := bc_lN hn
  dsimp only at h1
  rw [h1, bc_lN2 rfl, bc_lN3 rfl]
  obtain ⟨X1, X2, X3, X4, X5, X6, e0, e1, e2, e3, e4, e5, e6⟩ := bc_3d n
  have le8 : ∀ v, bc_p 8 (v % 256) ≤ 8 := fun v => bc_p8_le _ (Nat.mod_lt _ (by decide))
  obtain ⟨m1, m2, m3, m4⟩ := bc_s6 (le8 _) (le8 _) (le8 _) (le8 _) (le8 _) (le8 _) (le8 _) (le8 _) e0 e1 e2 e3 e4 e5 e6 rfl rfl rfl
  have m2' : bc_3 8 n < 2 ^ 61 := Nat.lt_of_lt_of_le m2 (by decide)
  rw [bc_lN4 (K := 8) (k := 8) (p := 256) rfl (by decide) rfl (by omega), bc_lN4 (K := 16) (k := 16) (p := 65536) rfl (by decide) rfl (by omega), bc_lN4 (K := 32) (k := 32) (p := 4294967296) rfl (by decide) rfl (by omega), lN_i, bc_i, m1, ← bc_p64, lc_bp, wb_tn hn]
