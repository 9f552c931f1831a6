/-! How an instruction's equation is got: by its decoding, and by its row -/
theorem mj_x {m pc len : Nat} {i : ClassFile.Instr} {o : mj_O} (hd : decode (mj_code m) pc = .ok (i, len)) (hl : mj_lok i len = true) (ho : mj_ex m i pc = o) (L : mj_L) (st : List Value) (hp : mj_H) (Q : mj_Q) : mj_wp m pc L st hp Q = mj_wpR m L hp Q (o L st hp) := mj_wp_of ((mj_step_of hd hl).trans ho) L st hp Q
theorem mj_bt {pc t : Nat} {off : Int} {f : Nat → mj_O} (h : (pc : Int) + off = (t : Int)) : mj_b pc off f = f t := by
  unfold mj_b
  rw [if_pos (by omega), h]
  rfl
theorem mj_xtsw {m pc dT : Nat} {dd lo hi : Int} {offs : Array Int} {ts : List Nat} (hb : mj_bs pc (dd :: offs.toList) = true) (hd : ((pc : Int) + dd).toNat = dT) (ht : (offs.toList.map fun o => ((pc : Int) + o).toNat) = ts) : mj_ex m (.tableswitch dd lo hi offs) pc = mj_tsw lo hi dT ts := by
  unfold mj_ex
  dsimp only
  rw [if_pos hb, hd, ht]
theorem mj_xget {m x pc n ci k : Nat} (hf : mj_find mj_fl (mj_on m) x = some (ci, k)) (hn : pc + 3 = n) : mj_ex m (.getfield x) pc = mj_get ci k n := by
  unfold mj_ex
  dsimp only
  rw [hf, ← hn]
theorem mj_xput {m x pc n ci k : Nat} {ty : FieldType} (hf : mj_find mj_fl (mj_on m) x = some (ci, k)) (hfin : mj_fin ci k = false ∨ ((mj_y m).name = "<init>" ∧ mj_fown ci k = mj_own m)) (ht : mj_ty ci k = ty) (hn : pc + 3 = n) : mj_ex m (.putfield x) pc = mj_put ci k ty n := by
  unfold mj_ex
  dsimp only
  rw [hf, ← hn, ← ht]
  exact if_pos hfin
theorem mj_xnew {m x pc n ci N : Nat} {fs : List Value} (hf : mj_find mj_nl (mj_on m) x = some ci) (hN : mj_N ci = N) (hd : mj_def ci = fs) (hn : pc + 3 = n) : mj_ex m (.new x) pc = mj_nw ci N fs n := by
  unfold mj_ex
  dsimp only
  rw [hf, ← hn, ← hN, ← hd]
theorem mj_xanew {m x pc n t : Nat} (hf : mj_find mj_ql (mj_on m) x = some t) (hn : pc + 3 = n) : mj_ex m (.anewarray x) pc = mj_nwq t n := by
  unfold mj_ex
  dsimp only
  rw [hf, ← hn]
theorem mj_xldc {m x pc n : Nat} {v : Int32} (hf : mj_find mj_kl (mj_on m) x = some (.int v)) (hn : pc + 2 = n) : mj_ex m (.ldc x) pc = mj_cst (.int v) n := by
  unfold mj_ex
  dsimp only
  rw [hf, ← hn]
theorem mj_xldc2 {m x pc n : Nat} {v : Int64} (hf : mj_find mj_kl (mj_on m) x = some (.long v)) (hn : pc + 3 = n) : mj_ex m (.ldc2_w x) pc = mj_cst (.long v) n := by
  unfold mj_ex
  dsimp only
  rw [hf, ← hn]
theorem mj_xivs {m x pc n m' kd na : Nat} (hf : mj_find mj_ml (mj_on m) x = some (m', kd)) (hk : kd ≤ 1) (hh : mj_hgt m' < mj_hgt m ∧ mj_lr m' + mj_mxl m' + 19 ≤ mj_lr m) (ha : mj_na m' = na) (hn : pc + 3 = n) : mj_ex m (.invokestatic x) pc = mj_ivs m' na n := by
  unfold mj_ex
  dsimp only
  rw [hf, ← hn, ← ha]
  dsimp only
  rw [if_pos hk]
  unfold mj_inv
  rw [if_neg (by omega), if_pos hh, if_pos hk]
theorem mj_xivv {m x pc n m' kd na ci : Nat} (hf : mj_find mj_ml (mj_on m) x = some (m', kd)) (hk : 2 ≤ kd ∧ kd ≤ 3) (hh : mj_hgt m' < mj_hgt m ∧ mj_lr m' + mj_mxl m' + 19 ≤ mj_lr m) (ha : mj_na m' = na) (hc : mj_ci m' = ci) (hn : pc + 3 = n) : mj_ex m (.invokevirtual x) pc = mj_ivv m' na ci n := by
  unfold mj_ex
  dsimp only
  rw [hf, ← hn, ← ha, ← hc]
  dsimp only
  rw [if_pos hk]
  unfold mj_inv
  rw [if_neg (by omega), if_pos hh, if_neg (by omega), if_pos (by omega)]
theorem mj_xivi {m x pc n m' na : Nat} (hf : mj_find mj_ml (mj_on m) x = some (m', 4)) (hh : mj_hgt m' < mj_hgt m ∧ mj_lr m' + mj_mxl m' + 19 ≤ mj_lr m) (ha : mj_na m' = na) (hn : pc + 3 = n) : mj_ex m (.invokespecial x) pc = mj_ivi m' na n := by
  unfold mj_ex
  dsimp only
  rw [hf, ← hn, ← ha]
  dsimp only
  rw [if_pos (by decide)]
  unfold mj_inv
  rw [if_neg (by decide), if_pos hh, if_neg (by decide), if_neg (by decide), if_pos rfl]
theorem mj_xob {m x pc n m' : Nat} (hf : mj_find mj_ml (mj_on m) x = some (m', 5)) (hh : 1 ≤ mj_hgt m ∧ 20 ≤ mj_lr m) (hn : pc + 3 = n) : mj_ex m (.invokespecial x) pc = mj_ob n := by
  unfold mj_ex
  dsimp only
  rw [hf, ← hn]
  dsimp only
  rw [if_pos (by decide)]
  unfold mj_inv
  rw [if_pos rfl, if_pos hh]
theorem mj_xrti {m pc : Nat} {ty : FieldType} (h : mj_ret m = some ty) : mj_ex m .ireturn pc = mj_rti ty := by
  unfold mj_ex
  dsimp only
  rw [h]
theorem mj_xrtl {m pc : Nat} (h : mj_ret m = some .long) : mj_ex m .lreturn pc = mj_rtl := by
  unfold mj_ex
  dsimp only
  rw [if_pos h]
theorem mj_xrta {m pc : Nat} {C : String} (h : mj_ret m = some (.object C)) : mj_ex m .areturn pc = mj_rta := by
  unfold mj_ex
  dsimp only
  rw [h]
theorem mj_xrtv {m pc : Nat} (h : mj_ret m = none) : mj_ex m .return_ pc = mj_rtv := by
  unfold mj_ex
  dsimp only
  rw [if_pos h]
/-- a call by its values: where they lie -/
theorem mj_ent {m n : Nat} {vs : List Value} {L : mj_L} (hm : mj_mxl m = n) (hl : (mj_lay0 vs).length ≤ n) (hL : mj_lay n vs = L) (hp : mj_H) (Q : mj_Q) : mj_call m vs hp Q = mj_wp m 0 L [] hp Q := by
  unfold mj_call
  rw [hm, hL]
  exact propext ⟨fun h => h.2, fun h => ⟨hl, h⟩⟩
section MJW
variable {m n : Nat} {L : mj_L} {st : List Value} {hp : mj_H} {Q : mj_Q}
theorem mw_nx {L' : mj_L} {st' : List Value} {hp' : mj_H} : mj_wpR m L hp Q (mj_nx n L' st' hp') = mj_wp m n L' st' hp' Q := rfl
theorem mw_no : mj_wpR m L hp Q none = False := rfl
theorem mw_ite {c : Prop} [Decidable c] {a b : mj_R} : mj_wpR m L hp Q (if c then a else b) = if c then mj_wpR m L hp Q a else mj_wpR m L hp Q b := by split <;> rfl
theorem mw_call {m' : Nat} {vs rest : List Value} : mj_wpR m L hp Q (some (.inr (.inl (m', vs, rest, n)))) = mj_call m' vs hp (fun r hp' => mj_wp m n L (r.toList ++ rest) hp' Q) := rfl
theorem mw_ret {r : Option Value} : mj_wpR m L hp Q (some (.inr (.inr r))) = Q r hp := rfl
theorem mw_cst {v : Value} : mj_wpR m L hp Q (mj_cst v n L st hp) = mj_wp m n L (v :: st) hp Q := rfl
theorem mw_ii {f : Int32 → Int32 → Int32} {x y : Int32} : mj_wpR m L hp Q (mj_ii f n L (.int y :: .int x :: st) hp) = mj_wp m n L (.int (f x y) :: st) hp Q := rfl
theorem mw_i1 {f : Int32 → Int32} {x : Int32} : mj_wpR m L hp Q (mj_i1 f n L (.int x :: st) hp) = mj_wp m n L (.int (f x) :: st) hp Q := rfl
theorem mw_ll {f : Int64 → Int64 → Int64} {x y : Int64} : mj_wpR m L hp Q (mj_ll f n L (.long y :: .long x :: st) hp) = mj_wp m n L (.long (f x y) :: st) hp Q := rfl
theorem mw_l1 {f : Int64 → Int64} {x : Int64} : mj_wpR m L hp Q (mj_l1 f n L (.long x :: st) hp) = mj_wp m n L (.long (f x) :: st) hp Q := rfl
theorem mw_li {f : Int64 → Int32 → Int64} {x : Int64} {y : Int32} : mj_wpR m L hp Q (mj_li f n L (.int y :: .long x :: st) hp) = mj_wp m n L (.long (f x y) :: st) hp Q := rfl
theorem mw_i2l {x : Int32} : mj_wpR m L hp Q (mj_i2l n L (.int x :: st) hp) = mj_wp m n L (.long x.toInt64 :: st) hp Q := rfl
theorem mw_l2i {x : Int64} : mj_wpR m L hp Q (mj_l2i n L (.long x :: st) hp) = mj_wp m n L (.int x.toInt32 :: st) hp Q := rfl
theorem mw_lcm {x y : Int64} : mj_wpR m L hp Q (mj_lcm n L (.long y :: .long x :: st) hp) = mj_wp m n L (.int (lg_cmp x y) :: st) hp Q := rfl
theorem mw_if {f : Int32 → Bool} {t : Nat} {x : Int32} : mj_wpR m L hp Q (mj_if f t n L (.int x :: st) hp) = if f x = true then mj_wp m t L st hp Q else mj_wp m n L st hp Q := by
  show mj_wpR m L hp Q (if f x = true then mj_nx t L st hp else mj_nx n L st hp) = _
  split <;> rfl
theorem mw_ic {f : Int32 → Int32 → Bool} {t : Nat} {x y : Int32} : mj_wpR m L hp Q (mj_ic f t n L (.int y :: .int x :: st) hp) = if f x y = true then mj_wp m t L st hp Q else mj_wp m n L st hp Q := by
  show mj_wpR m L hp Q (if f x y = true then mj_nx t L st hp else mj_nx n L st hp) = _
  split <;> rfl
theorem mw_ifnN {t : Nat} : mj_wpR m L hp Q (mj_ifn t n L (.null :: st) hp) = mj_wp m t L st hp Q := rfl
theorem mw_ifnR {t a : Nat} : mj_wpR m L hp Q (mj_ifn t n L (.ref a :: st) hp) = mj_wp m n L st hp Q := rfl
theorem mw_go : mj_wpR m L hp Q (mj_go n L st hp) = mj_wp m n L st hp Q := rfl
theorem mw_dupi {x : Int32} : mj_wpR m L hp Q (mj_dup n L (.int x :: st) hp) = mj_wp m n L (.int x :: .int x :: st) hp Q := rfl
theorem mw_dupr {x : Nat} : mj_wpR m L hp Q (mj_dup n L (.ref x :: st) hp) = mj_wp m n L (.ref x :: .ref x :: st) hp Q := rfl
theorem mw_popi {x : Int32} : mj_wpR m L hp Q (mj_pop n L (.int x :: st) hp) = mj_wp m n L st hp Q := rfl
theorem mw_popr {x : Nat} : mj_wpR m L hp Q (mj_pop n L (.ref x :: st) hp) = mj_wp m n L st hp Q := rfl
theorem mw_nw {ci N : Nat} {fs : List Value} : mj_wpR m L hp Q (mj_nw ci N fs n L st hp) = mj_wp m n L (.ref hp.2.1 :: st) (mj_push hp (.inr (ci, fs)) N) Q := rfl
theorem mw_rti {x : Int32} : mj_wpR m L hp Q (mj_rti .int L [.int x] hp) = Q (some (.int x)) hp := by
  have h : mj_rti .int L [.int x] hp = some (.inr (.inr (some (.int x)))) := by
    unfold mj_rti
    exact if_pos rfl
  rw [h]
  rfl
theorem mw_rtz {x : Int32} (h : x = 0 ∨ x = 1) : mj_wpR m L hp Q (mj_rti .boolean L [.int x] hp) = Q (some (.int x)) hp := by
  rcases h with rfl | rfl <;> rfl
theorem mw_rtl {x : Int64} : mj_wpR m L hp Q (mj_rtl L [.long x] hp) = Q (some (.long x)) hp := rfl
theorem mw_rtr {a : Nat} : mj_wpR m L hp Q (mj_rta L [.ref a] hp) = Q (some (.ref a)) hp := rfl
theorem mw_rtn : mj_wpR m L hp Q (mj_rta L [.null] hp) = Q (some .null) hp := rfl
theorem mw_rtv : mj_wpR m L hp Q (mj_rtv L [] hp) = Q none hp := rfl
theorem mw_get {ci k a : Nat} {fs : List Value} {v : Value} (h : hp.1 a = some (.inr (ci, fs))) (hv : fs[k]? = some v) : mj_wpR m L hp Q (mj_get ci k n L (.ref a :: st) hp) = mj_wp m n L (v :: st) hp Q := by
  unfold mj_get
  simp only [h, if_true, hv]
  rfl
end MJW
theorem mj_up_at {hp : mj_H} {a : Nat} {e : va_E} : (mj_up hp a e).1 a = some e := by simp [mj_up]
theorem mj_up_off {hp : mj_H} {a b : Nat} {e : va_E} (h : b ≠ a) : (mj_up hp a e).1 b = hp.1 b := by simp [mj_up, h]
theorem mj_up_n {hp : mj_H} {a : Nat} {e : va_E} : (mj_up hp a e).2 = hp.2 := rfl
theorem mj_up_up {hp : mj_H} {a : Nat} {e e' : va_E} : mj_up (mj_up hp a e) a e' = mj_up hp a e' := by
  unfold mj_up
  refine Prod.ext (funext fun q => ?_) rfl
  by_cases h : q = a <;> simp [h]
theorem mj_push_at {hp : mj_H} {e : va_E} {k : Nat} : (mj_push hp e k).1 hp.2.1 = some e := by simp [mj_push]
theorem mj_push_off {hp : mj_H} {e : va_E} {k b : Nat} (h : b ≠ hp.2.1) : (mj_push hp e k).1 b = hp.1 b := by simp [mj_push, h]
