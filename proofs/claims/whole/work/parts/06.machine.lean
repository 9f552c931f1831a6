/-! A small machine over named cells: one step of a method's code as a function, runs by fuel, and what holds behind a run (mj_wp). Part 04 shows that the machine of the Statement does the same. -/
abbrev mj_H : Type := (Nat → Option va_E) × Nat × Nat
abbrev mj_L : Type := List (Option Value)
abbrev mj_R : Type := Option ((Nat × mj_L × List Value × mj_H) ⊕ ((Nat × List Value × List Value × Nat) ⊕ Option Value))
/-- the tag of the script's cell -/
abbrev mj_tag : Nat := 99
abbrev mj_O : Type := mj_L → List Value → mj_H → mj_R
def mj_up (hp : mj_H) (a : Nat) (e : va_E) : mj_H := (fun q => if q = a then some e else hp.1 q, hp.2)
def mj_push (hp : mj_H) (e : va_E) (k : Nat) : mj_H := (fun q => if q = hp.2.1 then some e else hp.1 q, hp.2.1 + 1, hp.2.2 + k)
def mj_nx (pc : Nat) (L : mj_L) (st : List Value) (hp : mj_H) : mj_R := some (.inl (pc, L, st, hp))
def mj_clr (L : mj_L) (i : Nat) : mj_L := match i with
  | 0 => L
  | j + 1 => match L[j]? with
    | some (some v) => if v.category = 2 then L.set j none else L
    | _ => L
def mj_st1 (L : mj_L) (i : Nat) (v : Value) : mj_L := (mj_clr L i).set i (some v)
def mj_st2 (L : mj_L) (i : Nat) (v : Value) : mj_L := ((mj_clr L i).set i (some v)).set (i + 1) none
def mj_no : mj_O := fun _ _ _ => none
theorem mj_none {P : Prop} {r : (Nat × mj_L × List Value × mj_H) ⊕ ((Nat × List Value × List Value × Nat) ⊕ Option Value)} (h : (none : mj_R) = some r) : P := by cases h
def mj_cst (v : Value) (n : Nat) : mj_O := fun L st hp => mj_nx n L (v :: st) hp
def mj_ild (i n : Nat) : mj_O := fun L st hp => match L[i]? with
  | some (some (.int x)) => mj_nx n L (.int x :: st) hp
  | _ => none
def mj_lld (i n : Nat) : mj_O := fun L st hp => match L[i]? with
  | some (some (.long x)) => mj_nx n L (.long x :: st) hp
  | _ => none
def mj_ald (i n : Nat) : mj_O := fun L st hp => match L[i]? with
  | some (some (.ref x)) => mj_nx n L (.ref x :: st) hp
  | some (some .null) => mj_nx n L (.null :: st) hp
  | _ => none
def mj_ist (i n : Nat) : mj_O := fun L st hp => match st with
  | .int x :: st => if i < L.length then mj_nx n (mj_st1 L i (.int x)) st hp else none
  | _ => none
def mj_lst (i n : Nat) : mj_O := fun L st hp => match st with
  | .long x :: st => if i + 1 < L.length then mj_nx n (mj_st2 L i (.long x)) st hp else none
  | _ => none
def mj_ast (i n : Nat) : mj_O := fun L st hp => match st with
  | .ref x :: st => if i < L.length then mj_nx n (mj_st1 L i (.ref x)) st hp else none
  | .null :: st => if i < L.length then mj_nx n (mj_st1 L i .null) st hp else none
  | _ => none
def mj_inc (i : Nat) (c : Int32) (n : Nat) : mj_O := fun L st hp => match L[i]? with
  | some (some (.int x)) => if i < L.length then mj_nx n (mj_st1 L i (.int (x + c))) st hp else none
  | _ => none
def mj_ii (f : Int32 → Int32 → Int32) (n : Nat) : mj_O := fun L st hp => match st with
  | .int y :: .int x :: st => mj_nx n L (.int (f x y) :: st) hp
  | _ => none
def mj_iz (f : Int32 → Int32 → Int32) (n : Nat) : mj_O := fun L st hp => match st with
  | .int y :: .int x :: st => if y = 0 then none else mj_nx n L (.int (f x y) :: st) hp
  | _ => none
def mj_i1 (f : Int32 → Int32) (n : Nat) : mj_O := fun L st hp => match st with
  | .int x :: st => mj_nx n L (.int (f x) :: st) hp
  | _ => none
def mj_ll (f : Int64 → Int64 → Int64) (n : Nat) : mj_O := fun L st hp => match st with
  | .long y :: .long x :: st => mj_nx n L (.long (f x y) :: st) hp
  | _ => none
def mj_l1 (f : Int64 → Int64) (n : Nat) : mj_O := fun L st hp => match st with
  | .long x :: st => mj_nx n L (.long (f x) :: st) hp
  | _ => none
def mj_li (f : Int64 → Int32 → Int64) (n : Nat) : mj_O := fun L st hp => match st with
  | .int y :: .long x :: st => mj_nx n L (.long (f x y) :: st) hp
  | _ => none
def mj_i2l (n : Nat) : mj_O := fun L st hp => match st with
  | .int x :: st => mj_nx n L (.long x.toInt64 :: st) hp
  | _ => none
def mj_l2i (n : Nat) : mj_O := fun L st hp => match st with
  | .long x :: st => mj_nx n L (.int x.toInt32 :: st) hp
  | _ => none
def mj_lcm (n : Nat) : mj_O := fun L st hp => match st with
  | .long y :: .long x :: st => mj_nx n L (.int (lg_cmp x y) :: st) hp
  | _ => none
def mj_if (f : Int32 → Bool) (t n : Nat) : mj_O := fun L st hp => match st with
  | .int x :: st => if f x = true then mj_nx t L st hp else mj_nx n L st hp
  | _ => none
def mj_ic (f : Int32 → Int32 → Bool) (t n : Nat) : mj_O := fun L st hp => match st with
  | .int y :: .int x :: st => if f x y = true then mj_nx t L st hp else mj_nx n L st hp
  | _ => none
def mj_ifn (t n : Nat) : mj_O := fun L st hp => match st with
  | .null :: st => mj_nx t L st hp
  | .ref _ :: st => mj_nx n L st hp
  | _ => none
def mj_go (t : Nat) : mj_O := fun L st hp => mj_nx t L st hp
def mj_tsw (lo hi : Int) (d : Nat) (ts : List Nat) : mj_O := fun L st hp => match st with
  | .int x :: st => if x.toInt < lo ∨ hi < x.toInt then mj_nx d L st hp else match ts[(x.toInt - lo).toNat]? with
    | some t => mj_nx t L st hp
    | none => none
  | _ => none
def mj_dup (n : Nat) : mj_O := fun L st hp => match st with
  | v :: st => if v.category = 1 then mj_nx n L (v :: v :: st) hp else none
  | _ => none
def mj_pop (n : Nat) : mj_O := fun L st hp => match st with
  | v :: st => if v.category = 1 then mj_nx n L st hp else none
  | _ => none
def mj_dx1 (n : Nat) : mj_O := fun L st hp => match st with
  | v :: w :: st => if v.category = 1 ∧ w.category = 1 then mj_nx n L (v :: w :: v :: st) hp else none
  | _ => none
def mj_dx2 (n : Nat) : mj_O := fun L st hp => match st with
  | v :: w :: u :: st => if v.category = 1 ∧ w.category = 1 ∧ u.category = 1 then mj_nx n L (v :: w :: u :: v :: st) hp else none
  | _ => none
def mj_d2 (n : Nat) : mj_O := fun L st hp => match st with
  | v :: w :: st => if v.category = 2 then mj_nx n L (v :: v :: w :: st) hp else if w.category = 1 then mj_nx n L (v :: w :: v :: w :: st) hp else none
  | v :: st => if v.category = 2 then mj_nx n L (v :: v :: st) hp else none
  | _ => none
def mj_d21 (n : Nat) : mj_O := fun L st hp => match st with
  | v :: w :: st => if v.category = 2 ∧ w.category = 1 then mj_nx n L (v :: w :: v :: st) hp else none
  | _ => none
def mj_get (ci k n : Nat) : mj_O := fun L st hp => match st with
  | .ref a :: st => match hp.1 a with
    | some (.inr (cj, fs)) => if cj = ci then match fs[k]? with
      | some v => mj_nx n L (v :: st) hp
      | none => none
      else none
    | _ => none
  | _ => none
def mj_put (ci k : Nat) (ty : FieldType) (n : Nat) : mj_O := fun L st hp => match st with
  | v :: .ref a :: st => match hp.1 a with
    | some (.inr (cj, fs)) => if cj = ci ∧ k < fs.length ∧ narrow ty v = v ∧ fits ty v = true then mj_nx n L st (mj_up hp a (.inr (ci, fs.set k v))) else none
    | _ => none
  | _ => none
def mj_nw (ci N : Nat) (fs : List Value) (n : Nat) : mj_O := fun L st hp => mj_nx n L (.ref hp.2.1 :: st) (mj_push hp (.inr (ci, fs)) N)
def mj_nwi (t n : Nat) : mj_O := fun L st hp => match st with
  | .int x :: st => if x < 0 ∨ 65536 < x.toNatClampNeg then none else mj_nx n L (.ref hp.2.1 :: st) (mj_push hp (.inl (t, x.toNatClampNeg, .inl (fun _ => 0))) x.toNatClampNeg)
  | _ => none
def mj_nwl (t n : Nat) : mj_O := fun L st hp => match st with
  | .int x :: st => if x < 0 ∨ 65536 < x.toNatClampNeg then none else mj_nx n L (.ref hp.2.1 :: st) (mj_push hp (.inl (t, x.toNatClampNeg, .inr (.inl (fun _ => 0)))) x.toNatClampNeg)
  | _ => none
def mj_nwq (t n : Nat) : mj_O := fun L st hp => match st with
  | .int x :: st => if x < 0 ∨ 65536 < x.toNatClampNeg then none else mj_nx n L (.ref hp.2.1 :: st) (mj_push hp (.inl (t, x.toNatClampNeg, .inr (.inr (.inr (.inr (fun _ => none)))))) x.toNatClampNeg)
  | _ => none
def mj_len (n : Nat) : mj_O := fun L st hp => match st with
  | .ref a :: st => match hp.1 a with
    | some (.inl (t, k, _)) => if t < mj_at.length ∨ t = mj_tag then mj_nx n L (.int (Int32.ofNat k) :: st) hp else none
    | _ => none
  | _ => none
def mj_iar (ty : FieldType) (n : Nat) : mj_O := fun L st hp => match st with
  | .int i :: .ref a :: st => match hp.1 a with
    | some (.inl (t, k, .inl f)) => if (mj_at[t]? = some ty ∨ (t = mj_tag ∧ ty = .int)) ∧ ¬ (i < 0 ∨ k ≤ i.toNatClampNeg) then mj_nx n L (.int (f i.toNatClampNeg) :: st) hp else none
    | _ => none
  | _ => none
def mj_lar (n : Nat) : mj_O := fun L st hp => match st with
  | .int i :: .ref a :: st => match hp.1 a with
    | some (.inl (t, k, .inr (.inl f))) => if mj_at[t]? = some .long ∧ ¬ (i < 0 ∨ k ≤ i.toNatClampNeg) then mj_nx n L (.long (f i.toNatClampNeg) :: st) hp else none
    | _ => none
  | _ => none
def mj_aar (n : Nat) : mj_O := fun L st hp => match st with
  | .int i :: .ref a :: st => match hp.1 a with
    | some (.inl (t, k, .inr (.inr (.inr (.inr f))))) => match mj_at[t]? with
      | some (.object _) => if ¬ (i < 0 ∨ k ≤ i.toNatClampNeg) then mj_nx n L (va_rf (f i.toNatClampNeg) :: st) hp else none
      | _ => none
    | _ => none
  | _ => none
def mj_iaw (ty : FieldType) (n : Nat) : mj_O := fun L st hp => match st with
  | .int x :: .int i :: .ref a :: st => match hp.1 a with
    | some (.inl (t, k, .inl f)) => if mj_at[t]? = some ty ∧ ¬ (i < 0 ∨ k ≤ i.toNatClampNeg) ∧ narrow ty (.int x) = .int x then mj_nx n L st (mj_up hp a (.inl (t, k, .inl (upd f i.toNatClampNeg x)))) else none
    | _ => none
  | _ => none
def mj_law (n : Nat) : mj_O := fun L st hp => match st with
  | .long x :: .int i :: .ref a :: st => match hp.1 a with
    | some (.inl (t, k, .inr (.inl f))) => if mj_at[t]? = some .long ∧ ¬ (i < 0 ∨ k ≤ i.toNatClampNeg) then mj_nx n L st (mj_up hp a (.inl (t, k, .inr (.inl (vp_updL f i.toNatClampNeg x))))) else none
    | _ => none
  | _ => none
/-- a reference comes into an array of its own class; or null -/
def mj_aaw (n : Nat) : mj_O := fun L st hp => match st with
  | .ref v :: .int i :: .ref a :: st => match hp.1 a, hp.1 v with
    | some (.inl (t, k, .inr (.inr (.inr (.inr f))))), some (.inr (ci, _)) => if mj_at[t]? = (mj_cl[ci]?).map (fun r => .object r.1) ∧ mj_cl[ci]?.isSome = true ∧ ¬ (i < 0 ∨ k ≤ i.toNatClampNeg) then mj_nx n L st (mj_up hp a (.inl (t, k, .inr (.inr (.inr (.inr (va_up f i.toNatClampNeg (some v)))))))) else none
    | _, _ => none
  | .null :: .int i :: .ref a :: st => match hp.1 a with
    | some (.inl (t, k, .inr (.inr (.inr (.inr f))))) => match mj_at[t]? with
      | some (.object _) => if ¬ (i < 0 ∨ k ≤ i.toNatClampNeg) then mj_nx n L st (mj_up hp a (.inl (t, k, .inr (.inr (.inr (.inr (va_up f i.toNatClampNeg none))))))) else none
      | _ => none
    | _ => none
  | _ => none
def mj_tk : Nat → List Value → List Value → Option (List Value × List Value)
  | 0, acc, st => some (acc, st)
  | _ + 1, _, [] => none
  | k + 1, acc, v :: st => mj_tk k (v :: acc) st
def mj_cat (st : List Value) : Nat := (st.map fun v => v.category).sum
def mj_ivs (m' na n : Nat) : mj_O := fun _ st _ => match mj_tk na [] st with
  | some (vs, rest) => if mj_cat rest ≤ 8 then some (.inr (.inl (m', vs, rest, n))) else none
  | none => none
def mj_ivv (m' na ci n : Nat) : mj_O := fun _ st hp => match mj_tk na [] st with
  | some (vs, .ref a :: rest) => match hp.1 a with
    | some (.inr (cj, _)) => if cj = ci ∧ mj_cat rest ≤ 8 then some (.inr (.inl (m', .ref a :: vs, rest, n))) else none
    | _ => none
  | _ => none
def mj_ivi (m' na n : Nat) : mj_O := fun _ st _ => match mj_tk na [] st with
  | some (vs, .ref a :: rest) => if mj_cat rest ≤ 8 then some (.inr (.inl (m', .ref a :: vs, rest, n))) else none
  | _ => none
/-- Object's constructor -/
def mj_ob (n : Nat) : mj_O := fun L st hp => match st with
  | .ref _ :: st => if mj_cat st ≤ 8 then mj_nx n L st hp else none
  | _ => none
def mj_rti (ty : FieldType) : mj_O := fun _ st _ => match st with
  | [.int v] => if narrow ty (.int v) = .int v then some (.inr (.inr (some (.int v)))) else none
  | _ => none
def mj_rtl : mj_O := fun _ st _ => match st with
  | [.long v] => some (.inr (.inr (some (.long v))))
  | _ => none
def mj_rta : mj_O := fun _ st _ => match st with
  | [.ref a] => some (.inr (.inr (some (.ref a))))
  | [.null] => some (.inr (.inr (some .null)))
  | _ => none
def mj_rtv : mj_O := fun _ st _ => match st with
  | [] => some (.inr (.inr none))
  | _ => none
/-- the locals with which a method begins -/
def mj_lay0 : List Value → mj_L
  | [] => []
  | v :: vs => if v.category = 2 then some v :: none :: mj_lay0 vs else some v :: mj_lay0 vs
def mj_lay (n : Nat) (vs : List Value) : mj_L := mj_lay0 vs ++ List.replicate (n - (mj_lay0 vs).length) none
def mj_find {α : Type} (t : List ((Nat × Nat) × α)) (o i : Nat) : Option α := (t.find? (fun r => r.1.1 == o && r.1.2 == i)).map (fun r => r.2)
def mj_b (pc : Nat) (off : Int) (f : Nat → mj_O) : mj_O := if 0 ≤ (pc : Int) + off then f ((pc : Int) + off).toNat else mj_no
def mj_bs (pc : Nat) (offs : List Int) : Bool := offs.all (fun off => decide (0 ≤ (pc : Int) + off))
/-- the length that each instruction has -/
def mj_ln : ClassFile.Instr → Nat
  | .bipush _ => 2
  | .sipush _ => 3
  | .ldc _ => 2
  | .ldc2_w _ => 3
  | .iload _ => 2
  | .lload _ => 2
  | .aload _ => 2
  | .istore _ => 2
  | .lstore _ => 2
  | .astore _ => 2
  | .iinc _ _ => 3
  | .ifCond _ _ => 3
  | .if_icmp _ _ => 3
  | .ifnull _ => 3
  | .ifnonnull _ => 3
  | .goto _ => 3
  | .getfield _ => 3
  | .putfield _ => 3
  | .new _ => 3
  | .newarray _ => 2
  | .anewarray _ => 3
  | .invokestatic _ => 3
  | .invokevirtual _ => 3
  | .invokespecial _ => 3
  | _ => 1
def mj_lok : ClassFile.Instr → Nat → Bool
  | .tableswitch _ _ _ _, _ => true
  | i, n => n == mj_ln i
/-- a call by its row: kinds 0 static, 1 static of a nest mate, 2 virtual, 3 virtual of a nest mate, 4 constructor, 5 Object's constructor -/
def mj_inv (m m' kd n : Nat) : mj_O := if kd = 5 then (if 1 ≤ mj_hgt m ∧ 20 ≤ mj_lr m then mj_ob n else mj_no) else if mj_hgt m' < mj_hgt m ∧ mj_lr m' + mj_mxl m' + 19 ≤ mj_lr m then (if kd ≤ 1 then mj_ivs m' (mj_na m') n else if kd ≤ 3 then mj_ivv m' (mj_na m') (mj_ci m') n else if kd = 4 then mj_ivi m' (mj_na m') n else mj_no) else mj_no
def mj_ex (m : Nat) (i : ClassFile.Instr) (pc : Nat) : mj_O := match i with
  | .aconst_null => mj_cst .null (pc + 1)
  | .iconst n => mj_cst (.int (Int32.ofInt n)) (pc + 1)
  | .bipush n => mj_cst (.int (Int8.ofInt n).toInt32) (pc + 2)
  | .sipush n => mj_cst (.int (Int16.ofInt n).toInt32) (pc + 3)
  | .lconst n => mj_cst (.long (Int64.ofNat (n : Nat))) (pc + 1)
  | .ldc x => match mj_find mj_kl (mj_on m) x with
    | some (.int v) => mj_cst (.int v) (pc + 2)
    | _ => mj_no
  | .ldc2_w x => match mj_find mj_kl (mj_on m) x with
    | some (.long v) => mj_cst (.long v) (pc + 3)
    | _ => mj_no
  | .iload i => mj_ild i (pc + 2)
  | .iload_n k => mj_ild (k : Nat) (pc + 1)
  | .lload i => mj_lld i (pc + 2)
  | .lload_n k => mj_lld (k : Nat) (pc + 1)
  | .aload i => mj_ald i (pc + 2)
  | .aload_n k => mj_ald (k : Nat) (pc + 1)
  | .istore i => mj_ist i (pc + 2)
  | .istore_n k => mj_ist (k : Nat) (pc + 1)
  | .lstore i => mj_lst i (pc + 2)
  | .lstore_n k => mj_lst (k : Nat) (pc + 1)
  | .astore i => mj_ast i (pc + 2)
  | .astore_n k => mj_ast (k : Nat) (pc + 1)
  | .iinc i n => mj_inc i (Int32.ofInt n) (pc + 3)
  | .iadd => mj_ii (fun x y => x + y) (pc + 1)
  | .isub => mj_ii (fun x y => x - y) (pc + 1)
  | .imul => mj_ii (fun x y => x * y) (pc + 1)
  | .iand => mj_ii (fun x y => x &&& y) (pc + 1)
  | .ior => mj_ii (fun x y => x ||| y) (pc + 1)
  | .ixor => mj_ii (fun x y => x ^^^ y) (pc + 1)
  | .ishl => mj_ii (fun x y => x <<< (y &&& 31)) (pc + 1)
  | .ishr => mj_ii (fun x y => x >>> (y &&& 31)) (pc + 1)
  | .iushr => mj_ii (fun x y => (x.toUInt32 >>> (y.toUInt32 &&& Int32.toUInt32 31)).toInt32) (pc + 1)
  | .idiv => mj_iz (fun x y => x / y) (pc + 1)
  | .irem => mj_iz (fun x y => x - x / y * y) (pc + 1)
  | .ineg => mj_i1 (fun x => -x) (pc + 1)
  | .ladd => mj_ll (fun x y => x + y) (pc + 1)
  | .lsub => mj_ll (fun x y => x - y) (pc + 1)
  | .lmul => mj_ll (fun x y => x * y) (pc + 1)
  | .land => mj_ll (fun x y => x &&& y) (pc + 1)
  | .lor => mj_ll (fun x y => x ||| y) (pc + 1)
  | .lxor => mj_ll (fun x y => x ^^^ y) (pc + 1)
  | .lneg => mj_l1 (fun x => -x) (pc + 1)
  | .lshl => mj_li (fun x y => x <<< (y.toInt64 &&& 63)) (pc + 1)
  | .lshr => mj_li (fun x y => x >>> (y.toInt64 &&& 63)) (pc + 1)
  | .lushr => mj_li (fun x y => (x.toUInt64 >>> (y.toInt64.toUInt64 &&& Int64.toUInt64 63)).toInt64) (pc + 1)
  | .i2l => mj_i2l (pc + 1)
  | .l2i => mj_l2i (pc + 1)
  | .lcmp => mj_lcm (pc + 1)
  | .ifCond .eq off => mj_b pc off fun t => mj_if (fun x => decide (x = 0)) t (pc + 3)
  | .ifCond .ne off => mj_b pc off fun t => mj_if (fun x => decide (¬ x = 0)) t (pc + 3)
  | .ifCond .lt off => mj_b pc off fun t => mj_if (fun x => decide (x < 0)) t (pc + 3)
  | .ifCond .ge off => mj_b pc off fun t => mj_if (fun x => decide (0 ≤ x)) t (pc + 3)
  | .ifCond .gt off => mj_b pc off fun t => mj_if (fun x => decide (0 < x)) t (pc + 3)
  | .ifCond .le off => mj_b pc off fun t => mj_if (fun x => decide (x ≤ 0)) t (pc + 3)
  | .if_icmp .eq off => mj_b pc off fun t => mj_ic (fun x y => decide (x = y)) t (pc + 3)
  | .if_icmp .ne off => mj_b pc off fun t => mj_ic (fun x y => decide (¬ x = y)) t (pc + 3)
  | .if_icmp .lt off => mj_b pc off fun t => mj_ic (fun x y => decide (x < y)) t (pc + 3)
  | .if_icmp .ge off => mj_b pc off fun t => mj_ic (fun x y => decide (y ≤ x)) t (pc + 3)
  | .if_icmp .gt off => mj_b pc off fun t => mj_ic (fun x y => decide (y < x)) t (pc + 3)
  | .if_icmp .le off => mj_b pc off fun t => mj_ic (fun x y => decide (x ≤ y)) t (pc + 3)
  | .ifnull off => mj_b pc off fun t => mj_ifn t (pc + 3)
  | .ifnonnull off => mj_b pc off fun t => mj_ifn (pc + 3) t
  | .goto off => mj_b pc off fun t => mj_go t
  | .tableswitch d lo hi offs => if mj_bs pc (d :: offs.toList) = true then mj_tsw lo hi ((pc : Int) + d).toNat (offs.toList.map fun o => ((pc : Int) + o).toNat) else mj_no
  | .dup => mj_dup (pc + 1)
  | .pop => mj_pop (pc + 1)
  | .dup_x1 => mj_dx1 (pc + 1)
  | .dup_x2 => mj_dx2 (pc + 1)
  | .dup2 => mj_d2 (pc + 1)
  | .dup2_x1 => mj_d21 (pc + 1)
  | .getfield x => match mj_find mj_fl (mj_on m) x with
    | some (ci, k) => mj_get ci k (pc + 3)
    | none => mj_no
  | .putfield x => match mj_find mj_fl (mj_on m) x with
    | some (ci, k) => if mj_fin ci k = false ∨ ((mj_y m).name = "<init>" ∧ mj_fown ci k = mj_own m) then mj_put ci k (mj_ty ci k) (pc + 3) else mj_no
    | none => mj_no
  | .new x => match mj_find mj_nl (mj_on m) x with
    | some ci => mj_nw ci (mj_N ci) (mj_def ci) (pc + 3)
    | none => mj_no
  | .newarray .int => if mj_at[mj_ti]? = some .int then mj_nwi mj_ti (pc + 2) else mj_no
  | .newarray .boolean => if mj_at[mj_tz]? = some .boolean then mj_nwi mj_tz (pc + 2) else mj_no
  | .newarray .long => if mj_at[mj_tl]? = some .long then mj_nwl mj_tl (pc + 2) else mj_no
  | .anewarray x => match mj_find mj_ql (mj_on m) x with
    | some t => mj_nwq t (pc + 3)
    | none => mj_no
  | .arraylength => mj_len (pc + 1)
  | .iaload => mj_iar .int (pc + 1)
  | .baload => mj_iar .boolean (pc + 1)
  | .laload => mj_lar (pc + 1)
  | .aaload => mj_aar (pc + 1)
  | .iastore => mj_iaw .int (pc + 1)
  | .bastore => mj_iaw .boolean (pc + 1)
  | .lastore => mj_law (pc + 1)
  | .aastore => mj_aaw (pc + 1)
  | .invokestatic x => match mj_find mj_ml (mj_on m) x with
    | some (m', kd) => if kd ≤ 1 then mj_inv m m' kd (pc + 3) else mj_no
    | none => mj_no
  | .invokevirtual x => match mj_find mj_ml (mj_on m) x with
    | some (m', kd) => if 2 ≤ kd ∧ kd ≤ 3 then mj_inv m m' kd (pc + 3) else mj_no
    | none => mj_no
  | .invokespecial x => match mj_find mj_ml (mj_on m) x with
    | some (m', kd) => if 4 ≤ kd then mj_inv m m' kd (pc + 3) else mj_no
    | none => mj_no
  | .ireturn => match mj_ret m with
    | some ty => mj_rti ty
    | none => mj_no
  | .lreturn => if mj_ret m = some .long then mj_rtl else mj_no
  | .areturn => match mj_ret m with
    | some (.object _) => mj_rta
    | some (.array _) => mj_rta
    | _ => mj_no
  | .return_ => if mj_ret m = none then mj_rtv else mj_no
  | _ => mj_no
def mj_step (m pc : Nat) : mj_O := match decode (mj_code m) pc with
  | .ok (i, len) => if mj_lok i len = true then mj_ex m i pc else mj_no
  | .error _ => mj_no
theorem mj_step_of {m pc len : Nat} {i : ClassFile.Instr} (h : decode (mj_code m) pc = .ok (i, len)) (hl : mj_lok i len = true) : mj_step m pc = mj_ex m i pc := by
  unfold mj_step
  rw [h]
  simp [hl]
theorem mj_step_inv {m pc : Nat} {L : mj_L} {st : List Value} {hp : mj_H} {r} (h : mj_step m pc L st hp = some r) : ∃ i len, decode (mj_code m) pc = .ok (i, len) ∧ mj_lok i len = true ∧ mj_ex m i pc L st hp = some r := by
  unfold mj_step at h
  cases hd : decode (mj_code m) pc with
  | error x => rw [hd] at h; simp [mj_no] at h
  | ok q =>
    obtain ⟨i, len⟩ := q
    rw [hd] at h
    by_cases hl : mj_lok i len = true
    · simp only [hl, if_true] at h
      exact ⟨i, len, rfl, hl, h⟩
    · simp [hl, mj_no] at h
def mj_run : Nat → Nat → Nat → mj_L → List Value → mj_H → Option (Option Value × mj_H)
  | 0, _, _, _, _, _ => none
  | f + 1, m, pc, L, st, hp => match mj_step m pc L st hp with
    | none => none
    | some (.inl (pc', L', st', hp')) => mj_run f m pc' L' st' hp'
    | some (.inr (.inl (m', vs, rest, n))) => if (mj_lay0 vs).length ≤ mj_mxl m' then (match mj_run f m' 0 (mj_lay (mj_mxl m') vs) [] hp with
      | none => none
      | some (r, hp') => mj_run f m n L (r.toList ++ rest) hp') else none
    | some (.inr (.inr r)) => some (r, hp)
theorem mj_run_mono : ∀ (f m pc : Nat) (L : mj_L) (st : List Value) (hp : mj_H) (x : Option Value × mj_H), mj_run f m pc L st hp = some x → mj_run (f + 1) m pc L st hp = some x := by
  intro f
  induction f with
  | zero => intro m pc L st hp x h; simp [mj_run] at h
  | succ f ih =>
    intro m pc L st hp x h
    rw [mj_run] at h ⊢
    cases hs : mj_step m pc L st hp with
    | none => simp [hs] at h
    | some q =>
      rw [hs] at h
      rcases q with ⟨pc', L', st', hp'⟩ | ⟨m', vs, rest, n⟩ | r
      · exact ih _ _ _ _ _ _ h
      · dsimp only at h ⊢
        by_cases hl : (mj_lay0 vs).length ≤ mj_mxl m'
        · rw [if_pos hl] at h ⊢
          cases hr : mj_run f m' 0 (mj_lay (mj_mxl m') vs) [] hp with
          | none => simp [hr] at h
          | some y =>
            obtain ⟨r, hp'⟩ := y
            rw [hr] at h
            rw [ih _ _ _ _ _ _ hr]
            exact ih _ _ _ _ _ _ h
        · rw [if_neg hl] at h; cases h
      · exact h
theorem mj_run_le {f g m pc : Nat} {L : mj_L} {st : List Value} {hp : mj_H} {x : Option Value × mj_H} (hfg : f ≤ g) (h : mj_run f m pc L st hp = some x) : mj_run g m pc L st hp = some x := by
  induction hfg with
  | refl => exact h
  | step _ ih => exact mj_run_mono _ _ _ _ _ _ _ ih
abbrev mj_Q : Type := Option Value → mj_H → Prop
def mj_wp (m pc : Nat) (L : mj_L) (st : List Value) (hp : mj_H) (Q : mj_Q) : Prop := ∃ (f : Nat) (r : Option Value) (hp' : mj_H), mj_run f m pc L st hp = some (r, hp') ∧ Q r hp'
def mj_call (m' : Nat) (vs : List Value) (hp : mj_H) (Q : mj_Q) : Prop := (mj_lay0 vs).length ≤ mj_mxl m' ∧ mj_wp m' 0 (mj_lay (mj_mxl m') vs) [] hp Q
def mj_wpR (m : Nat) (L : mj_L) (hp : mj_H) (Q : mj_Q) (r : mj_R) : Prop := match r with
  | none => False
  | some (.inl (pc', L', st', hp')) => mj_wp m pc' L' st' hp' Q
  | some (.inr (.inl (m', vs, rest, n))) => mj_call m' vs hp (fun r hp' => mj_wp m n L (r.toList ++ rest) hp' Q)
  | some (.inr (.inr r)) => Q r hp
theorem mj_wp_eq (m pc : Nat) (L : mj_L) (st : List Value) (hp : mj_H) (Q : mj_Q) : mj_wp m pc L st hp Q = mj_wpR m L hp Q (mj_step m pc L st hp) := by
  apply propext
  constructor
  · rintro ⟨f, r, hp', h, hq⟩
    cases f with
    | zero => simp [mj_run] at h
    | succ f =>
      rw [mj_run] at h
      cases hs : mj_step m pc L st hp with
      | none => simp [hs] at h
      | some q =>
        rw [hs] at h
        rcases q with ⟨pc', L', st', hp2⟩ | ⟨m', vs, rest, n⟩ | r'
        · exact ⟨f, r, hp', h, hq⟩
        · dsimp only at h
          by_cases hl : (mj_lay0 vs).length ≤ mj_mxl m'
          · rw [if_pos hl] at h
            cases hr : mj_run f m' 0 (mj_lay (mj_mxl m') vs) [] hp with
            | none => simp [hr] at h
            | some y =>
              obtain ⟨r1, hp1⟩ := y
              rw [hr] at h
              exact ⟨hl, f, r1, hp1, hr, f, r, hp', h, hq⟩
          · rw [if_neg hl] at h; cases h
        · cases h
          exact hq
  · intro h
    cases hs : mj_step m pc L st hp with
    | none => rw [hs] at h; exact h.elim
    | some q =>
      rw [hs] at h
      rcases q with ⟨pc', L', st', hp2⟩ | ⟨m', vs, rest, n⟩ | r'
      · obtain ⟨f, r, hp', h1, h2⟩ := h
        refine ⟨f + 1, r, hp', ?_, h2⟩
        rw [mj_run, hs]
        exact h1
      · obtain ⟨hl, f, r1, hp1, hr, f2, r, hp', h1, h2⟩ := h
        refine ⟨f + f2 + 1, r, hp', ?_, h2⟩
        rw [mj_run, hs]
        dsimp only
        rw [if_pos hl, mj_run_le (Nat.le_add_right f f2) hr]
        exact mj_run_le (Nat.le_add_left f2 f) h1
      · refine ⟨1, r', hp, ?_, h⟩
        rw [mj_run, hs]
theorem mj_wp_of {m pc : Nat} {o : mj_O} (h : mj_step m pc = o) (L : mj_L) (st : List Value) (hp : mj_H) (Q : mj_Q) : mj_wp m pc L st hp Q = mj_wpR m L hp Q (o L st hp) := by
  rw [mj_wp_eq, h]
theorem mj_wp_imp {m pc : Nat} {L : mj_L} {st : List Value} {hp : mj_H} {Q Q' : mj_Q} (h : mj_wp m pc L st hp Q) (hq : ∀ r hp', Q r hp' → Q' r hp') : mj_wp m pc L st hp Q' := by
  obtain ⟨f, r, hp', h1, h2⟩ := h
  exact ⟨f, r, hp', h1, hq r hp' h2⟩
theorem mj_call_imp {m : Nat} {vs : List Value} {hp : mj_H} {Q Q' : mj_Q} (h : mj_call m vs hp Q) (hq : ∀ r hp', Q r hp' → Q' r hp') : mj_call m vs hp Q' := ⟨h.1, mj_wp_imp h.2 hq⟩
