/-! ===== BLOCKS: what a stretch of code without calls asks, worked out ===== -/
/-- an instruction of a block: with its length, two numbers (a jump's target; a field's kind and slot), a constant -/
abbrev zI : Type := Instr × Nat × Nat × Nat × Int
def zPutC (ty : FieldType) (x : Int32) : Prop := match ty with
  | .int => True
  | .boolean => x = 0 ∨ x = 1
  | _ => False
theorem zPutC_ok {ty : FieldType} {x : Int32} (h : zPutC ty x) : narrow ty (.int x) = .int x ∧ fits ty (.int x) = true := by
  cases ty <;> first | exact h.elim | exact ⟨rfl, rfl⟩ | (rcases h with rfl | rfl <;> exact ⟨rfl, rfl⟩)
def zRt (rt : Option FieldType) (x : Int32) : Prop := match rt with
  | some .int => True
  | some .boolean => x = 0 ∨ x = 1
  | _ => False
theorem zRt_ok {rt : Option FieldType} {x : Int32} (h : zRt rt x) : zRetOk rt (some (.int x)) := by
  cases rt with
  | none => exact h.elim
  | some ty => cases ty <;> first | exact h.elim | exact ⟨_, rfl, rfl⟩ | (rcases h with rfl | rfl <;> exact ⟨_, rfl, rfl⟩)
abbrev zK : Type := Nat → zLoc → List Value → zMem → Prop
abbrev zc : Type := zLoc → List Value → zMem → Prop
def zOp (fin : Bool) (nL : Nat) (rt : Option FieldType) (Q : Option Value → zMem → Prop) (K : zK) (ins : Instr) (a b : Nat) (z : Int) (c : zc) (lv : zLoc) (st : List Value) (μ : zMem) : Prop := match ins, st with
  | .iconst n, st => c lv (.int (Int32.ofInt n) :: st) μ
  | .bipush n, st => c lv (.int (Int8.ofInt n).toInt32 :: st) μ
  | .sipush n, st => c lv (.int (Int16.ofInt n).toInt32 :: st) μ
  | .lconst n, st => c lv (.long (Int64.ofNat (n : Nat)) :: st) μ
  | .iload_n i, st => match zLk lv (i : Nat) with | some (.int x) => c lv (.int x :: st) μ | _ => False
  | .iload i, st => match zLk lv i with | some (.int x) => c lv (.int x :: st) μ | _ => False
  | .lload_n i, st => match zLk lv (i : Nat) with | some (.long x) => c lv (.long x :: st) μ | _ => False
  | .lload i, st => match zLk lv i with | some (.long x) => c lv (.long x :: st) μ | _ => False
  | .aload_n i, st => match zLk lv (i : Nat) with | some (.ref x) => c lv (.ref x :: st) μ | _ => False
  | .aload i, st => match zLk lv i with | some (.ref x) => c lv (.ref x :: st) μ | _ => False
  | .istore_n i, .int x :: st => (i : Nat) < nL ∧ c (zSto false lv (i : Nat) (.int x)) st μ
  | .istore i, .int x :: st => i < nL ∧ c (zSto false lv i (.int x)) st μ
  | .astore_n i, .ref x :: st => (i : Nat) < nL ∧ c (zSto false lv (i : Nat) (.ref x)) st μ
  | .astore i, .ref x :: st => i < nL ∧ c (zSto false lv i (.ref x)) st μ
  | .lstore_n i, .long x :: st => (i : Nat) + 1 < nL ∧ c (zSto true lv (i : Nat) (.long x)) st μ
  | .lstore i, .long x :: st => i + 1 < nL ∧ c (zSto true lv i (.long x)) st μ
  | .iinc i n, st => match zLk lv i with | some (.int x) => i < nL ∧ c (zSto false lv i (.int (x + Int32.ofInt n))) st μ | _ => False
  | .iadd, .int y :: .int x :: st => c lv (.int (x + y) :: st) μ
  | .isub, .int y :: .int x :: st => c lv (.int (x - y) :: st) μ
  | .imul, .int y :: .int x :: st => c lv (.int (x * y) :: st) μ
  | .iand, .int y :: .int x :: st => c lv (.int (x &&& y) :: st) μ
  | .ior, .int y :: .int x :: st => c lv (.int (x ||| y) :: st) μ
  | .ixor, .int y :: .int x :: st => c lv (.int (x ^^^ y) :: st) μ
  | .ishl, .int y :: .int x :: st => c lv (.int (x <<< (y &&& 31)) :: st) μ
  | .ishr, .int y :: .int x :: st => c lv (.int (x >>> (y &&& 31)) :: st) μ
  | .ladd, .long y :: .long x :: st => c lv (.long (x + y) :: st) μ
  | .lsub, .long y :: .long x :: st => c lv (.long (x - y) :: st) μ
  | .lmul, .long y :: .long x :: st => c lv (.long (x * y) :: st) μ
  | .land, .long y :: .long x :: st => c lv (.long (x &&& y) :: st) μ
  | .lor, .long y :: .long x :: st => c lv (.long (x ||| y) :: st) μ
  | .lxor, .long y :: .long x :: st => c lv (.long (x ^^^ y) :: st) μ
  | .idiv, .int y :: .int x :: st => ¬ y = 0 ∧ c lv (.int (x / y) :: st) μ
  | .irem, .int y :: .int x :: st => ¬ y = 0 ∧ c lv (.int (x - x / y * y) :: st) μ
  | .ldiv, .long y :: .long x :: st => ¬ y = 0 ∧ c lv (.long (x / y) :: st) μ
  | .lrem, .long y :: .long x :: st => ¬ y = 0 ∧ c lv (.long (x - x / y * y) :: st) μ
  | .ineg, .int x :: st => c lv (.int (-x) :: st) μ
  | .lneg, .long x :: st => c lv (.long (-x) :: st) μ
  | .i2l, .int x :: st => c lv (.long x.toInt64 :: st) μ
  | .l2i, .long x :: st => c lv (.int x.toInt32 :: st) μ
  | .i2b, .int x :: st => c lv (.int x.toInt8.toInt32 :: st) μ
  | .lushr, .int y :: .long x :: st => c lv (.long (x.toUInt64 >>> (y.toInt64.toUInt64 &&& Int64.toUInt64 63)).toInt64 :: st) μ
  | .lshl, .int y :: .long x :: st => c lv (.long (x <<< (y.toInt64 &&& 63)) :: st) μ
  | .lshr, .int y :: .long x :: st => c lv (.long (x >>> (y.toInt64 &&& 63)) :: st) μ
  | .lcmp, .long y :: .long x :: st => c lv (.int (lg_cmp x y) :: st) μ
  | .dup, v :: st => v.category = 1 ∧ c lv (v :: v :: st) μ
  | .pop, v :: st => v.category = 1 ∧ c lv st μ
  | .dup2, .long x :: st => c lv (.long x :: .long x :: st) μ
  | .dup2, .int x :: .ref y :: st => c lv (.int x :: .ref y :: .int x :: .ref y :: st) μ
  | .pop2, .long x :: st => c lv st μ
  | .ifCond .eq _, .int x :: st => (x = 0 → K a lv st μ) ∧ (¬ x = 0 → c lv st μ)
  | .if_icmp .eq _, .int y :: .int x :: st => (x = y → K a lv st μ) ∧ (¬ x = y → c lv st μ)
  | .ifCond .ne _, .int x :: st => (¬ x = 0 → K a lv st μ) ∧ (x = 0 → c lv st μ)
  | .if_icmp .ne _, .int y :: .int x :: st => (¬ x = y → K a lv st μ) ∧ (x = y → c lv st μ)
  | .ifCond .lt _, .int x :: st => (x < 0 → K a lv st μ) ∧ (¬ x < 0 → c lv st μ)
  | .if_icmp .lt _, .int y :: .int x :: st => (x < y → K a lv st μ) ∧ (¬ x < y → c lv st μ)
  | .ifCond .ge _, .int x :: st => (0 ≤ x → K a lv st μ) ∧ (¬ 0 ≤ x → c lv st μ)
  | .if_icmp .ge _, .int y :: .int x :: st => (y ≤ x → K a lv st μ) ∧ (¬ y ≤ x → c lv st μ)
  | .ifCond .gt _, .int x :: st => (0 < x → K a lv st μ) ∧ (¬ 0 < x → c lv st μ)
  | .if_icmp .gt _, .int y :: .int x :: st => (y < x → K a lv st μ) ∧ (¬ y < x → c lv st μ)
  | .ifCond .le _, .int x :: st => (x ≤ 0 → K a lv st μ) ∧ (¬ x ≤ 0 → c lv st μ)
  | .if_icmp .le _, .int y :: .int x :: st => (x ≤ y → K a lv st μ) ∧ (¬ x ≤ y → c lv st μ)
  | .goto _, st => K a lv st μ
  | .return_, [] => rt = none ∧ Q none μ
  | .ireturn, [.int x] => zRt rt x ∧ Q (some (.int x)) μ
  | .lreturn, [.long x] => rt = some .long ∧ Q (some (.long x)) μ
  | .ldc _, st => c lv (.int (Int32.ofInt z) :: st) μ
  | .ldc_w _, st => c lv (.int (Int32.ofInt z) :: st) μ
  | .ldc2_w _, st => c lv (.long (Int64.ofInt z) :: st) μ
  | .getfield _, .ref i :: st => μ.1[i]? = some (.inr a) ∧ match zKd (zTy a b) with | 0 => c lv (.int (μ.2.1 i b) :: st) μ | 1 => c lv (.long (μ.2.2.1 i b) :: st) μ | _ => match μ.2.2.2 i b with | some r => c lv (.ref r :: st) μ | none => False
  | .putfield _, .int x :: .ref i :: st => μ.1[i]? = some (.inr a) ∧ zKd (zTy a b) = 0 ∧ zPutC (zTy a b) x ∧ c lv st (zSI μ i b x)
  | .putfield _, .long x :: .ref i :: st => μ.1[i]? = some (.inr a) ∧ zTy a b = .long ∧ c lv st (zSL μ i b x)
  | .putfield _, .ref r :: .ref i :: st => μ.1[i]? = some (.inr a) ∧ zKd (zTy a b) = 2 ∧ c lv st (zSR μ i b (some r))
  | .iaload, .int j :: .ref i :: st => match μ.1[i]? with | some (.inl (0, n)) => vp_in j n ∧ c lv (.int (μ.2.1 i j.toNatClampNeg) :: st) μ | _ => False
  | .laload, .int j :: .ref i :: st => match μ.1[i]? with | some (.inl (1, n)) => vp_in j n ∧ c lv (.long (μ.2.2.1 i j.toNatClampNeg) :: st) μ | _ => False
  | .baload, .int j :: .ref i :: st => match μ.1[i]? with | some (.inl (2, n)) => vp_in j n ∧ c lv (.int (μ.2.1 i j.toNatClampNeg) :: st) μ | some (.inl (3, n)) => vp_in j n ∧ c lv (.int (μ.2.1 i j.toNatClampNeg) :: st) μ | _ => False
  | .iastore, .int x :: .int j :: .ref i :: st => match μ.1[i]? with | some (.inl (0, n)) => vp_in j n ∧ c lv st (zSI μ i j.toNatClampNeg x) | _ => False
  | .lastore, .long x :: .int j :: .ref i :: st => match μ.1[i]? with | some (.inl (1, n)) => vp_in j n ∧ c lv st (zSL μ i j.toNatClampNeg x) | _ => False
  | .bastore, .int x :: .int j :: .ref i :: st => match μ.1[i]? with | some (.inl (2, n)) => vp_in j n ∧ c lv st (zSI μ i j.toNatClampNeg (vp_nar .byte x)) | some (.inl (3, n)) => vp_in j n ∧ c lv st (zSI μ i j.toNatClampNeg (vp_nar .boolean x)) | _ => False
  | .arraylength, .ref i :: st => match μ.1[i]? with | some (.inl (k, n)) => k < 4 ∧ c lv (.int (Int32.ofNat n) :: st) μ | _ => False
  | _, _ => False
section ZO
variable {fin : Bool} {nL : Nat} {rt : Option FieldType} {Q : Option Value → zMem → Prop} {K : zK} {a b : Nat} {z : Int} {c : zc} {lv : zLoc} {st : List Value} {μ : zMem}
theorem zo_iconst {n : Int} : zOp fin nL rt Q K (.iconst n) a b z c lv (st) μ = (c lv (.int (Int32.ofInt n) :: st) μ) := rfl
theorem zo_bipush {n : Int} : zOp fin nL rt Q K (.bipush n) a b z c lv (st) μ = (c lv (.int (Int8.ofInt n).toInt32 :: st) μ) := rfl
theorem zo_sipush {n : Int} : zOp fin nL rt Q K (.sipush n) a b z c lv (st) μ = (c lv (.int (Int16.ofInt n).toInt32 :: st) μ) := rfl
theorem zo_lconst {n : Fin 2} : zOp fin nL rt Q K (.lconst n) a b z c lv (st) μ = (c lv (.long (Int64.ofNat (n : Nat)) :: st) μ) := rfl
theorem zo_iload_n {i : Fin 4} : zOp fin nL rt Q K (.iload_n i) a b z c lv (st) μ = (match zLk lv (i : Nat) with | some (.int x) => c lv (.int x :: st) μ | _ => False) := rfl
theorem zo_iload {i : Nat} : zOp fin nL rt Q K (.iload i) a b z c lv (st) μ = (match zLk lv i with | some (.int x) => c lv (.int x :: st) μ | _ => False) := rfl
theorem zo_lload_n {i : Fin 4} : zOp fin nL rt Q K (.lload_n i) a b z c lv (st) μ = (match zLk lv (i : Nat) with | some (.long x) => c lv (.long x :: st) μ | _ => False) := rfl
theorem zo_lload {i : Nat} : zOp fin nL rt Q K (.lload i) a b z c lv (st) μ = (match zLk lv i with | some (.long x) => c lv (.long x :: st) μ | _ => False) := rfl
theorem zo_aload_n {i : Fin 4} : zOp fin nL rt Q K (.aload_n i) a b z c lv (st) μ = (match zLk lv (i : Nat) with | some (.ref x) => c lv (.ref x :: st) μ | _ => False) := rfl
theorem zo_aload {i : Nat} : zOp fin nL rt Q K (.aload i) a b z c lv (st) μ = (match zLk lv i with | some (.ref x) => c lv (.ref x :: st) μ | _ => False) := rfl
theorem zo_istore_n {i : Fin 4} {x : Int32} : zOp fin nL rt Q K (.istore_n i) a b z c lv (.int x :: st) μ = ((i : Nat) < nL ∧ c (zSto false lv (i : Nat) (.int x)) st μ) := rfl
theorem zo_istore {i : Nat} {x : Int32} : zOp fin nL rt Q K (.istore i) a b z c lv (.int x :: st) μ = (i < nL ∧ c (zSto false lv i (.int x)) st μ) := rfl
theorem zo_astore_n {i : Fin 4} {x : Nat} : zOp fin nL rt Q K (.astore_n i) a b z c lv (.ref x :: st) μ = ((i : Nat) < nL ∧ c (zSto false lv (i : Nat) (.ref x)) st μ) := rfl
theorem zo_astore {i : Nat} {x : Nat} : zOp fin nL rt Q K (.astore i) a b z c lv (.ref x :: st) μ = (i < nL ∧ c (zSto false lv i (.ref x)) st μ) := rfl
theorem zo_lstore_n {i : Fin 4} {x : Int64} : zOp fin nL rt Q K (.lstore_n i) a b z c lv (.long x :: st) μ = ((i : Nat) + 1 < nL ∧ c (zSto true lv (i : Nat) (.long x)) st μ) := rfl
theorem zo_lstore {i : Nat} {x : Int64} : zOp fin nL rt Q K (.lstore i) a b z c lv (.long x :: st) μ = (i + 1 < nL ∧ c (zSto true lv i (.long x)) st μ) := rfl
theorem zo_iinc {n : Int} {i : Nat} : zOp fin nL rt Q K (.iinc i n) a b z c lv (st) μ = (match zLk lv i with | some (.int x) => i < nL ∧ c (zSto false lv i (.int (x + Int32.ofInt n))) st μ | _ => False) := rfl
theorem zo_iadd {y : Int32} {x : Int32} : zOp fin nL rt Q K (.iadd) a b z c lv (.int y :: .int x :: st) μ = (c lv (.int (x + y) :: st) μ) := rfl
theorem zo_isub {y : Int32} {x : Int32} : zOp fin nL rt Q K (.isub) a b z c lv (.int y :: .int x :: st) μ = (c lv (.int (x - y) :: st) μ) := rfl
theorem zo_imul {y : Int32} {x : Int32} : zOp fin nL rt Q K (.imul) a b z c lv (.int y :: .int x :: st) μ = (c lv (.int (x * y) :: st) μ) := rfl
theorem zo_iand {y : Int32} {x : Int32} : zOp fin nL rt Q K (.iand) a b z c lv (.int y :: .int x :: st) μ = (c lv (.int (x &&& y) :: st) μ) := rfl
theorem zo_ior {y : Int32} {x : Int32} : zOp fin nL rt Q K (.ior) a b z c lv (.int y :: .int x :: st) μ = (c lv (.int (x ||| y) :: st) μ) := rfl
theorem zo_ixor {y : Int32} {x : Int32} : zOp fin nL rt Q K (.ixor) a b z c lv (.int y :: .int x :: st) μ = (c lv (.int (x ^^^ y) :: st) μ) := rfl
theorem zo_ishl {y : Int32} {x : Int32} : zOp fin nL rt Q K (.ishl) a b z c lv (.int y :: .int x :: st) μ = (c lv (.int (x <<< (y &&& 31)) :: st) μ) := rfl
theorem zo_ishr {y : Int32} {x : Int32} : zOp fin nL rt Q K (.ishr) a b z c lv (.int y :: .int x :: st) μ = (c lv (.int (x >>> (y &&& 31)) :: st) μ) := rfl
theorem zo_ladd {y : Int64} {x : Int64} : zOp fin nL rt Q K (.ladd) a b z c lv (.long y :: .long x :: st) μ = (c lv (.long (x + y) :: st) μ) := rfl
theorem zo_lsub {y : Int64} {x : Int64} : zOp fin nL rt Q K (.lsub) a b z c lv (.long y :: .long x :: st) μ = (c lv (.long (x - y) :: st) μ) := rfl
theorem zo_lmul {y : Int64} {x : Int64} : zOp fin nL rt Q K (.lmul) a b z c lv (.long y :: .long x :: st) μ = (c lv (.long (x * y) :: st) μ) := rfl
theorem zo_land {y : Int64} {x : Int64} : zOp fin nL rt Q K (.land) a b z c lv (.long y :: .long x :: st) μ = (c lv (.long (x &&& y) :: st) μ) := rfl
theorem zo_lor {y : Int64} {x : Int64} : zOp fin nL rt Q K (.lor) a b z c lv (.long y :: .long x :: st) μ = (c lv (.long (x ||| y) :: st) μ) := rfl
theorem zo_lxor {y : Int64} {x : Int64} : zOp fin nL rt Q K (.lxor) a b z c lv (.long y :: .long x :: st) μ = (c lv (.long (x ^^^ y) :: st) μ) := rfl
theorem zo_idiv {y : Int32} {x : Int32} : zOp fin nL rt Q K (.idiv) a b z c lv (.int y :: .int x :: st) μ = (¬ y = 0 ∧ c lv (.int (x / y) :: st) μ) := rfl
theorem zo_irem {y : Int32} {x : Int32} : zOp fin nL rt Q K (.irem) a b z c lv (.int y :: .int x :: st) μ = (¬ y = 0 ∧ c lv (.int (x - x / y * y) :: st) μ) := rfl
theorem zo_ldiv {y : Int64} {x : Int64} : zOp fin nL rt Q K (.ldiv) a b z c lv (.long y :: .long x :: st) μ = (¬ y = 0 ∧ c lv (.long (x / y) :: st) μ) := rfl
theorem zo_lrem {y : Int64} {x : Int64} : zOp fin nL rt Q K (.lrem) a b z c lv (.long y :: .long x :: st) μ = (¬ y = 0 ∧ c lv (.long (x - x / y * y) :: st) μ) := rfl
theorem zo_ineg {x : Int32} : zOp fin nL rt Q K (.ineg) a b z c lv (.int x :: st) μ = (c lv (.int (-x) :: st) μ) := rfl
theorem zo_lneg {x : Int64} : zOp fin nL rt Q K (.lneg) a b z c lv (.long x :: st) μ = (c lv (.long (-x) :: st) μ) := rfl
theorem zo_i2l {x : Int32} : zOp fin nL rt Q K (.i2l) a b z c lv (.int x :: st) μ = (c lv (.long x.toInt64 :: st) μ) := rfl
theorem zo_l2i {x : Int64} : zOp fin nL rt Q K (.l2i) a b z c lv (.long x :: st) μ = (c lv (.int x.toInt32 :: st) μ) := rfl
theorem zo_i2b {x : Int32} : zOp fin nL rt Q K (.i2b) a b z c lv (.int x :: st) μ = (c lv (.int x.toInt8.toInt32 :: st) μ) := rfl
theorem zo_lushr {y : Int32} {x : Int64} : zOp fin nL rt Q K (.lushr) a b z c lv (.int y :: .long x :: st) μ = (c lv (.long (x.toUInt64 >>> (y.toInt64.toUInt64 &&& Int64.toUInt64 63)).toInt64 :: st) μ) := rfl
theorem zo_lshl {y : Int32} {x : Int64} : zOp fin nL rt Q K (.lshl) a b z c lv (.int y :: .long x :: st) μ = (c lv (.long (x <<< (y.toInt64 &&& 63)) :: st) μ) := rfl
theorem zo_lshr {y : Int32} {x : Int64} : zOp fin nL rt Q K (.lshr) a b z c lv (.int y :: .long x :: st) μ = (c lv (.long (x >>> (y.toInt64 &&& 63)) :: st) μ) := rfl
theorem zo_lcmp {y : Int64} {x : Int64} : zOp fin nL rt Q K (.lcmp) a b z c lv (.long y :: .long x :: st) μ = (c lv (.int (lg_cmp x y) :: st) μ) := rfl
theorem zo_dup {v : Value} : zOp fin nL rt Q K (.dup) a b z c lv (v :: st) μ = (v.category = 1 ∧ c lv (v :: v :: st) μ) := rfl
theorem zo_pop {v : Value} : zOp fin nL rt Q K (.pop) a b z c lv (v :: st) μ = (v.category = 1 ∧ c lv st μ) := rfl
theorem zo_dup2 {x : Int64} : zOp fin nL rt Q K (.dup2) a b z c lv (.long x :: st) μ = (c lv (.long x :: .long x :: st) μ) := rfl
theorem zo_dup2_2 {x : Int32} {y : Nat} : zOp fin nL rt Q K (.dup2) a b z c lv (.int x :: .ref y :: st) μ = (c lv (.int x :: .ref y :: .int x :: .ref y :: st) μ) := rfl
theorem zo_pop2 {x : Int64} : zOp fin nL rt Q K (.pop2) a b z c lv (.long x :: st) μ = (c lv st μ) := rfl
theorem zo_if_eq {o : Int} {x : Int32} : zOp fin nL rt Q K (.ifCond .eq o) a b z c lv (.int x :: st) μ = ((x = 0 → K a lv st μ) ∧ (¬ x = 0 → c lv st μ)) := rfl
theorem zo_icmp_eq {o : Int} {y : Int32} {x : Int32} : zOp fin nL rt Q K (.if_icmp .eq o) a b z c lv (.int y :: .int x :: st) μ = ((x = y → K a lv st μ) ∧ (¬ x = y → c lv st μ)) := rfl
theorem zo_if_ne {o : Int} {x : Int32} : zOp fin nL rt Q K (.ifCond .ne o) a b z c lv (.int x :: st) μ = ((¬ x = 0 → K a lv st μ) ∧ (x = 0 → c lv st μ)) := rfl
theorem zo_icmp_ne {o : Int} {y : Int32} {x : Int32} : zOp fin nL rt Q K (.if_icmp .ne o) a b z c lv (.int y :: .int x :: st) μ = ((¬ x = y → K a lv st μ) ∧ (x = y → c lv st μ)) := rfl
theorem zo_if_lt {o : Int} {x : Int32} : zOp fin nL rt Q K (.ifCond .lt o) a b z c lv (.int x :: st) μ = ((x < 0 → K a lv st μ) ∧ (¬ x < 0 → c lv st μ)) := rfl
theorem zo_icmp_lt {o : Int} {y : Int32} {x : Int32} : zOp fin nL rt Q K (.if_icmp .lt o) a b z c lv (.int y :: .int x :: st) μ = ((x < y → K a lv st μ) ∧ (¬ x < y → c lv st μ)) := rfl
theorem zo_if_ge {o : Int} {x : Int32} : zOp fin nL rt Q K (.ifCond .ge o) a b z c lv (.int x :: st) μ = ((0 ≤ x → K a lv st μ) ∧ (¬ 0 ≤ x → c lv st μ)) := rfl
theorem zo_icmp_ge {o : Int} {y : Int32} {x : Int32} : zOp fin nL rt Q K (.if_icmp .ge o) a b z c lv (.int y :: .int x :: st) μ = ((y ≤ x → K a lv st μ) ∧ (¬ y ≤ x → c lv st μ)) := rfl
theorem zo_if_gt {o : Int} {x : Int32} : zOp fin nL rt Q K (.ifCond .gt o) a b z c lv (.int x :: st) μ = ((0 < x → K a lv st μ) ∧ (¬ 0 < x → c lv st μ)) := rfl
theorem zo_icmp_gt {o : Int} {y : Int32} {x : Int32} : zOp fin nL rt Q K (.if_icmp .gt o) a b z c lv (.int y :: .int x :: st) μ = ((y < x → K a lv st μ) ∧ (¬ y < x → c lv st μ)) := rfl
theorem zo_if_le {o : Int} {x : Int32} : zOp fin nL rt Q K (.ifCond .le o) a b z c lv (.int x :: st) μ = ((x ≤ 0 → K a lv st μ) ∧ (¬ x ≤ 0 → c lv st μ)) := rfl
theorem zo_icmp_le {o : Int} {y : Int32} {x : Int32} : zOp fin nL rt Q K (.if_icmp .le o) a b z c lv (.int y :: .int x :: st) μ = ((x ≤ y → K a lv st μ) ∧ (¬ x ≤ y → c lv st μ)) := rfl
theorem zo_goto {o : Int} : zOp fin nL rt Q K (.goto o) a b z c lv (st) μ = (K a lv st μ) := rfl
theorem zo_return_  : zOp fin nL rt Q K (.return_) a b z c lv ([]) μ = (rt = none ∧ Q none μ) := rfl
theorem zo_ireturn {x : Int32} : zOp fin nL rt Q K (.ireturn) a b z c lv ([.int x]) μ = (zRt rt x ∧ Q (some (.int x)) μ) := rfl
theorem zo_lreturn {x : Int64} : zOp fin nL rt Q K (.lreturn) a b z c lv ([.long x]) μ = (rt = some .long ∧ Q (some (.long x)) μ) := rfl
theorem zo_ldc {o : Nat} : zOp fin nL rt Q K (.ldc o) a b z c lv (st) μ = (c lv (.int (Int32.ofInt z) :: st) μ) := rfl
theorem zo_ldc_w {o : Nat} : zOp fin nL rt Q K (.ldc_w o) a b z c lv (st) μ = (c lv (.int (Int32.ofInt z) :: st) μ) := rfl
theorem zo_ldc2_w {o : Nat} : zOp fin nL rt Q K (.ldc2_w o) a b z c lv (st) μ = (c lv (.long (Int64.ofInt z) :: st) μ) := rfl
theorem zo_getfield {o : Nat} {i : Nat} : zOp fin nL rt Q K (.getfield o) a b z c lv (.ref i :: st) μ = (μ.1[i]? = some (.inr a) ∧ match zKd (zTy a b) with | 0 => c lv (.int (μ.2.1 i b) :: st) μ | 1 => c lv (.long (μ.2.2.1 i b) :: st) μ | _ => match μ.2.2.2 i b with | some r => c lv (.ref r :: st) μ | none => False) := rfl
theorem zo_putfield {o : Nat} {x : Int32} {i : Nat} : zOp fin nL rt Q K (.putfield o) a b z c lv (.int x :: .ref i :: st) μ = (μ.1[i]? = some (.inr a) ∧ zKd (zTy a b) = 0 ∧ zPutC (zTy a b) x ∧ c lv st (zSI μ i b x)) := rfl
theorem zo_putfield_2 {o : Nat} {x : Int64} {i : Nat} : zOp fin nL rt Q K (.putfield o) a b z c lv (.long x :: .ref i :: st) μ = (μ.1[i]? = some (.inr a) ∧ zTy a b = .long ∧ c lv st (zSL μ i b x)) := rfl
theorem zo_putfield_3 {o : Nat} {r : Nat} {i : Nat} : zOp fin nL rt Q K (.putfield o) a b z c lv (.ref r :: .ref i :: st) μ = (μ.1[i]? = some (.inr a) ∧ zKd (zTy a b) = 2 ∧ c lv st (zSR μ i b (some r))) := rfl
theorem zo_iaload {j : Int32} {i : Nat} : zOp fin nL rt Q K (.iaload) a b z c lv (.int j :: .ref i :: st) μ = (match μ.1[i]? with | some (.inl (0, n)) => vp_in j n ∧ c lv (.int (μ.2.1 i j.toNatClampNeg) :: st) μ | _ => False) := rfl
theorem zo_laload {j : Int32} {i : Nat} : zOp fin nL rt Q K (.laload) a b z c lv (.int j :: .ref i :: st) μ = (match μ.1[i]? with | some (.inl (1, n)) => vp_in j n ∧ c lv (.long (μ.2.2.1 i j.toNatClampNeg) :: st) μ | _ => False) := rfl
theorem zo_baload {j : Int32} {i : Nat} : zOp fin nL rt Q K (.baload) a b z c lv (.int j :: .ref i :: st) μ = (match μ.1[i]? with | some (.inl (2, n)) => vp_in j n ∧ c lv (.int (μ.2.1 i j.toNatClampNeg) :: st) μ | some (.inl (3, n)) => vp_in j n ∧ c lv (.int (μ.2.1 i j.toNatClampNeg) :: st) μ | _ => False) := rfl
theorem zo_iastore {x : Int32} {j : Int32} {i : Nat} : zOp fin nL rt Q K (.iastore) a b z c lv (.int x :: .int j :: .ref i :: st) μ = (match μ.1[i]? with | some (.inl (0, n)) => vp_in j n ∧ c lv st (zSI μ i j.toNatClampNeg x) | _ => False) := rfl
theorem zo_lastore {x : Int64} {j : Int32} {i : Nat} : zOp fin nL rt Q K (.lastore) a b z c lv (.long x :: .int j :: .ref i :: st) μ = (match μ.1[i]? with | some (.inl (1, n)) => vp_in j n ∧ c lv st (zSL μ i j.toNatClampNeg x) | _ => False) := rfl
theorem zo_bastore {x : Int32} {j : Int32} {i : Nat} : zOp fin nL rt Q K (.bastore) a b z c lv (.int x :: .int j :: .ref i :: st) μ = (match μ.1[i]? with | some (.inl (2, n)) => vp_in j n ∧ c lv st (zSI μ i j.toNatClampNeg (vp_nar .byte x)) | some (.inl (3, n)) => vp_in j n ∧ c lv st (zSI μ i j.toNatClampNeg (vp_nar .boolean x)) | _ => False) := rfl
theorem zo_arraylength {i : Nat} : zOp fin nL rt Q K (.arraylength) a b z c lv (.ref i :: st) μ = (match μ.1[i]? with | some (.inl (k, n)) => k < 4 ∧ c lv (.int (Int32.ofNat n) :: st) μ | _ => False) := rfl
end ZO
/-- a block of code, from pc on -/
def zRun (fin : Bool) (nL : Nat) (rt : Option FieldType) (Q : Option Value → zMem → Prop) (K : zK) : Nat → List zI → zLoc → List Value → zMem → Prop
  | pc, [], lv, st, μ => K pc lv st μ
  | pc, q :: r, lv, st, μ => zOp fin nL rt Q K q.1 q.2.2.1 q.2.2.2.1 q.2.2.2.2 (zRun fin nL rt Q K (pc + q.2.1) r) lv st μ
theorem zRun_nil {fin : Bool} {nL : Nat} {rt : Option FieldType} {Q : Option Value → zMem → Prop} {K : zK} {pc : Nat} {lv : zLoc} {st : List Value} {μ : zMem} : zRun fin nL rt Q K pc [] lv st μ = K pc lv st μ := rfl
theorem zRun_cons {fin : Bool} {nL : Nat} {rt : Option FieldType} {Q : Option Value → zMem → Prop} {K : zK} {pc : Nat} {i : Instr} {ln a b : Nat} {z : Int} {r : List zI} {lv : zLoc} {st : List Value} {μ : zMem} : zRun fin nL rt Q K pc ((i, ln, a, b, z) :: r) lv st μ = zOp fin nL rt Q K i a b z (zRun fin nL rt Q K (pc + ln) r) lv st μ := rfl
