/-! ===== HOW MANY BITS ===== -/
def bVal : List Nat → Nat
  | [] => 0
  | d :: r => 256 * bVal r + d
def bMk (m : Nat) : Nat → Nat
  | 0 => 0
  | k + 1 => 256 * bMk m k + m
def b1 (d : Nat) : Nat := d - ((d / 2) &&& 85)
def b2 (d : Nat) : Nat := (d &&& 51) + ((d / 4) &&& 51)
def pcb (d : Nat) : Nat := zCnt (fun i => d.testBit i) 8
section ZP87
theorem and_cat {y d M m : Nat} (hd : d < 256) (hm : m < 256) : (256 * y + d) &&& (256 * M + m) = 256 * (y &&& M) + (d &&& m) := by
  have hdm : d &&& m < 2 ^ 8 := Nat.lt_of_le_of_lt Nat.and_le_left hd
  apply Nat.eq_of_testBit_eq
  intro j
  rw [Nat.testBit_and, show (256 : Nat) = 2 ^ 8 from rfl, Nat.testBit_two_pow_mul_add _ hd, Nat.testBit_two_pow_mul_add _ hm, Nat.testBit_two_pow_mul_add _ hdm]
  split
  · rw [Nat.testBit_and]
  · rw [Nat.testBit_and]
set_option maxRecDepth 100000 in
theorem bt_1 : ∀ d, d < 256 → ∀ e, e < 2 → (128 * e + d / 2) &&& 85 = (d / 2) &&& 85 := by decide +kernel
set_option maxRecDepth 100000 in
theorem bt_2 : ∀ d, d < 256 → ∀ e, e < 4 → (64 * e + d / 4) &&& 51 = (d / 4) &&& 51 := by decide +kernel
set_option maxRecDepth 100000 in
theorem bt_3 : ∀ d, d < 256 → b1 d < 256 ∧ b2 (b1 d) ≤ 68 ∧ b2 (b1 d) % 16 ≤ 4 ∧ pcb d ≤ 8 ∧ ∀ e, e < 5 → (b2 (b1 d) + b2 (b1 d) / 16 + 16 * e) &&& 15 = pcb d := by decide +kernel
theorem bs_1 : ∀ ds : List Nat, (∀ d ∈ ds, d < 256) → bVal ds - ((bVal ds / 2) &&& bMk 85 ds.length) = bVal (ds.map b1) ∧ ((bVal ds / 2) &&& bMk 85 ds.length) ≤ bVal ds
  | [], _ => by simp [bVal, bMk]
  | d :: r, h => by
    have hd := h d List.mem_cons_self
    obtain ⟨ih, ihl⟩ := bs_1 r (fun x hx => h x (List.mem_cons_of_mem _ hx))
    have e1 : (256 * bVal r + d) / 2 = 256 * (bVal r / 2) + (128 * (bVal r % 2) + d / 2) := by omega
    have e2 : 128 * (bVal r % 2) + d / 2 < 256 := by omega
    have e3 := bt_1 d hd (bVal r % 2) (by omega)
    have e4 : (d / 2) &&& 85 ≤ d := Nat.le_trans Nat.and_le_left (Nat.div_le_self _ _)
    simp only [bVal, List.map_cons, List.length_cons, bMk]
    rw [e1, and_cat e2 (by decide), e3, ← ih, b1]
    omega
theorem bs_2 : ∀ ds : List Nat, (∀ d ∈ ds, d < 256) → (bVal ds &&& bMk 51 ds.length) + ((bVal ds / 4) &&& bMk 51 ds.length) = bVal (ds.map b2)
  | [], _ => by simp [bVal, bMk]
  | d :: r, h => by
    have hd := h d List.mem_cons_self
    have ih := bs_2 r (fun x hx => h x (List.mem_cons_of_mem _ hx))
    have e1 : (256 * bVal r + d) / 4 = 256 * (bVal r / 4) + (64 * (bVal r % 4) + d / 4) := by omega
    have e2 : 64 * (bVal r % 4) + d / 4 < 256 := by omega
    have e3 := bt_2 d hd (bVal r % 4) (by omega)
    simp only [bVal, List.map_cons, List.length_cons, bMk]
    rw [e1, and_cat hd (by decide), and_cat e2 (by decide), e3, ← ih, b2]
    omega
theorem bs_3 : ∀ ds : List Nat, (∀ d ∈ ds, d < 256) → ((bVal (ds.map (fun d => b2 (b1 d))) + bVal (ds.map (fun d => b2 (b1 d))) / 16) &&& bMk 15 ds.length) = bVal (ds.map pcb) ∧ bVal (ds.map (fun d => b2 (b1 d))) % 16 ≤ 4
  | [], _ => by simp [bVal, bMk]
  | d :: r, h => by
    obtain ⟨h1, h2, h3, h4, h5⟩ := bt_3 d (h d List.mem_cons_self)
    obtain ⟨ih, ihl⟩ := bs_3 r (fun x hx => h x (List.mem_cons_of_mem _ hx))
    simp only [bVal, List.map_cons, List.length_cons, bMk]
    generalize bVal (r.map (fun d => b2 (b1 d))) = Y at *
    have h6 := h5 (Y % 16) (by omega)
    generalize b2 (b1 d) = v at *
    have e1 : 256 * Y + v + (256 * Y + v) / 16 = 256 * (Y + Y / 16) + (v + v / 16 + 16 * (Y % 16)) := by omega
    rw [e1, and_cat (by omega) (by decide), ih, h6]
    exact ⟨rfl, by omega⟩
theorem zCnt_split {P : Nat → Bool} {a : Nat} : ∀ n, zCnt P (a + n) = zCnt P a + zCnt (fun i => P (a + i)) n
  | 0 => by simp [zCnt]
  | n + 1 => by rw [← Nat.add_assoc, zCnt, zCnt, zCnt_split n]; omega
theorem pc_byte {x a : Nat} : zCnt (fun i => x.testBit (a + i)) 8 = pcb (x / 2 ^ a % 256) := by
  unfold pcb
  refine zCnt_congr (fun i hi => ?_)
  rw [show (256 : Nat) = 2 ^ 8 from rfl, Nat.testBit_mod_two_pow, decide_eq_true hi, Bool.true_and, Nat.testBit_div_two_pow, Nat.add_comm]
/-- as many as are set -/
def pcN (x : Nat) : Nat := zCnt (fun i => x.testBit i) 40
theorem pcN_bytes (x : Nat) : pcN x = pcb (x % 256) + pcb (x / 256 % 256) + pcb (x / 65536 % 256) + pcb (x / 16777216 % 256) + pcb (x / 4294967296 % 256) := by
  unfold pcN
  rw [show (40 : Nat) = 32 + 8 from rfl, zCnt_split, show (32 : Nat) = 24 + 8 from rfl, zCnt_split, show (24 : Nat) = 16 + 8 from rfl, zCnt_split, show (16 : Nat) = 8 + 8 from rfl, zCnt_split]
  have h0 : zCnt (fun i => x.testBit i) 8 = pcb (x % 256) := by
    have := pc_byte (x := x) (a := 0)
    simpa using this
  rw [h0, pc_byte, pc_byte, pc_byte, pc_byte]
theorem pcN_add {x c : Nat} (hx : x < 2 ^ c) (hc : c < 40) : pcN (x + 2 ^ c) = pcN x + 1 := by
  have hb : ∀ i, (x + 2 ^ c).testBit i = (x.testBit i || decide (i = c)) := by
    intro i
    rw [← or_pow hx, Nat.testBit_or, Nat.testBit_two_pow]
    congr 1
    exact decide_eq_decide.mpr ⟨fun g => g.symm, fun g => g.symm⟩
  have hn : x.testBit c = false := Nat.testBit_lt_two_pow hx
  unfold pcN
  have := zCnt_pt (P := fun i => x.testBit i) (P' := fun i => (x + 2 ^ c).testBit i) (c := c) (n := 40) hc (fun d _ hd => by rw [hb, decide_eq_false hd, Bool.or_false])
  simp only [hb, hn, decide_true, Bool.or_true, Bool.false_eq_true, if_false, if_true] at this
  simp only [hb]
  omega
theorem pcN_le (x : Nat) : pcN x ≤ 40 := zCnt_le _ _
/-- Long.bitCount's way, in plain numbers -/
def bCnt (x : Nat) : Nat :=
  let x1 := x - ((x / 2) &&& 6148914691236517205)
  let x2 := (x1 &&& 3689348814741910323) + ((x1 / 4) &&& 3689348814741910323)
  let x3 := (x2 + x2 / 16) &&& 1085102592571150095
  let x4 := x3 + x3 / 256
  let x5 := x4 + x4 / 65536
  x5 + x5 / 4294967296
theorem bCnt_ok {x : Nat} (hx : x < 2 ^ 40) : bCnt x % 128 = pcN x ∧ x - ((x / 2) &&& 6148914691236517205) < 2 ^ 64 ∧ ((x / 2) &&& 6148914691236517205) ≤ x := by
  have hds : bVal [x % 256, x / 256 % 256, x / 65536 % 256, x / 16777216 % 256, x / 4294967296 % 256, 0, 0, 0] = x := by
    simp only [bVal]; omega
  have hall : ∀ d ∈ [x % 256, x / 256 % 256, x / 65536 % 256, x / 16777216 % 256, x / 4294967296 % 256, 0, 0, 0], d < 256 := by
    intro d hd
    simp only [List.mem_cons, List.not_mem_nil, or_false] at hd
    omega
  have hpc := pcN_bytes x
  have k0 := (bt_3 (x % 256) (by omega)).2.2.2.1
  have k1 := (bt_3 (x / 256 % 256) (by omega)).2.2.2.1
  have k2 := (bt_3 (x / 65536 % 256) (by omega)).2.2.2.1
  have k3 := (bt_3 (x / 16777216 % 256) (by omega)).2.2.2.1
  have k4 := (bt_3 (x / 4294967296 % 256) (by omega)).2.2.2.1
  generalize hL : [x % 256, x / 256 % 256, x / 65536 % 256, x / 16777216 % 256, x / 4294967296 % 256, 0, 0, 0] = ds at *
  have hlen : ds.length = 8 := by rw [← hL]; rfl
  obtain ⟨a1, a1'⟩ := bs_1 ds hall
  have hall1 : ∀ d ∈ ds.map b1, d < 256 := by
    intro d hd
    obtain ⟨c, hc, rfl⟩ := List.mem_map.mp hd
    exact (bt_3 c (hall c hc)).1
  have a2 := bs_2 (ds.map b1) hall1
  obtain ⟨a3, -⟩ := bs_3 ds hall
  rw [List.length_map, List.map_map] at a2
  rw [hlen] at a1 a1' a2 a3
  rw [hds] at a1 a1'
  have m1 : bMk 85 8 = 6148914691236517205 := by decide
  have m2 : bMk 51 8 = 3689348814741910323 := by decide
  have m3 : bMk 15 8 = 1085102592571150095 := by decide
  rw [m1] at a1 a1'
  rw [m2] at a2
  rw [m3] at a3
  have hp : bVal (ds.map pcb) = pcb (x % 256) + 256 * pcb (x / 256 % 256) + 65536 * pcb (x / 65536 % 256) + 16777216 * pcb (x / 16777216 % 256) + 4294967296 * pcb (x / 4294967296 % 256) := by
    rw [← hL]
    have z : pcb 0 = 0 := by decide
    simp only [List.map_cons, List.map_nil, bVal, z]
    omega
  refine ⟨?_, by omega, a1'⟩
  unfold bCnt
  simp only
  rw [a1, a2, show (b2 ∘ b1) = fun d => b2 (b1 d) from rfl, a3, hp, hpc]
  generalize pcb (x % 256) = c0 at *
  generalize pcb (x / 256 % 256) = c1 at *
  generalize pcb (x / 65536 % 256) = c2 at *
  generalize pcb (x / 16777216 % 256) = c3 at *
  generalize pcb (x / 4294967296 % 256) = c4 at *
  clear a1 a1' a2 a3 hp hpc hds hall hall1 hL hlen hx
  have e4 : (c0 + 256 * c1 + 65536 * c2 + 16777216 * c3 + 4294967296 * c4) / 256 = c1 + 256 * c2 + 65536 * c3 + 16777216 * c4 := by omega
  rw [e4]
  have e5 : (c0 + 256 * c1 + 65536 * c2 + 16777216 * c3 + 4294967296 * c4 + (c1 + 256 * c2 + 65536 * c3 + 16777216 * c4)) / 65536 = (c2 + c3) + 256 * (c3 + c4) + 65536 * c4 := by omega
  rw [e5]
  have e6 : (c0 + 256 * c1 + 65536 * c2 + 16777216 * c3 + 4294967296 * c4 + (c1 + 256 * c2 + 65536 * c3 + 16777216 * c4) + ((c2 + c3) + 256 * (c3 + c4) + 65536 * c4)) / 4294967296 = c4 := by omega
  rw [e6]
  omega
end ZP87
section ZP88
variable {w : zP} {Q : Option Value → zMem → Prop} {μ : zMem}
theorem bshr {n : Nat} (k p : Nat) (hk : k < 64) (hp : 2 ^ k = p) (hn : n < 2 ^ 64) : ((lN n).toUInt64 >>> ((nI k).toInt64.toUInt64 &&& Int64.toUInt64 63)).toInt64 = lN (n / p) := by rw [wb_shr hn hk, hp]
theorem nI_and127 (x : Nat) : nI x &&& 127 = nI (x % 128) := by
  have h := pk_and (nI x) (m := 127) 7 (by decide)
  rw [h]
  congr 1
  show (BitVec.ofNat 32 x).toNat % 2 ^ 7 = _
  rw [BitVec.toNat_ofNat]
  omega
set_option maxRecDepth 20000 in
theorem sp_bitCount {x : Nat} (hx : x < 2 ^ 40) (hQ : Q (some (.int (nI (pcN x)))) μ) : zXM w mJ13_bitCount_95d88 rJ13_bitCount_95d88 [.long (lN x)] μ Q := by
  unfold zXM
  obtain ⟨h1, h2, h3⟩ := bCnt_ok hx
  have c5 : (6148914691236517205 : Int64) = lN 6148914691236517205 := rfl
  have c3 : (3689348814741910323 : Int64) = lN 3689348814741910323 := rfl
  have cf : (1085102592571150095 : Int64) = lN 1085102592571150095 := rfl
  unfold bCnt at h1
  simp only at h1
  have b1 : ∀ a m : Nat, a &&& m ≤ a := fun a m => Nat.and_le_left
  obtain ⟨A, hA⟩ : ∃ v, v = (x / 2) &&& 6148914691236517205 := ⟨_, rfl⟩
  rw [← hA] at h1 h2 h3
  obtain ⟨X1, hX1⟩ : ∃ v, v = x - A := ⟨_, rfl⟩
  rw [← hX1] at h1
  obtain ⟨B, hB⟩ : ∃ v, v = X1 &&& 3689348814741910323 := ⟨_, rfl⟩
  obtain ⟨C, hC⟩ : ∃ v, v = (X1 / 4) &&& 3689348814741910323 := ⟨_, rfl⟩
  rw [← hB, ← hC] at h1
  have qB := b1 X1 3689348814741910323
  have qC := b1 (X1 / 4) 3689348814741910323
  rw [← hB] at qB
  rw [← hC] at qC
  obtain ⟨X2, hX2⟩ : ∃ v, v = B + C := ⟨_, rfl⟩
  rw [← hX2] at h1
  obtain ⟨X3, hX3⟩ : ∃ v, v = (X2 + X2 / 16) &&& 1085102592571150095 := ⟨_, rfl⟩
  have q3 := b1 (X2 + X2 / 16) 1085102592571150095
  rw [← hX3] at h1 q3
  obtain ⟨X4, hX4⟩ : ∃ v, v = X3 + X3 / 256 := ⟨_, rfl⟩
  rw [← hX4] at h1
  obtain ⟨X5, hX5⟩ : ∃ v, v = X4 + X4 / 65536 := ⟨_, rfl⟩
  rw [← hX5] at h1
  have f1 : ((lN x).toUInt64 >>> ((1 : Int32).toInt64.toUInt64 &&& Int64.toUInt64 63)).toInt64 = lN (x / 2) := bshr 1 2 (by decide) (by decide) (by omega)
  have f2 : lN (x / 2) &&& 6148914691236517205 = lN A := by rw [c5, wb_and (by omega) (by decide), hA]
  have f3 : lN x - lN A = lN X1 := by rw [lN_sub h3, hX1]
  have f4 : ((lN X1).toUInt64 >>> ((2 : Int32).toInt64.toUInt64 &&& Int64.toUInt64 63)).toInt64 = lN (X1 / 4) := bshr 2 4 (by decide) (by decide) (by omega)
  have f5 : lN X1 &&& 3689348814741910323 = lN B := by rw [c3, wb_and (by omega) (by decide), hB]
  have f6 : lN (X1 / 4) &&& 3689348814741910323 = lN C := by rw [c3, wb_and (by omega) (by decide), hC]
  have f7 : lN B + lN C = lN X2 := by rw [lN_add, hX2]
  have f8 : ((lN X2).toUInt64 >>> ((4 : Int32).toInt64.toUInt64 &&& Int64.toUInt64 63)).toInt64 = lN (X2 / 16) := bshr 4 16 (by decide) (by decide) (by omega)
  have f9 : lN X2 + lN (X2 / 16) &&& 1085102592571150095 = lN X3 := by rw [lN_add, cf, wb_and (by omega) (by decide), hX3]
  have g1 : ((lN X3).toUInt64 >>> ((8 : Int32).toInt64.toUInt64 &&& Int64.toUInt64 63)).toInt64 = lN (X3 / 256) := bshr 8 256 (by decide) (by decide) (by omega)
  have g2 : lN X3 + lN (X3 / 256) = lN X4 := by rw [lN_add, hX4]
  have g3 : ((lN X4).toUInt64 >>> ((16 : Int32).toInt64.toUInt64 &&& Int64.toUInt64 63)).toInt64 = lN (X4 / 65536) := bshr 16 65536 (by decide) (by decide) (by omega)
  have g4 : lN X4 + lN (X4 / 65536) = lN X5 := by rw [lN_add, hX5]
  have g5 : ((lN X5).toUInt64 >>> ((32 : Int32).toInt64.toUInt64 &&& Int64.toUInt64 63)).toInt64 = lN (X5 / 4294967296) := bshr 32 4294967296 (by decide) (by decide) (by omega)
  have g6 : (lN X5 + lN (X5 / 4294967296)).toInt32 &&& 127 = nI (pcN x) := by rw [lN_add, lN_i, nI_and127, h1]
  refine zBlkR (M := mJ13_bitCount_95d88) (nL := 2) (rt := (Option.some .int)) (blk := bJ13_bitCount_95d88_0) (T := []) 0 hJ13_bitCount_95d88_0 zChks_nil rfl rfl rfl (Nat.le_of_ble_eq_true rfl) (Nat.le_of_ble_eq_true rfl) ?_
  simp (implicitDefEqProofs := false) only [bJ13_bitCount_95d88_0, zRun_cons, zRun_nil, zLk, zSto, zIns, zFil, zf0, zf1, zf2, zf3, List.filter_cons, List.filter_nil, Nat.reduceAdd, Nat.reduceEqDiff, Nat.reduceLT, Nat.reduceLeDiff, Nat.reduceBEq, Nat.reduceBNe, reduceIte, if_true, if_false, Bool.false_and, Bool.true_and, Bool.and_true, Bool.and_false, Bool.not_false, Bool.not_true, Bool.false_eq_true, beq_self_eq_true, BEq.rfl, zCat1, zCat2, zCat3, zKdI, zKdL, zKdR, true_and, and_true, zSI, zSL, zSR, zu_at, and_self, and_false, false_and, lv_args, zKdZ, zKdO, zB01, zB11, Option.toList_none, Option.toList_some, List.nil_append, List.cons_append, true_or, or_true, zRow_rd, zu_rd, zo_lload_n, zo_iconst, zo_lushr, zo_ldc2_w, zo_land, zo_lsub, zo_lstore_n, zo_ladd, zo_bipush, zo_l2i, zo_iand, zo_ireturn, zi_1, zL_6148914691236517205, zL_3689348814741910323, zi_2, zi_4, zL_1085102592571150095, zb_8, zb_16, zb_32, zb_127, zcl_1, zcl_2, zcl_4, zcl_8, zcl_16, zcl_32, zcl_127, zRt, zKn_0, zCat2, f1, f2, f3, f4, f5, f6, f7, f8, f9, g1, g2, g3, g4, g5, g6, zN10, zN01, not_true_eq_false, not_false_eq_true, false_implies, true_implies, implies_true, eq_self, nI_1, nI_40, nI_7, vz0, vz1, zb1_e0, zb1_n0]
  exact hQ
end ZP88
