/-! ===== THE BOOK ===== -/
/-- size, known, what each strikes, signs, rained -/
abbrev oBk : Type := Nat × Int32 × (Nat → Option Nat) × (Nat → Int32) × (Nat → Bool)
def zcBook (I : Nat → Nat → Int32) (b : oBk) : Prop := I 48 4 = nI b.1 ∧ I 48 5 = b.2.1 ∧ ∀ k, k < b.1 → (∀ j, b.2.2.1 k = some j → I 51 k = nI j) ∧ (b.2.2.1 k = none → I 51 k = -1 ∧ I 49 k = b.2.2.2.1 k ∧ I 50 k = zb1 (b.2.2.2.2 k))
def zrBook (I : Nat → Nat → Int32) (b : oBk) : Prop := I 87 85 = nI b.1 ∧ I 87 86 = b.2.1 ∧ ∀ k, k < b.1 → (∀ j, b.2.2.1 k = some j → I 129 k = -1 ∧ I 130 k = nI j) ∧ (b.2.2.1 k = none → I 129 k = b.2.2.2.1 k ∧ I 130 k = zb1 (b.2.2.2.2 k))
def BkOk (b : oBk) : Prop := b.1 ≤ 60 ∧ (b.2.1 = -1 ∨ ∃ n, n ≤ b.1 ∧ b.2.1 = nI n) ∧ ∀ k, k < b.1 → (∀ j, b.2.2.1 k = some j → j < k) ∧ (b.2.2.1 k = none → ¬ b.2.2.2.1 k < 0)
def oKn (b : oBk) : Nat := if b.2.1 < 0 then b.1 else b.2.1.toNatClampNeg
def oThere (sg one two : Int32) (e : Bool) : Bool := if e = true then (decide ((sg >>> (one &&& 31)) &&& 1 = 1) || decide ((sg >>> (two &&& 31)) &&& 1 = 1)) else (decide ((sg >>> (one &&& 31)) &&& 1 = 1) && decide ((sg >>> (two &&& 31)) &&& 1 = 1))
/-- what is struck, seen by the last j of n -/
def oStr (sk : Nat → Option Nat) (n : Nat) : Nat → Nat → Bool
  | 0 => fun _ => false
  | j + 1 => if oStr sk n j (n - 1 - j) = true then oStr sk n j else match sk (n - 1 - j) with
    | none => oStr sk n j
    | some q => fun x => if x = q then true else oStr sk n j x
def oOkD (b : oBk) (n : Nat) (one two : Int32) (e : Bool) (k : Nat) : Bool := !oStr b.2.2.1 n n k && ((b.2.2.1 k).isNone && (oThere (b.2.2.2.1 k) one two e == b.2.2.2.2 k))
def oRight (b : oBk) (one two : Int32) (e : Bool) : Nat := zCnt (oOkD b (oKn b) one two e) (oKn b)
/-- counted from the top -/
def zCntD (P : Nat → Bool) (n : Nat) : Nat → Nat
  | 0 => 0
  | j + 1 => zCntD P n j + if P (n - 1 - j) = true then 1 else 0
section ZB84
variable {w : zP} {Q : Option Value → zMem → Prop} {μ : zMem} {I J V V' : Nat → Nat → Int32} {L : Nat → Nat → Int64} {p s t kc : Nat} {r : Option Nat} {P : oPn} {n i j k v : Nat} {x y z u one two : Int32} {e : Bool} {b : oBk} {sk : Nat → Option Nat}
theorem zCntD_ok {P : Nat → Bool} : ∀ j, j ≤ n → zCntD P n j + zCnt P (n - j) = zCnt P n
  | 0, _ => by simp [zCntD]
  | j + 1, hj => by
    have ih := zCntD_ok (P := P) j (by omega)
    have e1 : n - j = (n - (j + 1)) + 1 := by omega
    have e2 : n - 1 - j = n - (j + 1) := by omega
    rw [e1, zCnt] at ih
    rw [zCntD, e2]
    omega
theorem zCntD_n {P : Nat → Bool} : zCntD P n n = zCnt P n := by
  have := zCntD_ok (P := P) n (Nat.le_refl _)
  simpa [zCnt] using this
theorem zCntD_le {P : Nat → Bool} : ∀ j, zCntD P n j ≤ j
  | 0 => Nat.le_refl _
  | j + 1 => by
    have ih := zCntD_le (P := P) j
    rw [zCntD]
    split <;> omega
theorem oStr_s : oStr sk n (j + 1) = if oStr sk n j (n - 1 - j) = true then oStr sk n j else match sk (n - 1 - j) with
    | none => oStr sk n j
    | some q => fun x => if x = q then true else oStr sk n j x := rfl
/-- later ones strike nothing that is above them -/
theorem oStr_keep (hsk : ∀ k, k < n → ∀ q, sk k = some q → q < k) : ∀ m, j ≤ m → m ≤ n → ∀ i, n - 1 - j ≤ i → j < n → oStr sk n m i = oStr sk n j i
  | 0, h1, _, i, _, _ => by have : j = 0 := by omega
                            subst this; rfl
  | m + 1, h1, h2, i, h3, h4 => by
    by_cases ej : j = m + 1
    · rw [ej]
    · have ih := oStr_keep hsk m (by omega) (by omega) i h3 h4
      rw [oStr_s]
      split
      · exact ih
      · cases hq : sk (n - 1 - m) with
        | none => exact ih
        | some q =>
          have := hsk (n - 1 - m) (by omega) q hq
          show (if i = q then true else oStr sk n m i) = _
          rw [if_neg (by omega)]
          exact ih
theorem oKn_le (h : BkOk b) : oKn b ≤ b.1 := by
  unfold oKn
  split
  · exact Nat.le_refl _
  · rename_i g
    rcases h.2.1 with h1 | ⟨n, hn, h1⟩
    · rw [h1] at g; exact absurd (by decide) g
    · have := h.1
      rw [h1, nI_clamp (by omega)]; exact hn
set_option maxRecDepth 20000 in
theorem cl_knownCount (hB : zcBook I b) (hO : BkOk b) (hQ : Q (some (.int (nI (oKn b)))) (SH, I, L, RF p s r)) : zXM w mX0_knownCount rX0_knownCount [.ref 48] (SH, I, L, RF p s r) Q := by
  unfold zXM
  obtain ⟨h4, h5, -⟩ := hB
  have h60 := hO.1
  unfold oKn at hQ
  rcases hO.2.1 with h1 | ⟨n, hn, h1⟩
  · rw [h1] at h5 hQ
    rw [if_pos (by decide)] at hQ
    refine zBlkR (M := mX0_knownCount) (nL := 1) (rt := (Option.some .int)) (blk := bX0_knownCount_0) (T := [(15, bX0_knownCount_15), (26, bX0_knownCount_26)]) 1 hX0_knownCount_0 (zChks_cons hX0_knownCount_15 (zChks_cons hX0_knownCount_26 zChks_nil)) rfl rfl rfl (Nat.le_of_ble_eq_true rfl) (Nat.le_of_ble_eq_true rfl) ?_
    simp (implicitDefEqProofs := false) only [bX0_knownCount_0, bX0_knownCount_15, bX0_knownCount_26, zRun_cons, zRun_nil, zLk, zSto, zIns, zFil, zf0, zf1, zf2, zf3, List.filter_cons, List.filter_nil, Nat.reduceAdd, Nat.reduceEqDiff, Nat.reduceLT, Nat.reduceLeDiff, Nat.reduceBEq, Nat.reduceBNe, reduceIte, if_true, if_false, Bool.false_and, Bool.true_and, Bool.and_true, Bool.and_false, Bool.not_false, Bool.not_true, Bool.false_eq_true, beq_self_eq_true, BEq.rfl, zCat1, zCat2, zCat3, zKdI, zKdL, zKdR, true_and, and_true, zSI, zSL, zSR, zu_at, and_self, and_false, false_and, lv_args, zKdZ, zKdO, zB01, zB11, Option.toList_none, Option.toList_some, List.nil_append, List.cons_append, true_or, or_true, zRow_rd, zu_rd, zo_aload_n, zo_getfield, zo_iconst, zo_icmp_ne, zo_goto, zo_ireturn, zi_m1, zKd_0_5, zKd_0_4, sh_48, zRt, zKn_s, zKn_0, zFind, h4, h5, zN10, zN01, not_true_eq_false, not_false_eq_true, false_implies, true_implies, implies_true, eq_self, nI_1, nI_40, nI_7, vz0, vz1, zb1_e0, zb1_n0]
    exact hQ
  · rw [h1] at h5 hQ
    rw [if_neg (nI_nn (by omega)), nI_clamp (by omega)] at hQ
    have hne : (nI n = -1) = False := eq_false (fun g => nI_m1 (a := n) (by omega) g.symm)
    refine zBlkR (M := mX0_knownCount) (nL := 1) (rt := (Option.some .int)) (blk := bX0_knownCount_0) (T := [(15, bX0_knownCount_15), (26, bX0_knownCount_26)]) 1 hX0_knownCount_0 (zChks_cons hX0_knownCount_15 (zChks_cons hX0_knownCount_26 zChks_nil)) rfl rfl rfl (Nat.le_of_ble_eq_true rfl) (Nat.le_of_ble_eq_true rfl) ?_
    simp (implicitDefEqProofs := false) only [bX0_knownCount_0, bX0_knownCount_15, bX0_knownCount_26, zRun_cons, zRun_nil, zLk, zSto, zIns, zFil, zf0, zf1, zf2, zf3, List.filter_cons, List.filter_nil, Nat.reduceAdd, Nat.reduceEqDiff, Nat.reduceLT, Nat.reduceLeDiff, Nat.reduceBEq, Nat.reduceBNe, reduceIte, if_true, if_false, Bool.false_and, Bool.true_and, Bool.and_true, Bool.and_false, Bool.not_false, Bool.not_true, Bool.false_eq_true, beq_self_eq_true, BEq.rfl, zCat1, zCat2, zCat3, zKdI, zKdL, zKdR, true_and, and_true, zSI, zSL, zSR, zu_at, and_self, and_false, false_and, lv_args, zKdZ, zKdO, zB01, zB11, Option.toList_none, Option.toList_some, List.nil_append, List.cons_append, true_or, or_true, zRow_rd, zu_rd, zo_aload_n, zo_getfield, zo_iconst, zo_icmp_ne, zo_goto, zo_ireturn, zi_m1, zKd_0_5, zKd_0_4, sh_48, zRt, zKn_s, zKn_0, zFind, h4, h5, hne, zN10, zN01, not_true_eq_false, not_false_eq_true, false_implies, true_implies, implies_true, eq_self, nI_1, nI_40, nI_7, vz0, vz1, zb1_e0, zb1_n0]
    refine z_cS0 (M' := mJ9_min_7cf53) (R' := rJ9_min_7cf53) [.int (nI n), .int (nI b.1)] [] eJ9_min_7cf53 k0_36 (by decide +kernel : decode cX0_knownCount 23 = .ok (.invokestatic 36, 3)) (Nat.le_of_ble_eq_true rfl) ⟨Nat.le_of_ble_eq_true rfl, Nat.le_of_ble_eq_true rfl, Nat.le_of_ble_eq_true rfl, Nat.le_of_ble_eq_true rfl, Nat.le_of_ble_eq_true rfl⟩ rfl rfl rfl ?_
    refine sp_min ?_
    rw [if_neg (by rw [zlt_nat (by omega) (by omega)]; omega)]
    refine zBlkR (M := mX0_knownCount) (nL := 1) (rt := (Option.some .int)) (blk := bX0_knownCount_26) (T := []) 0 hX0_knownCount_26 zChks_nil rfl rfl rfl (Nat.le_of_ble_eq_true rfl) (Nat.le_of_ble_eq_true rfl) ?_
    simp (implicitDefEqProofs := false) only [bX0_knownCount_26, zRun_cons, zRun_nil, zLk, zSto, zIns, zFil, zf0, zf1, zf2, zf3, List.filter_cons, List.filter_nil, Nat.reduceAdd, Nat.reduceEqDiff, Nat.reduceLT, Nat.reduceLeDiff, Nat.reduceBEq, Nat.reduceBNe, reduceIte, if_true, if_false, Bool.false_and, Bool.true_and, Bool.and_true, Bool.and_false, Bool.not_false, Bool.not_true, Bool.false_eq_true, beq_self_eq_true, BEq.rfl, zCat1, zCat2, zCat3, zKdI, zKdL, zKdR, true_and, and_true, zSI, zSL, zSR, zu_at, and_self, and_false, false_and, lv_args, zKdZ, zKdO, zB01, zB11, Option.toList_none, Option.toList_some, List.nil_append, List.cons_append, true_or, or_true, zRow_rd, zu_rd, zo_ireturn, zRt, zKn_0, zN10, zN01, not_true_eq_false, not_false_eq_true, false_implies, true_implies, implies_true, eq_self, nI_1, nI_40, nI_7, vz0, vz1, zb1_e0, zb1_n0]
    exact hQ
set_option maxRecDepth 20000 in
theorem mo_knownBy (hB : zrBook I b) (hO : BkOk b) (hQ : Q (some (.int (nI (oKn b)))) (SH, I, L, RF p s r)) : zXM w mX10_knownBy rX10_knownBy [.ref 87] (SH, I, L, RF p s r) Q := by
  unfold zXM
  obtain ⟨h4, h5, -⟩ := hB
  have h60 := hO.1
  unfold oKn at hQ
  rcases hO.2.1 with h1 | ⟨n, hn, h1⟩
  · rw [h1] at h5 hQ
    rw [if_pos (by decide)] at hQ
    have n1 : ((0 : Int32) ≤ -1) = False := eq_false (by decide)
    refine zBlkR (M := mX10_knownBy) (nL := 1) (rt := (Option.some .int)) (blk := bX10_knownBy_0) (T := [(14, bX10_knownBy_14), (18, bX10_knownBy_18)]) 1 hX10_knownBy_0 (zChks_cons hX10_knownBy_14 (zChks_cons hX10_knownBy_18 zChks_nil)) rfl rfl rfl (Nat.le_of_ble_eq_true rfl) (Nat.le_of_ble_eq_true rfl) ?_
    simp (implicitDefEqProofs := false) only [bX10_knownBy_0, bX10_knownBy_14, bX10_knownBy_18, zRun_cons, zRun_nil, zLk, zSto, zIns, zFil, zf0, zf1, zf2, zf3, List.filter_cons, List.filter_nil, Nat.reduceAdd, Nat.reduceEqDiff, Nat.reduceLT, Nat.reduceLeDiff, Nat.reduceBEq, Nat.reduceBNe, reduceIte, if_true, if_false, Bool.false_and, Bool.true_and, Bool.and_true, Bool.and_false, Bool.not_false, Bool.not_true, Bool.false_eq_true, beq_self_eq_true, BEq.rfl, zCat1, zCat2, zCat3, zKdI, zKdL, zKdR, true_and, and_true, zSI, zSL, zSR, zu_at, and_self, and_false, false_and, lv_args, zKdZ, zKdO, zB01, zB11, Option.toList_none, Option.toList_some, List.nil_append, List.cons_append, true_or, or_true, zRow_rd, zu_rd, zo_aload_n, zo_getfield, zo_if_ge, zo_goto, zo_ireturn, zKd_10_86, zKd_10_85, sh_87, zRt, zKn_s, zKn_0, zFind, h4, h5, n1, zN10, zN01, not_true_eq_false, not_false_eq_true, false_implies, true_implies, implies_true, eq_self, nI_1, nI_40, nI_7, vz0, vz1, zb1_e0, zb1_n0]
    exact hQ
  · rw [h1] at h5 hQ
    rw [if_neg (nI_nn (by omega)), nI_clamp (by omega)] at hQ
    have n1 : ((0 : Int32) ≤ nI n) = True := eq_true (nI_pos' (by omega))
    refine zBlkR (M := mX10_knownBy) (nL := 1) (rt := (Option.some .int)) (blk := bX10_knownBy_0) (T := [(14, bX10_knownBy_14), (18, bX10_knownBy_18)]) 1 hX10_knownBy_0 (zChks_cons hX10_knownBy_14 (zChks_cons hX10_knownBy_18 zChks_nil)) rfl rfl rfl (Nat.le_of_ble_eq_true rfl) (Nat.le_of_ble_eq_true rfl) ?_
    simp (implicitDefEqProofs := false) only [bX10_knownBy_0, bX10_knownBy_14, bX10_knownBy_18, zRun_cons, zRun_nil, zLk, zSto, zIns, zFil, zf0, zf1, zf2, zf3, List.filter_cons, List.filter_nil, Nat.reduceAdd, Nat.reduceEqDiff, Nat.reduceLT, Nat.reduceLeDiff, Nat.reduceBEq, Nat.reduceBNe, reduceIte, if_true, if_false, Bool.false_and, Bool.true_and, Bool.and_true, Bool.and_false, Bool.not_false, Bool.not_true, Bool.false_eq_true, beq_self_eq_true, BEq.rfl, zCat1, zCat2, zCat3, zKdI, zKdL, zKdR, true_and, and_true, zSI, zSL, zSR, zu_at, and_self, and_false, false_and, lv_args, zKdZ, zKdO, zB01, zB11, Option.toList_none, Option.toList_some, List.nil_append, List.cons_append, true_or, or_true, zRow_rd, zu_rd, zo_aload_n, zo_getfield, zo_if_ge, zo_goto, zo_ireturn, zKd_10_86, zKd_10_85, sh_87, zRt, zKn_s, zKn_0, zFind, h4, h5, n1, zN10, zN01, not_true_eq_false, not_false_eq_true, false_implies, true_implies, implies_true, eq_self, nI_1, nI_40, nI_7, vz0, vz1, zb1_e0, zb1_n0]
    exact hQ
set_option maxRecDepth 20000 in
theorem cl_isThere {sg : Int32} (hQ : Q (some (.int (zb1 (oThere sg one two e)))) μ) : zXM w mX0_isThere rX0_isThere [.int sg, .int one, .int two, .int (zb1 e)] μ Q := by
  unfold zXM
  unfold oThere at hQ
  have z10 : ((1 : Int32) = 0) = False := by decide
  cases e
  · by_cases h1 : (sg >>> (one &&& 31)) &&& 1 = 1 <;> by_cases h2 : (sg >>> (two &&& 31)) &&& 1 = 1 <;> simp [h1, h2, zb1] at hQ
    all_goals
      refine zBlkR (M := mX0_isThere) (nL := 6) (rt := (Option.some .boolean)) (blk := bX0_isThere_0) (T := [(13, bX0_isThere_13), (14, bX0_isThere_14), (29, bX0_isThere_29), (30, bX0_isThere_30), (46, bX0_isThere_46), (50, bX0_isThere_50), (54, bX0_isThere_54), (68, bX0_isThere_68), (69, bX0_isThere_69)]) 4 hX0_isThere_0 (zChks_cons hX0_isThere_13 (zChks_cons hX0_isThere_14 (zChks_cons hX0_isThere_29 (zChks_cons hX0_isThere_30 (zChks_cons hX0_isThere_46 (zChks_cons hX0_isThere_50 (zChks_cons hX0_isThere_54 (zChks_cons hX0_isThere_68 (zChks_cons hX0_isThere_69 zChks_nil))))))))) rfl rfl rfl (Nat.le_of_ble_eq_true rfl) (Nat.le_of_ble_eq_true rfl) ?_
      simp (implicitDefEqProofs := false) only [bX0_isThere_0, bX0_isThere_13, bX0_isThere_14, bX0_isThere_29, bX0_isThere_30, bX0_isThere_46, bX0_isThere_50, bX0_isThere_54, bX0_isThere_68, bX0_isThere_69, zRun_cons, zRun_nil, zLk, zSto, zIns, zFil, zf0, zf1, zf2, zf3, List.filter_cons, List.filter_nil, Nat.reduceAdd, Nat.reduceEqDiff, Nat.reduceLT, Nat.reduceLeDiff, Nat.reduceBEq, Nat.reduceBNe, reduceIte, if_true, if_false, Bool.false_and, Bool.true_and, Bool.and_true, Bool.and_false, Bool.not_false, Bool.not_true, Bool.false_eq_true, beq_self_eq_true, BEq.rfl, zCat1, zCat2, zCat3, zKdI, zKdL, zKdR, true_and, and_true, zSI, zSL, zSR, zu_at, and_self, and_false, false_and, lv_args, zKdZ, zKdO, zB01, zB11, Option.toList_none, Option.toList_some, List.nil_append, List.cons_append, true_or, or_true, zRow_rd, zu_rd, zo_iload_n, zo_ishr, zo_iconst, zo_iand, zo_icmp_ne, zo_goto, zo_istore, zo_if_eq, zo_iload, zo_if_ne, zo_ireturn, zi_1, zi_0, zcl_1, zcl_0, zRt, zKn_s, zKn_0, zFind, zb1_f, h1, h2, z10, zN10, zN01, not_true_eq_false, not_false_eq_true, false_implies, true_implies, implies_true, eq_self, nI_1, nI_40, nI_7, vz0, vz1, zb1_e0, zb1_n0]
      exact hQ
  · by_cases h1 : (sg >>> (one &&& 31)) &&& 1 = 1 <;> by_cases h2 : (sg >>> (two &&& 31)) &&& 1 = 1 <;> simp [h1, h2, zb1] at hQ
    all_goals
      refine zBlkR (M := mX0_isThere) (nL := 6) (rt := (Option.some .boolean)) (blk := bX0_isThere_0) (T := [(13, bX0_isThere_13), (14, bX0_isThere_14), (29, bX0_isThere_29), (30, bX0_isThere_30), (46, bX0_isThere_46), (50, bX0_isThere_50), (54, bX0_isThere_54), (68, bX0_isThere_68), (69, bX0_isThere_69)]) 4 hX0_isThere_0 (zChks_cons hX0_isThere_13 (zChks_cons hX0_isThere_14 (zChks_cons hX0_isThere_29 (zChks_cons hX0_isThere_30 (zChks_cons hX0_isThere_46 (zChks_cons hX0_isThere_50 (zChks_cons hX0_isThere_54 (zChks_cons hX0_isThere_68 (zChks_cons hX0_isThere_69 zChks_nil))))))))) rfl rfl rfl (Nat.le_of_ble_eq_true rfl) (Nat.le_of_ble_eq_true rfl) ?_
      simp (implicitDefEqProofs := false) only [bX0_isThere_0, bX0_isThere_13, bX0_isThere_14, bX0_isThere_29, bX0_isThere_30, bX0_isThere_46, bX0_isThere_50, bX0_isThere_54, bX0_isThere_68, bX0_isThere_69, zRun_cons, zRun_nil, zLk, zSto, zIns, zFil, zf0, zf1, zf2, zf3, List.filter_cons, List.filter_nil, Nat.reduceAdd, Nat.reduceEqDiff, Nat.reduceLT, Nat.reduceLeDiff, Nat.reduceBEq, Nat.reduceBNe, reduceIte, if_true, if_false, Bool.false_and, Bool.true_and, Bool.and_true, Bool.and_false, Bool.not_false, Bool.not_true, Bool.false_eq_true, beq_self_eq_true, BEq.rfl, zCat1, zCat2, zCat3, zKdI, zKdL, zKdR, true_and, and_true, zSI, zSL, zSR, zu_at, and_self, and_false, false_and, lv_args, zKdZ, zKdO, zB01, zB11, Option.toList_none, Option.toList_some, List.nil_append, List.cons_append, true_or, or_true, zRow_rd, zu_rd, zo_iload_n, zo_ishr, zo_iconst, zo_iand, zo_icmp_ne, zo_goto, zo_istore, zo_if_eq, zo_iload, zo_if_ne, zo_ireturn, zi_1, zi_0, zcl_1, zcl_0, zRt, zKn_s, zKn_0, zFind, zb1_t, h1, h2, z10, zN10, zN01, not_true_eq_false, not_false_eq_true, false_implies, true_implies, implies_true, eq_self, nI_1, nI_40, nI_7, vz0, vz1, zb1_e0, zb1_n0]
      exact hQ
/-- the class's 'struck' alone -/
def zS52 (i _k : Nat) : Prop := i = 52
theorem zc_52 (h : zKpt zS52 I J) (hB : zcBook I b) : zcBook J b := by
  obtain ⟨h4, h5, h6⟩ := hB
  have e : ∀ i, i ≠ 52 → J i = I i := fun i hi => funext fun k => h i k hi
  unfold zcBook
  rw [e 48 (by omega), e 51 (by omega), e 49 (by omega), e 50 (by omega)]
  exact ⟨h4, h5, h6⟩
set_option maxRecDepth 20000 in
theorem cl_rightOf (hB : zcBook I b) (hO : BkOk b) (hQ : ∀ I', zKpt zS52 I I' → Q (some (.int (nI (oRight b one two e)))) (SH, I', L, RF p s r)) : zXM w mX0_rightOf rX0_rightOf [.ref 48, .int one, .int two, .int (zb1 e)] (SH, I, L, RF p s r) Q := by
  unfold zXM
  have hkn := oKn_le hO
  have h60 := hO.1
  have hsk : ∀ k, k < oKn b → ∀ q, b.2.2.1 k = some q → q < k := fun k hk q hq => (hO.2.2 k (by omega)).1 q hq
  unfold oRight at hQ
  refine zBlkR (M := mX0_rightOf) (nL := 6) (rt := (Option.some .int)) (blk := bX0_rightOf_0) (T := []) 0 hX0_rightOf_0 zChks_nil rfl rfl rfl (Nat.le_of_ble_eq_true rfl) (Nat.le_of_ble_eq_true rfl) ?_
  simp (implicitDefEqProofs := false) only [bX0_rightOf_0, zRun_cons, zRun_nil, zLk, zSto, zIns, zFil, zf0, zf1, zf2, zf3, List.filter_cons, List.filter_nil, Nat.reduceAdd, Nat.reduceEqDiff, Nat.reduceLT, Nat.reduceLeDiff, Nat.reduceBEq, Nat.reduceBNe, reduceIte, if_true, if_false, Bool.false_and, Bool.true_and, Bool.and_true, Bool.and_false, Bool.not_false, Bool.not_true, Bool.false_eq_true, beq_self_eq_true, BEq.rfl, zCat1, zCat2, zCat3, zKdI, zKdL, zKdR, true_and, and_true, zSI, zSL, zSR, zu_at, and_self, and_false, false_and, lv_args, zKdZ, zKdO, zB01, zB11, Option.toList_none, Option.toList_some, List.nil_append, List.cons_append, true_or, or_true, zRow_rd, zu_rd, zo_iconst, zo_istore, zo_aload_n, zo_getfield, zi_0, zKd_0_3, zcl_0, sh_48, rf_48_3, sh_52, zvi_0_60, zKn_0, zN10, zN01, not_true_eq_false, not_false_eq_true, false_implies, true_implies, implies_true, eq_self, nI_1, nI_40, nI_7, vz0, vz1, zb1_e0, zb1_n0]
  refine z_cS0 (M' := mJ7_fill_53178) (R' := rJ7_fill_53178) [.ref 52, .int 0] [] eJ7_fill_53178 k0_42 (by decide +kernel : decode cX0_rightOf 8 = .ok (.invokestatic 42, 3)) (Nat.le_of_ble_eq_true rfl) ⟨Nat.le_of_ble_eq_true rfl, Nat.le_of_ble_eq_true rfl, Nat.le_of_ble_eq_true rfl, Nat.le_of_ble_eq_true rfl, Nat.le_of_ble_eq_true rfl⟩ rfl rfl rfl ?_
  refine sp_fill (n := 60) sh_52 (by decide) ?_
  have k0 : zKpt zS52 I (zRow I 52 (zFill 60 0 (I 52))) := zRow_kp zKpt_rfl (fun k => rfl)
  have s0 : ∀ i, i < 60 → (zRow I 52 (zFill 60 0 (I 52))) 52 i = zb1 (oStr b.2.2.1 (oKn b) 0 i) := by
    intro i hi
    rw [zRow_at, if_pos rfl, zFill, if_pos hi]; rfl
  generalize zRow I 52 (zFill 60 0 (I 52)) = I0 at *
  refine zBlkR (M := mX0_rightOf) (nL := 6) (rt := (Option.some .int)) (blk := bX0_rightOf_11) (T := []) 0 hX0_rightOf_11 zChks_nil rfl rfl rfl (Nat.le_of_ble_eq_true rfl) (Nat.le_of_ble_eq_true rfl) ?_
  simp (implicitDefEqProofs := false) only [bX0_rightOf_11, zRun_cons, zRun_nil, zLk, zSto, zIns, zFil, zf0, zf1, zf2, zf3, List.filter_cons, List.filter_nil, Nat.reduceAdd, Nat.reduceEqDiff, Nat.reduceLT, Nat.reduceLeDiff, Nat.reduceBEq, Nat.reduceBNe, reduceIte, if_true, if_false, Bool.false_and, Bool.true_and, Bool.and_true, Bool.and_false, Bool.not_false, Bool.not_true, Bool.false_eq_true, beq_self_eq_true, BEq.rfl, zCat1, zCat2, zCat3, zKdI, zKdL, zKdR, true_and, and_true, zSI, zSL, zSR, zu_at, and_self, and_false, false_and, lv_args, zKdZ, zKdO, zB01, zB11, Option.toList_none, Option.toList_some, List.nil_append, List.cons_append, true_or, or_true, zRow_rd, zu_rd, zo_aload_n, zKn_0, zN10, zN01, not_true_eq_false, not_false_eq_true, false_implies, true_implies, implies_true, eq_self, nI_1, nI_40, nI_7, vz0, vz1, zb1_e0, zb1_n0]
  refine z_cV0 (M' := mX0_knownCount) (R' := rX0_knownCount) (i := 48) [] [] eX0_knownCount k0_48 (by decide +kernel : decode cX0_rightOf 12 = .ok (.invokevirtual 48, 3)) (Nat.le_of_ble_eq_true rfl) ⟨Nat.le_of_ble_eq_true rfl, Nat.le_of_ble_eq_true rfl, Nat.le_of_ble_eq_true rfl, Nat.le_of_ble_eq_true rfl, Nat.le_of_ble_eq_true rfl⟩ rfl rfl rfl sh_48 ?_
  refine cl_knownCount (zc_52 k0 hB) hO ?_
  refine zBlkR (M := mX0_rightOf) (nL := 6) (rt := (Option.some .int)) (blk := bX0_rightOf_15) (T := []) 0 hX0_rightOf_15 zChks_nil rfl rfl rfl (Nat.le_of_ble_eq_true rfl) (Nat.le_of_ble_eq_true rfl) ?_
  simp (implicitDefEqProofs := false) only [bX0_rightOf_15, zRun_cons, zRun_nil, zLk, zSto, zIns, zFil, zf0, zf1, zf2, zf3, List.filter_cons, List.filter_nil, Nat.reduceAdd, Nat.reduceEqDiff, Nat.reduceLT, Nat.reduceLeDiff, Nat.reduceBEq, Nat.reduceBNe, reduceIte, if_true, if_false, Bool.false_and, Bool.true_and, Bool.and_true, Bool.and_false, Bool.not_false, Bool.not_true, Bool.false_eq_true, beq_self_eq_true, BEq.rfl, zCat1, zCat2, zCat3, zKdI, zKdL, zKdR, true_and, and_true, zSI, zSL, zSR, zu_at, and_self, and_false, false_and, lv_args, zKdZ, zKdO, zB01, zB11, Option.toList_none, Option.toList_some, List.nil_append, List.cons_append, true_or, or_true, zRow_rd, zu_rd, zo_iconst, zo_isub, zo_istore, zi_1, zcl_1, zKn_0, zN10, zN01, not_true_eq_false, not_false_eq_true, false_implies, true_implies, implies_true, eq_self, nI_1, nI_40, nI_7, vz0, vz1, zb1_e0, zb1_n0]
  generalize hn : oKn b = n at *
  have key := zLoop (n := n) (P := fun j => ∀ J, zKpt zS52 I J → (∀ i, i < 60 → J 52 i = zb1 (oStr b.2.2.1 n j i)) → zX w mX0_rightOf rX0_rightOf Q 0 0 19 [(0, Value.ref 48), (1, Value.int one), (2, Value.int two), (3, Value.int (zb1 e)), (4, Value.int (nI (zCntD (oOkD b n one two e) n j))), (5, Value.int (nI (n - j) - 1))] [] (SH, J, L, RF p s r)) (fun j hj ih => ?_) 0 (Nat.zero_le _) I0 k0 s0
  · exact key
  intro J hJ hS
  by_cases hjn : j = n
  · subst hjn
    have e1 : nI (j - j) - 1 = (-1 : Int32) := by rw [Nat.sub_self]; decide
    rw [e1]
    have n1 : ((-1 : Int32) < 0) = True := eq_true (by decide)
    refine zBlkR (M := mX0_rightOf) (nL := 6) (rt := (Option.some .int)) (blk := bX0_rightOf_19) (T := [(37, bX0_rightOf_37), (75, bX0_rightOf_75), (101, bX0_rightOf_101), (107, bX0_rightOf_107)]) 2 hX0_rightOf_19 (zChks_cons hX0_rightOf_37 (zChks_cons hX0_rightOf_75 (zChks_cons hX0_rightOf_101 (zChks_cons hX0_rightOf_107 zChks_nil)))) rfl rfl rfl (Nat.le_of_ble_eq_true rfl) (Nat.le_of_ble_eq_true rfl) ?_
    simp (implicitDefEqProofs := false) only [bX0_rightOf_19, bX0_rightOf_37, bX0_rightOf_75, bX0_rightOf_101, bX0_rightOf_107, zRun_cons, zRun_nil, zLk, zSto, zIns, zFil, zf0, zf1, zf2, zf3, List.filter_cons, List.filter_nil, Nat.reduceAdd, Nat.reduceEqDiff, Nat.reduceLT, Nat.reduceLeDiff, Nat.reduceBEq, Nat.reduceBNe, reduceIte, if_true, if_false, Bool.false_and, Bool.true_and, Bool.and_true, Bool.and_false, Bool.not_false, Bool.not_true, Bool.false_eq_true, beq_self_eq_true, BEq.rfl, zCat1, zCat2, zCat3, zKdI, zKdL, zKdR, true_and, and_true, zSI, zSL, zSR, zu_at, and_self, and_false, false_and, lv_args, zKdZ, zKdO, zB01, zB11, Option.toList_none, Option.toList_some, List.nil_append, List.cons_append, true_or, or_true, zRow_rd, zu_rd, zo_iload, zo_if_lt, zo_aload_n, zo_getfield, zo_iaload, zo_if_eq, zo_goto, zo_icmp_ge, zo_iconst, zo_iastore, zo_iload_n, zo_iinc, zo_ireturn, zi_1, zi_m1, zKd_0_3, zKd_0_2, zKd_0_0, sh_48, rf_48_3, sh_52, rf_48_2, sh_51, zcl_1, rf_48_0, sh_49, zvi_1_60, zRt, zKn_s, zKn_0, zFind, n1, zN10, zN01, not_true_eq_false, not_false_eq_true, false_implies, true_implies, implies_true, eq_self, nI_1, nI_40, nI_7, vz0, vz1, zb1_e0, zb1_n0]
    rw [zCntD_n]
    exact hQ J hJ
  have e1 : nI (n - j) - 1 = nI (n - 1 - j) := by
    have : n - j = (n - 1 - j) + 1 := by omega
    rw [this, nI_pred]
  rw [e1]
  have hi : n - 1 - j < n := by omega
  have x1 : nI (n - 1 - j) + -1 = nI (n - (j + 1)) - 1 := by
    rw [show n - (j + 1) = n - 1 - j by omega]; exact (Int32.sub_eq_add_neg _ _).symm
  have n1 : (nI (n - 1 - j) < 0) = False := eq_false (nI_nn (by omega))
  have hv : vp_in (nI (n - 1 - j)) 60 := zvn (by omega) (by omega)
  have es := hS (n - 1 - j) (by omega)
  have hBJ := zc_52 hJ hB
  obtain ⟨b1, b2⟩ := hBJ.2.2 (n - 1 - j) (by omega)
  have hkeep : oStr b.2.2.1 n n (n - 1 - j) = oStr b.2.2.1 n j (n - 1 - j) := oStr_keep hsk n (by omega) (Nat.le_refl _) _ (Nat.le_refl _) (by omega)
  have ih := ih (by omega)
  rw [zCntD] at ih
  have hok : oOkD b n one two e (n - 1 - j) = (!oStr b.2.2.1 n j (n - 1 - j) && ((b.2.2.1 (n - 1 - j)).isNone && (oThere (b.2.2.2.1 (n - 1 - j)) one two e == b.2.2.2.2 (n - 1 - j)))) := by rw [oOkD, hkeep]
  have hss := oStr_s (sk := b.2.2.1) (n := n) (j := j)
  have hkk := hsk (n - 1 - j) hi
  generalize n - 1 - j = i at *
  cases hst : oStr b.2.2.1 n j i with
  | true =>
    rw [hst] at es hok hss
    rw [if_neg (by rw [hok]; simp)] at ih
    rw [if_pos rfl] at hss
    rw [hss] at ih
    refine zBlkR (M := mX0_rightOf) (nL := 6) (rt := (Option.some .int)) (blk := bX0_rightOf_19) (T := [(37, bX0_rightOf_37), (75, bX0_rightOf_75), (101, bX0_rightOf_101), (107, bX0_rightOf_107)]) 2 hX0_rightOf_19 (zChks_cons hX0_rightOf_37 (zChks_cons hX0_rightOf_75 (zChks_cons hX0_rightOf_101 (zChks_cons hX0_rightOf_107 zChks_nil)))) rfl rfl rfl (Nat.le_of_ble_eq_true rfl) (Nat.le_of_ble_eq_true rfl) ?_
    simp (implicitDefEqProofs := false) only [bX0_rightOf_19, bX0_rightOf_37, bX0_rightOf_75, bX0_rightOf_101, bX0_rightOf_107, zRun_cons, zRun_nil, zLk, zSto, zIns, zFil, zf0, zf1, zf2, zf3, List.filter_cons, List.filter_nil, Nat.reduceAdd, Nat.reduceEqDiff, Nat.reduceLT, Nat.reduceLeDiff, Nat.reduceBEq, Nat.reduceBNe, reduceIte, if_true, if_false, Bool.false_and, Bool.true_and, Bool.and_true, Bool.and_false, Bool.not_false, Bool.not_true, Bool.false_eq_true, beq_self_eq_true, BEq.rfl, zCat1, zCat2, zCat3, zKdI, zKdL, zKdR, true_and, and_true, zSI, zSL, zSR, zu_at, and_self, and_false, false_and, lv_args, zKdZ, zKdO, zB01, zB11, Option.toList_none, Option.toList_some, List.nil_append, List.cons_append, true_or, or_true, zRow_rd, zu_rd, zo_iload, zo_if_lt, zo_aload_n, zo_getfield, zo_iaload, zo_if_eq, zo_goto, zo_icmp_ge, zo_iconst, zo_iastore, zo_iload_n, zo_iinc, zo_ireturn, zi_1, zi_m1, zKd_0_3, zKd_0_2, zKd_0_0, sh_48, rf_48_3, sh_52, rf_48_2, sh_51, zcl_1, rf_48_0, sh_49, zvi_1_60, zRt, zKn_s, zKn_0, zFind, n1, hv, es, zb1_t, x1, nI_clamp (n := i) (by omega), zN10, zN01, not_true_eq_false, not_false_eq_true, false_implies, true_implies, implies_true, eq_self, nI_1, nI_40, nI_7, vz0, vz1, zb1_e0, zb1_n0]
    exact ih J hJ hS
  | false =>
    rw [hst] at es hok hss
    rw [if_neg (by decide)] at hss
    cases hski : b.2.2.1 i with
    | some q =>
      rw [hski] at hok hss
      simp only at hss
      rw [if_neg (by rw [hok]; simp)] at ih
      have e51 := b1 q hski
      have hqi := hkk q hski
      have m1 : (nI q < 0) = False := eq_false (nI_nn (by omega))
      have m2 : (nI i ≤ nI q) = False := eq_false (by rw [zle_nat (by omega) (by omega)]; omega)
      have hvq : vp_in (nI q) 60 := zvn (by omega) (by omega)
      refine zBlkR (M := mX0_rightOf) (nL := 6) (rt := (Option.some .int)) (blk := bX0_rightOf_19) (T := [(37, bX0_rightOf_37), (75, bX0_rightOf_75), (101, bX0_rightOf_101), (107, bX0_rightOf_107)]) 2 hX0_rightOf_19 (zChks_cons hX0_rightOf_37 (zChks_cons hX0_rightOf_75 (zChks_cons hX0_rightOf_101 (zChks_cons hX0_rightOf_107 zChks_nil)))) rfl rfl rfl (Nat.le_of_ble_eq_true rfl) (Nat.le_of_ble_eq_true rfl) ?_
      simp (implicitDefEqProofs := false) only [bX0_rightOf_19, bX0_rightOf_37, bX0_rightOf_75, bX0_rightOf_101, bX0_rightOf_107, zRun_cons, zRun_nil, zLk, zSto, zIns, zFil, zf0, zf1, zf2, zf3, List.filter_cons, List.filter_nil, Nat.reduceAdd, Nat.reduceEqDiff, Nat.reduceLT, Nat.reduceLeDiff, Nat.reduceBEq, Nat.reduceBNe, reduceIte, if_true, if_false, Bool.false_and, Bool.true_and, Bool.and_true, Bool.and_false, Bool.not_false, Bool.not_true, Bool.false_eq_true, beq_self_eq_true, BEq.rfl, zCat1, zCat2, zCat3, zKdI, zKdL, zKdR, true_and, and_true, zSI, zSL, zSR, zu_at, and_self, and_false, false_and, lv_args, zKdZ, zKdO, zB01, zB11, Option.toList_none, Option.toList_some, List.nil_append, List.cons_append, true_or, or_true, zRow_rd, zu_rd, zo_iload, zo_if_lt, zo_aload_n, zo_getfield, zo_iaload, zo_if_eq, zo_goto, zo_icmp_ge, zo_iconst, zo_iastore, zo_iload_n, zo_iinc, zo_ireturn, zi_1, zi_m1, zKd_0_3, zKd_0_2, zKd_0_0, sh_48, rf_48_3, sh_52, rf_48_2, sh_51, zcl_1, rf_48_0, sh_49, zvi_1_60, zRt, zKn_s, zKn_0, zFind, n1, hv, es, zb1_f, e51, m1, m2, hvq, x1, nI_clamp (n := i) (by omega), nI_clamp (n := q) (by omega), zN10, zN01, not_true_eq_false, not_false_eq_true, false_implies, true_implies, implies_true, eq_self, nI_1, nI_40, nI_7, vz0, vz1, zb1_e0, zb1_n0]
      refine ih _ (hJ.u (show zS52 52 _ from rfl)) (fun k hk => ?_)
      rw [hss, zu_at]
      by_cases ek : k = q
      · subst ek; simp [zb1]
      · rw [if_neg (fun g => ek g.2)]; dsimp only; rw [if_neg ek]; exact hS k hk
    | none =>
      rw [hski] at hok hss
      simp only at hss
      rw [hss] at ih
      obtain ⟨e51, e49, e50⟩ := b2 hski
      have m1 : ((-1 : Int32) < 0) = True := eq_true (by decide)
      refine zBlkR (M := mX0_rightOf) (nL := 6) (rt := (Option.some .int)) (blk := bX0_rightOf_19) (T := [(37, bX0_rightOf_37), (75, bX0_rightOf_75), (101, bX0_rightOf_101), (107, bX0_rightOf_107)]) 2 hX0_rightOf_19 (zChks_cons hX0_rightOf_37 (zChks_cons hX0_rightOf_75 (zChks_cons hX0_rightOf_101 (zChks_cons hX0_rightOf_107 zChks_nil)))) rfl rfl rfl (Nat.le_of_ble_eq_true rfl) (Nat.le_of_ble_eq_true rfl) ?_
      simp (implicitDefEqProofs := false) only [bX0_rightOf_19, bX0_rightOf_37, bX0_rightOf_75, bX0_rightOf_101, bX0_rightOf_107, zRun_cons, zRun_nil, zLk, zSto, zIns, zFil, zf0, zf1, zf2, zf3, List.filter_cons, List.filter_nil, Nat.reduceAdd, Nat.reduceEqDiff, Nat.reduceLT, Nat.reduceLeDiff, Nat.reduceBEq, Nat.reduceBNe, reduceIte, if_true, if_false, Bool.false_and, Bool.true_and, Bool.and_true, Bool.and_false, Bool.not_false, Bool.not_true, Bool.false_eq_true, beq_self_eq_true, BEq.rfl, zCat1, zCat2, zCat3, zKdI, zKdL, zKdR, true_and, and_true, zSI, zSL, zSR, zu_at, and_self, and_false, false_and, lv_args, zKdZ, zKdO, zB01, zB11, Option.toList_none, Option.toList_some, List.nil_append, List.cons_append, true_or, or_true, zRow_rd, zu_rd, zo_iload, zo_if_lt, zo_aload_n, zo_getfield, zo_iaload, zo_if_eq, zo_goto, zo_icmp_ge, zo_iconst, zo_iastore, zo_iload_n, zo_iinc, zo_ireturn, zi_1, zi_m1, zKd_0_3, zKd_0_2, zKd_0_0, sh_48, rf_48_3, sh_52, rf_48_2, sh_51, zcl_1, rf_48_0, sh_49, zvi_1_60, zRt, zKn_s, zKn_0, zFind, n1, hv, es, zb1_f, e51, e49, m1, nI_clamp (n := i) (by omega), zN10, zN01, not_true_eq_false, not_false_eq_true, false_implies, true_implies, implies_true, eq_self, nI_1, nI_40, nI_7, vz0, vz1, zb1_e0, zb1_n0]
      refine z_cS0 (M' := mX0_isThere) (R' := rX0_isThere) [.int (b.2.2.2.1 i), .int one, .int two, .int (zb1 e)] [] eX0_isThere k0_52 (by decide +kernel : decode cX0_rightOf 85 = .ok (.invokestatic 52, 3)) (Nat.le_of_ble_eq_true rfl) ⟨Nat.le_of_ble_eq_true rfl, Nat.le_of_ble_eq_true rfl, Nat.le_of_ble_eq_true rfl, Nat.le_of_ble_eq_true rfl, Nat.le_of_ble_eq_true rfl⟩ rfl rfl rfl ?_
      refine cl_isThere ?_
      refine zBlkR (M := mX0_rightOf) (nL := 6) (rt := (Option.some .int)) (blk := bX0_rightOf_88) (T := [(101, bX0_rightOf_101)]) 1 hX0_rightOf_88 (zChks_cons hX0_rightOf_101 zChks_nil) rfl rfl rfl (Nat.le_of_ble_eq_true rfl) (Nat.le_of_ble_eq_true rfl) ?_
      simp (implicitDefEqProofs := false) only [bX0_rightOf_88, bX0_rightOf_101, zRun_cons, zRun_nil, zLk, zSto, zIns, zFil, zf0, zf1, zf2, zf3, List.filter_cons, List.filter_nil, Nat.reduceAdd, Nat.reduceEqDiff, Nat.reduceLT, Nat.reduceLeDiff, Nat.reduceBEq, Nat.reduceBNe, reduceIte, if_true, if_false, Bool.false_and, Bool.true_and, Bool.and_true, Bool.and_false, Bool.not_false, Bool.not_true, Bool.false_eq_true, beq_self_eq_true, BEq.rfl, zCat1, zCat2, zCat3, zKdI, zKdL, zKdR, true_and, and_true, zSI, zSL, zSR, zu_at, and_self, and_false, false_and, lv_args, zKdZ, zKdO, zB01, zB11, Option.toList_none, Option.toList_some, List.nil_append, List.cons_append, true_or, or_true, zRow_rd, zu_rd, zo_aload_n, zo_getfield, zo_iload, zo_baload, zo_icmp_ne, zo_iinc, zo_goto, zi_1, zi_m1, zKd_0_1, sh_48, rf_48_1, sh_50, zKn_s, zKn_0, zFind, hv, e50, x1, nI_clamp (n := i) (by omega), zN10, zN01, not_true_eq_false, not_false_eq_true, false_implies, true_implies, implies_true, eq_self, nI_1, nI_40, nI_7, vz0, vz1, zb1_e0, zb1_n0]
      cases ht : (oThere (b.2.2.2.1 i) one two e == b.2.2.2.2 i) with
      | true =>
        have h1 : oThere (b.2.2.2.1 i) one two e = b.2.2.2.2 i := by simpa using ht
        rw [if_pos (by rw [hok, ht]; simp)] at ih
        rw [h1]
        exact ⟨fun g => absurd rfl g, fun _ => ih J hJ hS⟩
      | false =>
        have h1 : ¬ zb1 (oThere (b.2.2.2.1 i) one two e) = zb1 (b.2.2.2.2 i) := by
          intro g
          have : oThere (b.2.2.2.1 i) one two e = b.2.2.2.2 i := by
            cases h2 : oThere (b.2.2.2.1 i) one two e <;> cases h3 : b.2.2.2.2 i <;> rw [h2, h3] at g <;> first | rfl | exact absurd g (by decide)
          rw [this] at ht; simp at ht
        rw [if_neg (by rw [hok, ht]; simp)] at ih
        exact ⟨fun _ => ih J hJ hS, fun g => absurd g h1⟩
end ZB84
