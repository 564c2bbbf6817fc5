/-! ===== THE CLASS: two values joined ===== -/
section ZJ65
variable {w : zP} {Q : Option Value → zMem → Prop} {μ : zMem} {a b x y : Int64}
set_option maxRecDepth 20000 in
theorem sp_absL (hQ : Q (some (.long (jAb x))) μ) : zXM w mJ9_abs_067f4 rJ9_abs_067f4 [.long x] μ Q := by
  unfold zXM
  refine zBlkR (M := mJ9_abs_067f4) (nL := 2) (rt := (Option.some .long)) (blk := bJ9_abs_067f4_0) (T := [(11, bJ9_abs_067f4_11), (12, bJ9_abs_067f4_12)]) 1 hJ9_abs_067f4_0 (zChks_cons hJ9_abs_067f4_11 (zChks_cons hJ9_abs_067f4_12 zChks_nil)) rfl rfl rfl (Nat.le_of_ble_eq_true rfl) (Nat.le_of_ble_eq_true rfl) ?_
  simp only [bJ9_abs_067f4_0, bJ9_abs_067f4_11, bJ9_abs_067f4_12, zRun_cons, zRun_nil, zLk, zSto, zIns, zFil, zf0, zf1, zf2, zf3, List.filter_cons, List.filter_nil, Nat.reduceAdd, Nat.reduceEqDiff, Nat.reduceLT, Nat.reduceLeDiff, Nat.reduceBEq, Nat.reduceBNe, reduceIte, if_true, if_false, Bool.false_and, Bool.true_and, Bool.and_true, Bool.and_false, Bool.not_false, Bool.not_true, Bool.false_eq_true, beq_self_eq_true, BEq.rfl, zCat1, zCat2, zCat3, zKdI, zKdL, zKdR, true_and, and_true, zSI, zSL, zSR, zu_at, and_self, and_false, false_and, lv_args, zKdZ, zKdO, zB01, zB11, Option.toList_none, Option.toList_some, List.nil_append, List.cons_append, true_or, or_true, zRow_rd, zu_rd, zo_lload_n, zo_lconst, zo_lcmp, zo_if_ge, zo_lneg, zo_goto, zo_lreturn, zl_0, zKn_s, zKn_0, zFind, zCat2, lc_ge, zN10, zN01, not_true_eq_false, not_false_eq_true, false_implies, true_implies, implies_true, eq_self, nI_1, nI_40, nI_7, vz0, vz1, zb1_e0, zb1_n0]
  unfold jAb at hQ
  refine ⟨fun h => ?_, fun h => ?_⟩
  · rw [if_neg (Int64.not_lt.mpr h)] at hQ; exact hQ
  · rw [if_pos (Int64.not_le.mp h)] at hQ; exact hQ
set_option maxRecDepth 20000 in
theorem sp_minL (hQ : Q (some (.long (if y < x then y else x))) μ) : zXM w mJ9_min_f86c9 rJ9_min_f86c9 [.long x, .long y] μ Q := by
  unfold zXM
  refine zBlkR (M := mJ9_min_f86c9) (nL := 4) (rt := (Option.some .long)) (blk := bJ9_min_f86c9_0) (T := [(10, bJ9_min_f86c9_10), (11, bJ9_min_f86c9_11)]) 1 hJ9_min_f86c9_0 (zChks_cons hJ9_min_f86c9_10 (zChks_cons hJ9_min_f86c9_11 zChks_nil)) rfl rfl rfl (Nat.le_of_ble_eq_true rfl) (Nat.le_of_ble_eq_true rfl) ?_
  simp only [bJ9_min_f86c9_0, bJ9_min_f86c9_10, bJ9_min_f86c9_11, zRun_cons, zRun_nil, zLk, zSto, zIns, zFil, zf0, zf1, zf2, zf3, List.filter_cons, List.filter_nil, Nat.reduceAdd, Nat.reduceEqDiff, Nat.reduceLT, Nat.reduceLeDiff, Nat.reduceBEq, Nat.reduceBNe, reduceIte, if_true, if_false, Bool.false_and, Bool.true_and, Bool.and_true, Bool.and_false, Bool.not_false, Bool.not_true, Bool.false_eq_true, beq_self_eq_true, BEq.rfl, zCat1, zCat2, zCat3, zKdI, zKdL, zKdR, true_and, and_true, zSI, zSL, zSR, zu_at, and_self, and_false, false_and, lv_args, zKdZ, zKdO, zB01, zB11, Option.toList_none, Option.toList_some, List.nil_append, List.cons_append, true_or, or_true, zRow_rd, zu_rd, zo_lload_n, zo_lcmp, zo_if_gt, zo_goto, zo_lreturn, zKn_s, zKn_0, zFind, zCat2, lc_gt, zN10, zN01, not_true_eq_false, not_false_eq_true, false_implies, true_implies, implies_true, eq_self, nI_1, nI_40, nI_7, vz0, vz1, zb1_e0, zb1_n0]
  refine ⟨fun h => ?_, fun h => ?_⟩
  · rw [if_pos h] at hQ; exact hQ
  · rw [if_neg h] at hQ; exact hQ
set_option maxRecDepth 20000 in
theorem sp_maxL (hQ : Q (some (.long (if x < y then y else x))) μ) : zXM w mJ9_max_f86c9 rJ9_max_f86c9 [.long x, .long y] μ Q := by
  unfold zXM
  refine zBlkR (M := mJ9_max_f86c9) (nL := 4) (rt := (Option.some .long)) (blk := bJ9_max_f86c9_0) (T := [(10, bJ9_max_f86c9_10), (11, bJ9_max_f86c9_11)]) 1 hJ9_max_f86c9_0 (zChks_cons hJ9_max_f86c9_10 (zChks_cons hJ9_max_f86c9_11 zChks_nil)) rfl rfl rfl (Nat.le_of_ble_eq_true rfl) (Nat.le_of_ble_eq_true rfl) ?_
  simp only [bJ9_max_f86c9_0, bJ9_max_f86c9_10, bJ9_max_f86c9_11, zRun_cons, zRun_nil, zLk, zSto, zIns, zFil, zf0, zf1, zf2, zf3, List.filter_cons, List.filter_nil, Nat.reduceAdd, Nat.reduceEqDiff, Nat.reduceLT, Nat.reduceLeDiff, Nat.reduceBEq, Nat.reduceBNe, reduceIte, if_true, if_false, Bool.false_and, Bool.true_and, Bool.and_true, Bool.and_false, Bool.not_false, Bool.not_true, Bool.false_eq_true, beq_self_eq_true, BEq.rfl, zCat1, zCat2, zCat3, zKdI, zKdL, zKdR, true_and, and_true, zSI, zSL, zSR, zu_at, and_self, and_false, false_and, lv_args, zKdZ, zKdO, zB01, zB11, Option.toList_none, Option.toList_some, List.nil_append, List.cons_append, true_or, or_true, zRow_rd, zu_rd, zo_lload_n, zo_lcmp, zo_if_lt, zo_goto, zo_lreturn, zKn_s, zKn_0, zFind, zCat2, lc_lt, zN10, zN01, not_true_eq_false, not_false_eq_true, false_implies, true_implies, implies_true, eq_self, nI_1, nI_40, nI_7, vz0, vz1, zb1_e0, zb1_n0]
  refine ⟨fun h => ?_, fun h => ?_⟩
  · rw [if_pos h] at hQ; exact hQ
  · rw [if_neg h] at hQ; exact hQ
set_option maxRecDepth 20000 in
theorem sp_max {x y : Int32} (hQ : Q (some (.int (if x < y then y else x))) μ) : zXM w mJ9_max_7cf53 rJ9_max_7cf53 [.int x, .int y] μ Q := by
  unfold zXM
  refine zBlkR (M := mJ9_max_7cf53) (nL := 2) (rt := (Option.some .int)) (blk := bJ9_max_7cf53_0) (T := [(9, bJ9_max_7cf53_9), (10, bJ9_max_7cf53_10)]) 1 hJ9_max_7cf53_0 (zChks_cons hJ9_max_7cf53_9 (zChks_cons hJ9_max_7cf53_10 zChks_nil)) rfl rfl rfl (Nat.le_of_ble_eq_true rfl) (Nat.le_of_ble_eq_true rfl) ?_
  simp only [bJ9_max_7cf53_0, bJ9_max_7cf53_9, bJ9_max_7cf53_10, zRun_cons, zRun_nil, zLk, zSto, zIns, zFil, zf0, zf1, zf2, zf3, List.filter_cons, List.filter_nil, Nat.reduceAdd, Nat.reduceEqDiff, Nat.reduceLT, Nat.reduceLeDiff, Nat.reduceBEq, Nat.reduceBNe, reduceIte, if_true, if_false, Bool.false_and, Bool.true_and, Bool.and_true, Bool.and_false, Bool.not_false, Bool.not_true, Bool.false_eq_true, beq_self_eq_true, BEq.rfl, zCat1, zCat2, zCat3, zKdI, zKdL, zKdR, true_and, and_true, zSI, zSL, zSR, zu_at, and_self, and_false, false_and, lv_args, zKdZ, zKdO, zB01, zB11, Option.toList_none, Option.toList_some, List.nil_append, List.cons_append, true_or, or_true, zRow_rd, zu_rd, zo_iload_n, zo_icmp_lt, zo_goto, zo_ireturn, zRt, zKn_s, zKn_0, zFind, zN10, zN01, not_true_eq_false, not_false_eq_true, false_implies, true_implies, implies_true, eq_self, nI_1, nI_40, nI_7, vz0, vz1, zb1_e0, zb1_n0]
  refine ⟨fun h => ?_, fun h => ?_⟩
  · rw [if_pos h] at hQ; exact hQ
  · rw [if_neg h] at hQ; exact hQ
set_option maxRecDepth 20000 in
theorem sp_min {x y : Int32} (hQ : Q (some (.int (if y < x then y else x))) μ) : zXM w mJ9_min_7cf53 rJ9_min_7cf53 [.int x, .int y] μ Q := by
  unfold zXM
  refine zBlkR (M := mJ9_min_7cf53) (nL := 2) (rt := (Option.some .int)) (blk := bJ9_min_7cf53_0) (T := [(9, bJ9_min_7cf53_9), (10, bJ9_min_7cf53_10)]) 1 hJ9_min_7cf53_0 (zChks_cons hJ9_min_7cf53_9 (zChks_cons hJ9_min_7cf53_10 zChks_nil)) rfl rfl rfl (Nat.le_of_ble_eq_true rfl) (Nat.le_of_ble_eq_true rfl) ?_
  simp only [bJ9_min_7cf53_0, bJ9_min_7cf53_9, bJ9_min_7cf53_10, zRun_cons, zRun_nil, zLk, zSto, zIns, zFil, zf0, zf1, zf2, zf3, List.filter_cons, List.filter_nil, Nat.reduceAdd, Nat.reduceEqDiff, Nat.reduceLT, Nat.reduceLeDiff, Nat.reduceBEq, Nat.reduceBNe, reduceIte, if_true, if_false, Bool.false_and, Bool.true_and, Bool.and_true, Bool.and_false, Bool.not_false, Bool.not_true, Bool.false_eq_true, beq_self_eq_true, BEq.rfl, zCat1, zCat2, zCat3, zKdI, zKdL, zKdR, true_and, and_true, zSI, zSL, zSR, zu_at, and_self, and_false, false_and, lv_args, zKdZ, zKdO, zB01, zB11, Option.toList_none, Option.toList_some, List.nil_append, List.cons_append, true_or, or_true, zRow_rd, zu_rd, zo_iload_n, zo_icmp_gt, zo_goto, zo_ireturn, zRt, zKn_s, zKn_0, zFind, zN10, zN01, not_true_eq_false, not_false_eq_true, false_implies, true_implies, implies_true, eq_self, nI_1, nI_40, nI_7, vz0, vz1, zb1_e0, zb1_n0]
  refine ⟨fun h => ?_, fun h => ?_⟩
  · rw [if_pos h] at hQ; exact hQ
  · rw [if_neg h] at hQ; exact hQ
set_option maxRecDepth 20000 in
theorem sp_abs {x : Int32} (hQ : Q (some (.int (if x < 0 then -x else x))) μ) : zXM w mJ9_abs_0f7a4 rJ9_abs_0f7a4 [.int x] μ Q := by
  unfold zXM
  refine zBlkR (M := mJ9_abs_0f7a4) (nL := 1) (rt := (Option.some .int)) (blk := bJ9_abs_0f7a4_0) (T := [(9, bJ9_abs_0f7a4_9), (10, bJ9_abs_0f7a4_10)]) 1 hJ9_abs_0f7a4_0 (zChks_cons hJ9_abs_0f7a4_9 (zChks_cons hJ9_abs_0f7a4_10 zChks_nil)) rfl rfl rfl (Nat.le_of_ble_eq_true rfl) (Nat.le_of_ble_eq_true rfl) ?_
  simp only [bJ9_abs_0f7a4_0, bJ9_abs_0f7a4_9, bJ9_abs_0f7a4_10, zRun_cons, zRun_nil, zLk, zSto, zIns, zFil, zf0, zf1, zf2, zf3, List.filter_cons, List.filter_nil, Nat.reduceAdd, Nat.reduceEqDiff, Nat.reduceLT, Nat.reduceLeDiff, Nat.reduceBEq, Nat.reduceBNe, reduceIte, if_true, if_false, Bool.false_and, Bool.true_and, Bool.and_true, Bool.and_false, Bool.not_false, Bool.not_true, Bool.false_eq_true, beq_self_eq_true, BEq.rfl, zCat1, zCat2, zCat3, zKdI, zKdL, zKdR, true_and, and_true, zSI, zSL, zSR, zu_at, and_self, and_false, false_and, lv_args, zKdZ, zKdO, zB01, zB11, Option.toList_none, Option.toList_some, List.nil_append, List.cons_append, true_or, or_true, zRow_rd, zu_rd, zo_iload_n, zo_if_ge, zo_ineg, zo_goto, zo_ireturn, zRt, zKn_s, zKn_0, zFind, zN10, zN01, not_true_eq_false, not_false_eq_true, false_implies, true_implies, implies_true, eq_self, nI_1, nI_40, nI_7, vz0, vz1, zb1_e0, zb1_n0]
  refine ⟨fun h => ?_, fun h => ?_⟩
  · rw [if_neg (Int32.not_lt.mpr h)] at hQ; exact hQ
  · rw [if_pos (Int32.not_le.mp h)] at hQ; exact hQ
set_option maxRecDepth 20000 in
theorem sp_floorMod {m n : Nat} (hm : m < 2 ^ 31) (h0 : 0 < n) (hn : n < 2 ^ 31) (hQ : Q (some (.int (nI (m % n)))) μ) : zXM w mJ9_floorMod_7cf53 rJ9_floorMod_7cf53 [.int (nI m), .int (nI n)] μ Q := by
  unfold zXM
  have e1 : ¬ nI n = 0 := nI_ne0 h0 hn
  have e2 : nI m - nI m / nI n * nI n = nI (m % n) := pk_rem hm h0 hn
  have e3 : 0 ≤ nI m ^^^ nI n := by
    rw [Int32.le_iff_toInt_le]
    have h1 : (nI m).toBitVec.msb = false := by rw [BitVec.msb_eq_false_iff_two_mul_lt, pk_tn (by omega)]; omega
    have h2 : (nI n).toBitVec.msb = false := by rw [BitVec.msb_eq_false_iff_two_mul_lt, pk_tn (by omega)]; omega
    have h3 : (nI m ^^^ nI n).toBitVec.msb = false := by rw [Int32.toBitVec_xor, BitVec.msb_xor, h1, h2]; rfl
    show (0 : Int) ≤ (nI m ^^^ nI n).toBitVec.toInt
    have := BitVec.toInt_nonneg_of_msb_false h3
    exact this
  refine zBlkR (M := mJ9_floorMod_7cf53) (nL := 3) (rt := (Option.some .int)) (blk := bJ9_floorMod_7cf53_0) (T := [(18, bJ9_floorMod_7cf53_18)]) 1 hJ9_floorMod_7cf53_0 (zChks_cons hJ9_floorMod_7cf53_18 zChks_nil) rfl rfl rfl (Nat.le_of_ble_eq_true rfl) (Nat.le_of_ble_eq_true rfl) ?_
  simp only [bJ9_floorMod_7cf53_0, bJ9_floorMod_7cf53_18, zRun_cons, zRun_nil, zLk, zSto, zIns, zFil, zf0, zf1, zf2, zf3, List.filter_cons, List.filter_nil, Nat.reduceAdd, Nat.reduceEqDiff, Nat.reduceLT, Nat.reduceLeDiff, Nat.reduceBEq, Nat.reduceBNe, reduceIte, if_true, if_false, Bool.false_and, Bool.true_and, Bool.and_true, Bool.and_false, Bool.not_false, Bool.not_true, Bool.false_eq_true, beq_self_eq_true, BEq.rfl, zCat1, zCat2, zCat3, zKdI, zKdL, zKdR, true_and, and_true, zSI, zSL, zSR, zu_at, and_self, and_false, false_and, lv_args, zKdZ, zKdO, zB01, zB11, Option.toList_none, Option.toList_some, List.nil_append, List.cons_append, true_or, or_true, zRow_rd, zu_rd, zo_iload_n, zo_irem, zo_istore_n, zo_ixor, zo_if_ge, zo_if_eq, zo_iadd, zo_ireturn, zRt, zKn_s, zKn_0, zFind, e1, e2, e3, zN10, zN01, not_true_eq_false, not_false_eq_true, false_implies, true_implies, implies_true, eq_self, nI_1, nI_40, nI_7, vz0, vz1, zb1_e0, zb1_n0]
  exact hQ
def jMin : Int64 := -9223372036854775808
/-- within the bound -/
def jB (x : Int64) : Prop := -1000000000000 ≤ x.toInt ∧ x.toInt ≤ 1000000000000
theorem jB_min (h : jB x) : ¬ x = jMin := by
  intro e
  subst e
  have : jMin.toInt = -9223372036854775808 := by decide
  unfold jB at h
  omega
theorem jB_01 (c : Prop) [Decidable c] : jB (if c then 1 else 0) := by
  split
  · exact ⟨by decide, by decide⟩
  · exact ⟨by decide, by decide⟩
theorem jBd_iff {n : Int64} : (1000000000000 < n ∨ n < -1000000000000) ↔ ¬ jB n := by
  unfold jB
  rw [Int64.lt_iff_toInt_lt, Int64.lt_iff_toInt_lt, show (1000000000000 : Int64).toInt = 1000000000000 by decide, show (-1000000000000 : Int64).toInt = -1000000000000 by decide]
  omega
theorem jBd_b {n v : Int64} (h : jBd n = some v) : jB v := by
  unfold jBd at h
  split at h
  · cases h
  · rename_i g
    cases h
    rw [jBd_iff] at g
    exact Classical.not_not.mp g
theorem jAb_toInt (h : jB x) : (jAb x).toInt = (x.toInt.natAbs : Int) := by
  unfold jB at h
  unfold jAb
  have hlt : (x < 0) = (x.toInt < 0) := by rw [Int64.lt_iff_toInt_lt]; rfl
  split
  · rename_i g
    rw [hlt] at g
    rw [Int64.toInt_neg, Int.bmod_eq_of_le (by omega) (by omega)]
    omega
  · rename_i g
    rw [hlt] at g
    omega
theorem jAb_lN (h : jB x) : jAb x = lN x.toInt.natAbs := by
  apply Int64.toInt_inj.mp
  unfold jB at h
  rw [jAb_toInt h, pk_lT (by omega)]
theorem jMu_key (ha : jB a) (hb : jB b) (h0 : ¬ a = 0) : (1000000000000 / jAb a < jAb b) ↔ 1000000000000 < a.toInt.natAbs * b.toInt.natAbs := by
  have ha' := ha
  have hb' := hb
  unfold jB at ha' hb'
  have hp : 0 < a.toInt.natAbs := by
    rcases Nat.eq_zero_or_pos a.toInt.natAbs with h | h
    · exact absurd (Int64.toInt_inj.mp (by rw [Int.natAbs_eq_zero.mp h]; rfl)) h0
    · exact h
  rw [jAb_lN ha, jAb_lN hb, show (1000000000000 : Int64) = lN 1000000000000 from rfl, pk_lDiv (by decide) hp (by omega), pk_lLT (Nat.lt_of_le_of_lt (Nat.div_le_self _ _) (by decide)) (by omega), Nat.div_lt_iff_lt_mul hp, Nat.mul_comm]
theorem jMu_b {v : Int64} (ha : jB a) (hb : jB b) (h : jMu a b = some v) : jB v := by
  have ha' := ha
  have hb' := hb
  unfold jB at ha' hb'
  have key : a.toInt.natAbs * b.toInt.natAbs ≤ 1000000000000 := by
    unfold jMu at h
    split at h
    · cases h
    · rename_i g
      by_cases h0 : a = 0
      · subst h0; simp
      by_cases h1 : b = 0
      · subst h1; simp
      · rw [jMu_key ha hb h0] at g
        have : ¬ 1000000000000 < a.toInt.natAbs * b.toInt.natAbs := fun q => g ⟨h0, h1, q⟩
        omega
  rw [← jMu_some h]
  have e : (a.toInt * b.toInt).natAbs = a.toInt.natAbs * b.toInt.natAbs := Int.natAbs_mul _ _
  unfold jB
  rw [Int64.toInt_mul, Int.bmod_eq_of_le (by omega) (by omega)]
  omega
theorem jDiv_b (ha : jB a) : jB (a / b) := by
  unfold jB at ha ⊢
  have e : (a.toInt.tdiv b.toInt).natAbs ≤ a.toInt.natAbs := by rw [Int.natAbs_tdiv]; exact Nat.div_le_self _ _
  rw [Int64.toInt_div, Int.bmod_eq_of_le (by omega) (by omega)]
  omega
theorem jBin_b {k : Int32} {v : Int64} (ha : jB a) (hb : jB b) (h : jBin k a b = some v) : jB v := by
  unfold jBin at h
  split at h
  · cases h; exact jB_01 _
  · split at h
    · cases h; exact jB_01 _
    · split at h
      · exact jBd_b h
      · split at h
        · exact jBd_b h
        · split at h
          · exact jMu_b ha hb h
          · split at h
            · split at h
              · cases h
              · cases h; exact jDiv_b ha
            · cases h; exact jB_01 _
theorem jAb_gt (h : -4000000000000 ≤ x.toInt ∧ x.toInt ≤ 4000000000000) : (jAb x ≤ 1000000000000) ↔ ¬ (1000000000000 < x ∨ x < -1000000000000) := by
  rw [jBd_iff, Classical.not_not, Int64.le_iff_toInt_le, show (1000000000000 : Int64).toInt = 1000000000000 by decide]
  have hlt : (x < 0) = (x.toInt < 0) := by rw [Int64.lt_iff_toInt_lt]; rfl
  unfold jB jAb
  split
  · rename_i g
    rw [hlt] at g
    rw [Int64.toInt_neg, Int.bmod_eq_of_le (by omega) (by omega)]
    omega
  · rename_i g
    rw [hlt] at g
    omega
set_option maxRecDepth 20000 in
theorem cl_join44 (hQ : Q (some (.long (if a ≠ 0 ∨ b ≠ 0 then 1 else 0))) μ) : zXM w mX8_join rX8_join [.int 44, .long a, .long b] μ Q := by
  unfold zXM
  refine zBlkR (M := mX8_join) (nL := 6) (rt := (Option.some .long)) (blk := bX8_join_0) (T := []) 0 hX8_join_0 zChks_nil rfl rfl rfl (Nat.le_of_ble_eq_true rfl) (Nat.le_of_ble_eq_true rfl) ?_
  simp only [bX8_join_0, zRun_cons, zRun_nil, zLk, zSto, zIns, zFil, zf0, zf1, zf2, zf3, List.filter_cons, List.filter_nil, Nat.reduceAdd, Nat.reduceEqDiff, Nat.reduceLT, Nat.reduceLeDiff, Nat.reduceBEq, Nat.reduceBNe, reduceIte, if_true, if_false, Bool.false_and, Bool.true_and, Bool.and_true, Bool.and_false, Bool.not_false, Bool.not_true, Bool.false_eq_true, beq_self_eq_true, BEq.rfl, zCat1, zCat2, zCat3, zKdI, zKdL, zKdR, true_and, and_true, zSI, zSL, zSR, zu_at, and_self, and_false, false_and, lv_args, zKdZ, zKdO, zB01, zB11, Option.toList_none, Option.toList_some, List.nil_append, List.cons_append, true_or, or_true, zRow_rd, zu_rd, zo_iload_n, zKn_0, zCat2, zN10, zN01, not_true_eq_false, not_false_eq_true, false_implies, true_implies, implies_true, eq_self, nI_1, nI_40, nI_7, vz0, vz1, zb1_e0, zb1_n0]
  refine z_tsw (dt := 370) [(7, 208), (8, 220), (9, 232), (10, 244), (11, 256), (12, 268), (13, 280), (14, 303), (15, 326), (16, 370), (17, 370), (18, 370), (19, 370), (20, 370), (21, 370), (22, 370), (23, 370), (24, 370), (25, 370), (26, 370), (27, 370), (28, 370), (29, 370), (30, 370), (31, 370), (32, 370), (33, 370), (34, 370), (35, 370), (36, 370), (37, 370), (38, 370), (39, 370), (40, 370), (41, 370), (42, 370), (43, 370), (44, 172), (45, 190)] (by decide +kernel : decode cX8_join 1 = .ok (.tableswitch 369 7 45 #[207, 219, 231, 243, 255, 267, 279, 302, 325, 369, 369, 369, 369, 369, 369, 369, 369, 369, 369, 369, 369, 369, 369, 369, 369, 369, 369, 369, 369, 369, 369, 369, 369, 369, 369, 369, 369, 171, 189], 171)) (by decide) (by decide) (by decide) (zSw_of (t := 172) (by decide) ?_)
  refine zBlkR (M := mX8_join) (nL := 6) (rt := (Option.some .long)) (blk := bX8_join_172) (T := [(184, bX8_join_184), (188, bX8_join_188), (189, bX8_join_189)]) 2 hX8_join_172 (zChks_cons hX8_join_184 (zChks_cons hX8_join_188 (zChks_cons hX8_join_189 zChks_nil))) rfl rfl rfl (Nat.le_of_ble_eq_true rfl) (Nat.le_of_ble_eq_true rfl) ?_
  simp only [bX8_join_172, bX8_join_184, bX8_join_188, bX8_join_189, zRun_cons, zRun_nil, zLk, zSto, zIns, zFil, zf0, zf1, zf2, zf3, List.filter_cons, List.filter_nil, Nat.reduceAdd, Nat.reduceEqDiff, Nat.reduceLT, Nat.reduceLeDiff, Nat.reduceBEq, Nat.reduceBNe, reduceIte, if_true, if_false, Bool.false_and, Bool.true_and, Bool.and_true, Bool.and_false, Bool.not_false, Bool.not_true, Bool.false_eq_true, beq_self_eq_true, BEq.rfl, zCat1, zCat2, zCat3, zKdI, zKdL, zKdR, true_and, and_true, zSI, zSL, zSR, zu_at, and_self, and_false, false_and, lv_args, zKdZ, zKdO, zB01, zB11, Option.toList_none, Option.toList_some, List.nil_append, List.cons_append, true_or, or_true, zRow_rd, zu_rd, zo_lload_n, zo_lconst, zo_lcmp, zo_if_ne, zo_if_eq, zo_goto, zo_lreturn, zl_0, zl_1, zKn_s, zKn_0, zFind, zCat2, lc_eq, zN10, zN01, not_true_eq_false, not_false_eq_true, false_implies, true_implies, implies_true, eq_self, nI_1, nI_40, nI_7, vz0, vz1, zb1_e0, zb1_n0]
  by_cases h1 : a = 0 <;> by_cases h2 : b = 0 <;> simp [h1, h2] at hQ ⊢ <;> exact hQ
set_option maxRecDepth 20000 in
theorem cl_join45 (hQ : Q (some (.long (if a ≠ 0 ∧ b ≠ 0 then 1 else 0))) μ) : zXM w mX8_join rX8_join [.int 45, .long a, .long b] μ Q := by
  unfold zXM
  refine zBlkR (M := mX8_join) (nL := 6) (rt := (Option.some .long)) (blk := bX8_join_0) (T := []) 0 hX8_join_0 zChks_nil rfl rfl rfl (Nat.le_of_ble_eq_true rfl) (Nat.le_of_ble_eq_true rfl) ?_
  simp only [bX8_join_0, zRun_cons, zRun_nil, zLk, zSto, zIns, zFil, zf0, zf1, zf2, zf3, List.filter_cons, List.filter_nil, Nat.reduceAdd, Nat.reduceEqDiff, Nat.reduceLT, Nat.reduceLeDiff, Nat.reduceBEq, Nat.reduceBNe, reduceIte, if_true, if_false, Bool.false_and, Bool.true_and, Bool.and_true, Bool.and_false, Bool.not_false, Bool.not_true, Bool.false_eq_true, beq_self_eq_true, BEq.rfl, zCat1, zCat2, zCat3, zKdI, zKdL, zKdR, true_and, and_true, zSI, zSL, zSR, zu_at, and_self, and_false, false_and, lv_args, zKdZ, zKdO, zB01, zB11, Option.toList_none, Option.toList_some, List.nil_append, List.cons_append, true_or, or_true, zRow_rd, zu_rd, zo_iload_n, zKn_0, zCat2, zN10, zN01, not_true_eq_false, not_false_eq_true, false_implies, true_implies, implies_true, eq_self, nI_1, nI_40, nI_7, vz0, vz1, zb1_e0, zb1_n0]
  refine z_tsw (dt := 370) [(7, 208), (8, 220), (9, 232), (10, 244), (11, 256), (12, 268), (13, 280), (14, 303), (15, 326), (16, 370), (17, 370), (18, 370), (19, 370), (20, 370), (21, 370), (22, 370), (23, 370), (24, 370), (25, 370), (26, 370), (27, 370), (28, 370), (29, 370), (30, 370), (31, 370), (32, 370), (33, 370), (34, 370), (35, 370), (36, 370), (37, 370), (38, 370), (39, 370), (40, 370), (41, 370), (42, 370), (43, 370), (44, 172), (45, 190)] (by decide +kernel : decode cX8_join 1 = .ok (.tableswitch 369 7 45 #[207, 219, 231, 243, 255, 267, 279, 302, 325, 369, 369, 369, 369, 369, 369, 369, 369, 369, 369, 369, 369, 369, 369, 369, 369, 369, 369, 369, 369, 369, 369, 369, 369, 369, 369, 369, 369, 171, 189], 171)) (by decide) (by decide) (by decide) (zSw_of (t := 190) (by decide) ?_)
  refine zBlkR (M := mX8_join) (nL := 6) (rt := (Option.some .long)) (blk := bX8_join_190) (T := [(206, bX8_join_206), (207, bX8_join_207)]) 1 hX8_join_190 (zChks_cons hX8_join_206 (zChks_cons hX8_join_207 zChks_nil)) rfl rfl rfl (Nat.le_of_ble_eq_true rfl) (Nat.le_of_ble_eq_true rfl) ?_
  simp only [bX8_join_190, bX8_join_206, bX8_join_207, zRun_cons, zRun_nil, zLk, zSto, zIns, zFil, zf0, zf1, zf2, zf3, List.filter_cons, List.filter_nil, Nat.reduceAdd, Nat.reduceEqDiff, Nat.reduceLT, Nat.reduceLeDiff, Nat.reduceBEq, Nat.reduceBNe, reduceIte, if_true, if_false, Bool.false_and, Bool.true_and, Bool.and_true, Bool.and_false, Bool.not_false, Bool.not_true, Bool.false_eq_true, beq_self_eq_true, BEq.rfl, zCat1, zCat2, zCat3, zKdI, zKdL, zKdR, true_and, and_true, zSI, zSL, zSR, zu_at, and_self, and_false, false_and, lv_args, zKdZ, zKdO, zB01, zB11, Option.toList_none, Option.toList_some, List.nil_append, List.cons_append, true_or, or_true, zRow_rd, zu_rd, zo_lload_n, zo_lconst, zo_lcmp, zo_if_eq, zo_goto, zo_lreturn, zl_0, zl_1, zKn_s, zKn_0, zFind, zCat2, lc_eq, zN10, zN01, not_true_eq_false, not_false_eq_true, false_implies, true_implies, implies_true, eq_self, nI_1, nI_40, nI_7, vz0, vz1, zb1_e0, zb1_n0]
  by_cases h1 : a = 0 <;> by_cases h2 : b = 0 <;> simp [h1, h2] at hQ ⊢ <;> exact hQ
set_option maxRecDepth 20000 in
theorem cl_join7 (hQ : Q (some (.long (if a < b then 1 else 0))) μ) : zXM w mX8_join rX8_join [.int 7, .long a, .long b] μ Q := by
  unfold zXM
  refine zBlkR (M := mX8_join) (nL := 6) (rt := (Option.some .long)) (blk := bX8_join_0) (T := []) 0 hX8_join_0 zChks_nil rfl rfl rfl (Nat.le_of_ble_eq_true rfl) (Nat.le_of_ble_eq_true rfl) ?_
  simp only [bX8_join_0, zRun_cons, zRun_nil, zLk, zSto, zIns, zFil, zf0, zf1, zf2, zf3, List.filter_cons, List.filter_nil, Nat.reduceAdd, Nat.reduceEqDiff, Nat.reduceLT, Nat.reduceLeDiff, Nat.reduceBEq, Nat.reduceBNe, reduceIte, if_true, if_false, Bool.false_and, Bool.true_and, Bool.and_true, Bool.and_false, Bool.not_false, Bool.not_true, Bool.false_eq_true, beq_self_eq_true, BEq.rfl, zCat1, zCat2, zCat3, zKdI, zKdL, zKdR, true_and, and_true, zSI, zSL, zSR, zu_at, and_self, and_false, false_and, lv_args, zKdZ, zKdO, zB01, zB11, Option.toList_none, Option.toList_some, List.nil_append, List.cons_append, true_or, or_true, zRow_rd, zu_rd, zo_iload_n, zKn_0, zCat2, zN10, zN01, not_true_eq_false, not_false_eq_true, false_implies, true_implies, implies_true, eq_self, nI_1, nI_40, nI_7, vz0, vz1, zb1_e0, zb1_n0]
  refine z_tsw (dt := 370) [(7, 208), (8, 220), (9, 232), (10, 244), (11, 256), (12, 268), (13, 280), (14, 303), (15, 326), (16, 370), (17, 370), (18, 370), (19, 370), (20, 370), (21, 370), (22, 370), (23, 370), (24, 370), (25, 370), (26, 370), (27, 370), (28, 370), (29, 370), (30, 370), (31, 370), (32, 370), (33, 370), (34, 370), (35, 370), (36, 370), (37, 370), (38, 370), (39, 370), (40, 370), (41, 370), (42, 370), (43, 370), (44, 172), (45, 190)] (by decide +kernel : decode cX8_join 1 = .ok (.tableswitch 369 7 45 #[207, 219, 231, 243, 255, 267, 279, 302, 325, 369, 369, 369, 369, 369, 369, 369, 369, 369, 369, 369, 369, 369, 369, 369, 369, 369, 369, 369, 369, 369, 369, 369, 369, 369, 369, 369, 369, 171, 189], 171)) (by decide) (by decide) (by decide) (zSw_of (t := 208) (by decide) ?_)
  refine zBlkR (M := mX8_join) (nL := 6) (rt := (Option.some .long)) (blk := bX8_join_208) (T := [(218, bX8_join_218), (219, bX8_join_219)]) 1 hX8_join_208 (zChks_cons hX8_join_218 (zChks_cons hX8_join_219 zChks_nil)) rfl rfl rfl (Nat.le_of_ble_eq_true rfl) (Nat.le_of_ble_eq_true rfl) ?_
  simp only [bX8_join_208, bX8_join_218, bX8_join_219, zRun_cons, zRun_nil, zLk, zSto, zIns, zFil, zf0, zf1, zf2, zf3, List.filter_cons, List.filter_nil, Nat.reduceAdd, Nat.reduceEqDiff, Nat.reduceLT, Nat.reduceLeDiff, Nat.reduceBEq, Nat.reduceBNe, reduceIte, if_true, if_false, Bool.false_and, Bool.true_and, Bool.and_true, Bool.and_false, Bool.not_false, Bool.not_true, Bool.false_eq_true, beq_self_eq_true, BEq.rfl, zCat1, zCat2, zCat3, zKdI, zKdL, zKdR, true_and, and_true, zSI, zSL, zSR, zu_at, and_self, and_false, false_and, lv_args, zKdZ, zKdO, zB01, zB11, Option.toList_none, Option.toList_some, List.nil_append, List.cons_append, true_or, or_true, zRow_rd, zu_rd, zo_lload_n, zo_lcmp, zo_if_ge, zo_lconst, zo_goto, zo_lreturn, zl_1, zl_0, zKn_s, zKn_0, zFind, zCat2, lc_ge, zN10, zN01, not_true_eq_false, not_false_eq_true, false_implies, true_implies, implies_true, eq_self, nI_1, nI_40, nI_7, vz0, vz1, zb1_e0, zb1_n0]
  refine ⟨fun h => ?_, fun h => ?_⟩
  · rw [if_neg (Int64.not_lt.mpr h)] at hQ; exact hQ
  · rw [if_pos (Int64.not_le.mp h)] at hQ; exact hQ
set_option maxRecDepth 20000 in
theorem cl_join8 (hQ : Q (some (.long (if a ≤ b then 1 else 0))) μ) : zXM w mX8_join rX8_join [.int 8, .long a, .long b] μ Q := by
  unfold zXM
  refine zBlkR (M := mX8_join) (nL := 6) (rt := (Option.some .long)) (blk := bX8_join_0) (T := []) 0 hX8_join_0 zChks_nil rfl rfl rfl (Nat.le_of_ble_eq_true rfl) (Nat.le_of_ble_eq_true rfl) ?_
  simp only [bX8_join_0, zRun_cons, zRun_nil, zLk, zSto, zIns, zFil, zf0, zf1, zf2, zf3, List.filter_cons, List.filter_nil, Nat.reduceAdd, Nat.reduceEqDiff, Nat.reduceLT, Nat.reduceLeDiff, Nat.reduceBEq, Nat.reduceBNe, reduceIte, if_true, if_false, Bool.false_and, Bool.true_and, Bool.and_true, Bool.and_false, Bool.not_false, Bool.not_true, Bool.false_eq_true, beq_self_eq_true, BEq.rfl, zCat1, zCat2, zCat3, zKdI, zKdL, zKdR, true_and, and_true, zSI, zSL, zSR, zu_at, and_self, and_false, false_and, lv_args, zKdZ, zKdO, zB01, zB11, Option.toList_none, Option.toList_some, List.nil_append, List.cons_append, true_or, or_true, zRow_rd, zu_rd, zo_iload_n, zKn_0, zCat2, zN10, zN01, not_true_eq_false, not_false_eq_true, false_implies, true_implies, implies_true, eq_self, nI_1, nI_40, nI_7, vz0, vz1, zb1_e0, zb1_n0]
  refine z_tsw (dt := 370) [(7, 208), (8, 220), (9, 232), (10, 244), (11, 256), (12, 268), (13, 280), (14, 303), (15, 326), (16, 370), (17, 370), (18, 370), (19, 370), (20, 370), (21, 370), (22, 370), (23, 370), (24, 370), (25, 370), (26, 370), (27, 370), (28, 370), (29, 370), (30, 370), (31, 370), (32, 370), (33, 370), (34, 370), (35, 370), (36, 370), (37, 370), (38, 370), (39, 370), (40, 370), (41, 370), (42, 370), (43, 370), (44, 172), (45, 190)] (by decide +kernel : decode cX8_join 1 = .ok (.tableswitch 369 7 45 #[207, 219, 231, 243, 255, 267, 279, 302, 325, 369, 369, 369, 369, 369, 369, 369, 369, 369, 369, 369, 369, 369, 369, 369, 369, 369, 369, 369, 369, 369, 369, 369, 369, 369, 369, 369, 369, 171, 189], 171)) (by decide) (by decide) (by decide) (zSw_of (t := 220) (by decide) ?_)
  refine zBlkR (M := mX8_join) (nL := 6) (rt := (Option.some .long)) (blk := bX8_join_220) (T := [(230, bX8_join_230), (231, bX8_join_231)]) 1 hX8_join_220 (zChks_cons hX8_join_230 (zChks_cons hX8_join_231 zChks_nil)) rfl rfl rfl (Nat.le_of_ble_eq_true rfl) (Nat.le_of_ble_eq_true rfl) ?_
  simp only [bX8_join_220, bX8_join_230, bX8_join_231, zRun_cons, zRun_nil, zLk, zSto, zIns, zFil, zf0, zf1, zf2, zf3, List.filter_cons, List.filter_nil, Nat.reduceAdd, Nat.reduceEqDiff, Nat.reduceLT, Nat.reduceLeDiff, Nat.reduceBEq, Nat.reduceBNe, reduceIte, if_true, if_false, Bool.false_and, Bool.true_and, Bool.and_true, Bool.and_false, Bool.not_false, Bool.not_true, Bool.false_eq_true, beq_self_eq_true, BEq.rfl, zCat1, zCat2, zCat3, zKdI, zKdL, zKdR, true_and, and_true, zSI, zSL, zSR, zu_at, and_self, and_false, false_and, lv_args, zKdZ, zKdO, zB01, zB11, Option.toList_none, Option.toList_some, List.nil_append, List.cons_append, true_or, or_true, zRow_rd, zu_rd, zo_lload_n, zo_lcmp, zo_if_gt, zo_lconst, zo_goto, zo_lreturn, zl_1, zl_0, zKn_s, zKn_0, zFind, zCat2, lc_gt, zN10, zN01, not_true_eq_false, not_false_eq_true, false_implies, true_implies, implies_true, eq_self, nI_1, nI_40, nI_7, vz0, vz1, zb1_e0, zb1_n0]
  refine ⟨fun h => ?_, fun h => ?_⟩
  · rw [if_neg (Int64.not_le.mpr h)] at hQ; exact hQ
  · rw [if_pos (Int64.not_lt.mp h)] at hQ; exact hQ
set_option maxRecDepth 20000 in
theorem cl_join9 (hQ : Q (some (.long (if a = b then 1 else 0))) μ) : zXM w mX8_join rX8_join [.int 9, .long a, .long b] μ Q := by
  unfold zXM
  refine zBlkR (M := mX8_join) (nL := 6) (rt := (Option.some .long)) (blk := bX8_join_0) (T := []) 0 hX8_join_0 zChks_nil rfl rfl rfl (Nat.le_of_ble_eq_true rfl) (Nat.le_of_ble_eq_true rfl) ?_
  simp only [bX8_join_0, zRun_cons, zRun_nil, zLk, zSto, zIns, zFil, zf0, zf1, zf2, zf3, List.filter_cons, List.filter_nil, Nat.reduceAdd, Nat.reduceEqDiff, Nat.reduceLT, Nat.reduceLeDiff, Nat.reduceBEq, Nat.reduceBNe, reduceIte, if_true, if_false, Bool.false_and, Bool.true_and, Bool.and_true, Bool.and_false, Bool.not_false, Bool.not_true, Bool.false_eq_true, beq_self_eq_true, BEq.rfl, zCat1, zCat2, zCat3, zKdI, zKdL, zKdR, true_and, and_true, zSI, zSL, zSR, zu_at, and_self, and_false, false_and, lv_args, zKdZ, zKdO, zB01, zB11, Option.toList_none, Option.toList_some, List.nil_append, List.cons_append, true_or, or_true, zRow_rd, zu_rd, zo_iload_n, zKn_0, zCat2, zN10, zN01, not_true_eq_false, not_false_eq_true, false_implies, true_implies, implies_true, eq_self, nI_1, nI_40, nI_7, vz0, vz1, zb1_e0, zb1_n0]
  refine z_tsw (dt := 370) [(7, 208), (8, 220), (9, 232), (10, 244), (11, 256), (12, 268), (13, 280), (14, 303), (15, 326), (16, 370), (17, 370), (18, 370), (19, 370), (20, 370), (21, 370), (22, 370), (23, 370), (24, 370), (25, 370), (26, 370), (27, 370), (28, 370), (29, 370), (30, 370), (31, 370), (32, 370), (33, 370), (34, 370), (35, 370), (36, 370), (37, 370), (38, 370), (39, 370), (40, 370), (41, 370), (42, 370), (43, 370), (44, 172), (45, 190)] (by decide +kernel : decode cX8_join 1 = .ok (.tableswitch 369 7 45 #[207, 219, 231, 243, 255, 267, 279, 302, 325, 369, 369, 369, 369, 369, 369, 369, 369, 369, 369, 369, 369, 369, 369, 369, 369, 369, 369, 369, 369, 369, 369, 369, 369, 369, 369, 369, 369, 171, 189], 171)) (by decide) (by decide) (by decide) (zSw_of (t := 232) (by decide) ?_)
  refine zBlkR (M := mX8_join) (nL := 6) (rt := (Option.some .long)) (blk := bX8_join_232) (T := [(242, bX8_join_242), (243, bX8_join_243)]) 1 hX8_join_232 (zChks_cons hX8_join_242 (zChks_cons hX8_join_243 zChks_nil)) rfl rfl rfl (Nat.le_of_ble_eq_true rfl) (Nat.le_of_ble_eq_true rfl) ?_
  simp only [bX8_join_232, bX8_join_242, bX8_join_243, zRun_cons, zRun_nil, zLk, zSto, zIns, zFil, zf0, zf1, zf2, zf3, List.filter_cons, List.filter_nil, Nat.reduceAdd, Nat.reduceEqDiff, Nat.reduceLT, Nat.reduceLeDiff, Nat.reduceBEq, Nat.reduceBNe, reduceIte, if_true, if_false, Bool.false_and, Bool.true_and, Bool.and_true, Bool.and_false, Bool.not_false, Bool.not_true, Bool.false_eq_true, beq_self_eq_true, BEq.rfl, zCat1, zCat2, zCat3, zKdI, zKdL, zKdR, true_and, and_true, zSI, zSL, zSR, zu_at, and_self, and_false, false_and, lv_args, zKdZ, zKdO, zB01, zB11, Option.toList_none, Option.toList_some, List.nil_append, List.cons_append, true_or, or_true, zRow_rd, zu_rd, zo_lload_n, zo_lcmp, zo_if_ne, zo_lconst, zo_goto, zo_lreturn, zl_1, zl_0, zKn_s, zKn_0, zFind, zCat2, lc_eq, zN10, zN01, not_true_eq_false, not_false_eq_true, false_implies, true_implies, implies_true, eq_self, nI_1, nI_40, nI_7, vz0, vz1, zb1_e0, zb1_n0]
  refine ⟨fun h => ?_, fun h => ?_⟩
  · rw [if_neg h] at hQ; exact hQ
  · rw [if_pos h] at hQ; exact hQ
set_option maxRecDepth 20000 in
theorem cl_join10 (hQ : Q (some (.long (if ¬ a = b then 1 else 0))) μ) : zXM w mX8_join rX8_join [.int 10, .long a, .long b] μ Q := by
  unfold zXM
  refine zBlkR (M := mX8_join) (nL := 6) (rt := (Option.some .long)) (blk := bX8_join_0) (T := []) 0 hX8_join_0 zChks_nil rfl rfl rfl (Nat.le_of_ble_eq_true rfl) (Nat.le_of_ble_eq_true rfl) ?_
  simp only [bX8_join_0, zRun_cons, zRun_nil, zLk, zSto, zIns, zFil, zf0, zf1, zf2, zf3, List.filter_cons, List.filter_nil, Nat.reduceAdd, Nat.reduceEqDiff, Nat.reduceLT, Nat.reduceLeDiff, Nat.reduceBEq, Nat.reduceBNe, reduceIte, if_true, if_false, Bool.false_and, Bool.true_and, Bool.and_true, Bool.and_false, Bool.not_false, Bool.not_true, Bool.false_eq_true, beq_self_eq_true, BEq.rfl, zCat1, zCat2, zCat3, zKdI, zKdL, zKdR, true_and, and_true, zSI, zSL, zSR, zu_at, and_self, and_false, false_and, lv_args, zKdZ, zKdO, zB01, zB11, Option.toList_none, Option.toList_some, List.nil_append, List.cons_append, true_or, or_true, zRow_rd, zu_rd, zo_iload_n, zKn_0, zCat2, zN10, zN01, not_true_eq_false, not_false_eq_true, false_implies, true_implies, implies_true, eq_self, nI_1, nI_40, nI_7, vz0, vz1, zb1_e0, zb1_n0]
  refine z_tsw (dt := 370) [(7, 208), (8, 220), (9, 232), (10, 244), (11, 256), (12, 268), (13, 280), (14, 303), (15, 326), (16, 370), (17, 370), (18, 370), (19, 370), (20, 370), (21, 370), (22, 370), (23, 370), (24, 370), (25, 370), (26, 370), (27, 370), (28, 370), (29, 370), (30, 370), (31, 370), (32, 370), (33, 370), (34, 370), (35, 370), (36, 370), (37, 370), (38, 370), (39, 370), (40, 370), (41, 370), (42, 370), (43, 370), (44, 172), (45, 190)] (by decide +kernel : decode cX8_join 1 = .ok (.tableswitch 369 7 45 #[207, 219, 231, 243, 255, 267, 279, 302, 325, 369, 369, 369, 369, 369, 369, 369, 369, 369, 369, 369, 369, 369, 369, 369, 369, 369, 369, 369, 369, 369, 369, 369, 369, 369, 369, 369, 369, 171, 189], 171)) (by decide) (by decide) (by decide) (zSw_of (t := 244) (by decide) ?_)
  refine zBlkR (M := mX8_join) (nL := 6) (rt := (Option.some .long)) (blk := bX8_join_244) (T := [(254, bX8_join_254), (255, bX8_join_255)]) 1 hX8_join_244 (zChks_cons hX8_join_254 (zChks_cons hX8_join_255 zChks_nil)) rfl rfl rfl (Nat.le_of_ble_eq_true rfl) (Nat.le_of_ble_eq_true rfl) ?_
  simp only [bX8_join_244, bX8_join_254, bX8_join_255, zRun_cons, zRun_nil, zLk, zSto, zIns, zFil, zf0, zf1, zf2, zf3, List.filter_cons, List.filter_nil, Nat.reduceAdd, Nat.reduceEqDiff, Nat.reduceLT, Nat.reduceLeDiff, Nat.reduceBEq, Nat.reduceBNe, reduceIte, if_true, if_false, Bool.false_and, Bool.true_and, Bool.and_true, Bool.and_false, Bool.not_false, Bool.not_true, Bool.false_eq_true, beq_self_eq_true, BEq.rfl, zCat1, zCat2, zCat3, zKdI, zKdL, zKdR, true_and, and_true, zSI, zSL, zSR, zu_at, and_self, and_false, false_and, lv_args, zKdZ, zKdO, zB01, zB11, Option.toList_none, Option.toList_some, List.nil_append, List.cons_append, true_or, or_true, zRow_rd, zu_rd, zo_lload_n, zo_lcmp, zo_if_eq, zo_lconst, zo_goto, zo_lreturn, zl_1, zl_0, zKn_s, zKn_0, zFind, zCat2, lc_eq, zN10, zN01, not_true_eq_false, not_false_eq_true, false_implies, true_implies, implies_true, eq_self, nI_1, nI_40, nI_7, vz0, vz1, zb1_e0, zb1_n0]
  refine ⟨fun h => ?_, fun h => ?_⟩
  · rw [if_neg (fun g => g h)] at hQ; exact hQ
  · rw [if_pos h] at hQ; exact hQ
set_option maxRecDepth 20000 in
theorem cl_join11 (hQ : Q (some (.long (if b ≤ a then 1 else 0))) μ) : zXM w mX8_join rX8_join [.int 11, .long a, .long b] μ Q := by
  unfold zXM
  refine zBlkR (M := mX8_join) (nL := 6) (rt := (Option.some .long)) (blk := bX8_join_0) (T := []) 0 hX8_join_0 zChks_nil rfl rfl rfl (Nat.le_of_ble_eq_true rfl) (Nat.le_of_ble_eq_true rfl) ?_
  simp only [bX8_join_0, zRun_cons, zRun_nil, zLk, zSto, zIns, zFil, zf0, zf1, zf2, zf3, List.filter_cons, List.filter_nil, Nat.reduceAdd, Nat.reduceEqDiff, Nat.reduceLT, Nat.reduceLeDiff, Nat.reduceBEq, Nat.reduceBNe, reduceIte, if_true, if_false, Bool.false_and, Bool.true_and, Bool.and_true, Bool.and_false, Bool.not_false, Bool.not_true, Bool.false_eq_true, beq_self_eq_true, BEq.rfl, zCat1, zCat2, zCat3, zKdI, zKdL, zKdR, true_and, and_true, zSI, zSL, zSR, zu_at, and_self, and_false, false_and, lv_args, zKdZ, zKdO, zB01, zB11, Option.toList_none, Option.toList_some, List.nil_append, List.cons_append, true_or, or_true, zRow_rd, zu_rd, zo_iload_n, zKn_0, zCat2, zN10, zN01, not_true_eq_false, not_false_eq_true, false_implies, true_implies, implies_true, eq_self, nI_1, nI_40, nI_7, vz0, vz1, zb1_e0, zb1_n0]
  refine z_tsw (dt := 370) [(7, 208), (8, 220), (9, 232), (10, 244), (11, 256), (12, 268), (13, 280), (14, 303), (15, 326), (16, 370), (17, 370), (18, 370), (19, 370), (20, 370), (21, 370), (22, 370), (23, 370), (24, 370), (25, 370), (26, 370), (27, 370), (28, 370), (29, 370), (30, 370), (31, 370), (32, 370), (33, 370), (34, 370), (35, 370), (36, 370), (37, 370), (38, 370), (39, 370), (40, 370), (41, 370), (42, 370), (43, 370), (44, 172), (45, 190)] (by decide +kernel : decode cX8_join 1 = .ok (.tableswitch 369 7 45 #[207, 219, 231, 243, 255, 267, 279, 302, 325, 369, 369, 369, 369, 369, 369, 369, 369, 369, 369, 369, 369, 369, 369, 369, 369, 369, 369, 369, 369, 369, 369, 369, 369, 369, 369, 369, 369, 171, 189], 171)) (by decide) (by decide) (by decide) (zSw_of (t := 256) (by decide) ?_)
  refine zBlkR (M := mX8_join) (nL := 6) (rt := (Option.some .long)) (blk := bX8_join_256) (T := [(266, bX8_join_266), (267, bX8_join_267)]) 1 hX8_join_256 (zChks_cons hX8_join_266 (zChks_cons hX8_join_267 zChks_nil)) rfl rfl rfl (Nat.le_of_ble_eq_true rfl) (Nat.le_of_ble_eq_true rfl) ?_
  simp only [bX8_join_256, bX8_join_266, bX8_join_267, zRun_cons, zRun_nil, zLk, zSto, zIns, zFil, zf0, zf1, zf2, zf3, List.filter_cons, List.filter_nil, Nat.reduceAdd, Nat.reduceEqDiff, Nat.reduceLT, Nat.reduceLeDiff, Nat.reduceBEq, Nat.reduceBNe, reduceIte, if_true, if_false, Bool.false_and, Bool.true_and, Bool.and_true, Bool.and_false, Bool.not_false, Bool.not_true, Bool.false_eq_true, beq_self_eq_true, BEq.rfl, zCat1, zCat2, zCat3, zKdI, zKdL, zKdR, true_and, and_true, zSI, zSL, zSR, zu_at, and_self, and_false, false_and, lv_args, zKdZ, zKdO, zB01, zB11, Option.toList_none, Option.toList_some, List.nil_append, List.cons_append, true_or, or_true, zRow_rd, zu_rd, zo_lload_n, zo_lcmp, zo_if_lt, zo_lconst, zo_goto, zo_lreturn, zl_1, zl_0, zKn_s, zKn_0, zFind, zCat2, lc_lt, zN10, zN01, not_true_eq_false, not_false_eq_true, false_implies, true_implies, implies_true, eq_self, nI_1, nI_40, nI_7, vz0, vz1, zb1_e0, zb1_n0]
  refine ⟨fun h => ?_, fun h => ?_⟩
  · rw [if_neg (Int64.not_le.mpr h)] at hQ; exact hQ
  · rw [if_pos (Int64.not_lt.mp h)] at hQ; exact hQ
set_option maxRecDepth 20000 in
theorem cl_join12 (hQ : Q (some (.long (if b < a then 1 else 0))) μ) : zXM w mX8_join rX8_join [.int 12, .long a, .long b] μ Q := by
  unfold zXM
  refine zBlkR (M := mX8_join) (nL := 6) (rt := (Option.some .long)) (blk := bX8_join_0) (T := []) 0 hX8_join_0 zChks_nil rfl rfl rfl (Nat.le_of_ble_eq_true rfl) (Nat.le_of_ble_eq_true rfl) ?_
  simp only [bX8_join_0, zRun_cons, zRun_nil, zLk, zSto, zIns, zFil, zf0, zf1, zf2, zf3, List.filter_cons, List.filter_nil, Nat.reduceAdd, Nat.reduceEqDiff, Nat.reduceLT, Nat.reduceLeDiff, Nat.reduceBEq, Nat.reduceBNe, reduceIte, if_true, if_false, Bool.false_and, Bool.true_and, Bool.and_true, Bool.and_false, Bool.not_false, Bool.not_true, Bool.false_eq_true, beq_self_eq_true, BEq.rfl, zCat1, zCat2, zCat3, zKdI, zKdL, zKdR, true_and, and_true, zSI, zSL, zSR, zu_at, and_self, and_false, false_and, lv_args, zKdZ, zKdO, zB01, zB11, Option.toList_none, Option.toList_some, List.nil_append, List.cons_append, true_or, or_true, zRow_rd, zu_rd, zo_iload_n, zKn_0, zCat2, zN10, zN01, not_true_eq_false, not_false_eq_true, false_implies, true_implies, implies_true, eq_self, nI_1, nI_40, nI_7, vz0, vz1, zb1_e0, zb1_n0]
  refine z_tsw (dt := 370) [(7, 208), (8, 220), (9, 232), (10, 244), (11, 256), (12, 268), (13, 280), (14, 303), (15, 326), (16, 370), (17, 370), (18, 370), (19, 370), (20, 370), (21, 370), (22, 370), (23, 370), (24, 370), (25, 370), (26, 370), (27, 370), (28, 370), (29, 370), (30, 370), (31, 370), (32, 370), (33, 370), (34, 370), (35, 370), (36, 370), (37, 370), (38, 370), (39, 370), (40, 370), (41, 370), (42, 370), (43, 370), (44, 172), (45, 190)] (by decide +kernel : decode cX8_join 1 = .ok (.tableswitch 369 7 45 #[207, 219, 231, 243, 255, 267, 279, 302, 325, 369, 369, 369, 369, 369, 369, 369, 369, 369, 369, 369, 369, 369, 369, 369, 369, 369, 369, 369, 369, 369, 369, 369, 369, 369, 369, 369, 369, 171, 189], 171)) (by decide) (by decide) (by decide) (zSw_of (t := 268) (by decide) ?_)
  refine zBlkR (M := mX8_join) (nL := 6) (rt := (Option.some .long)) (blk := bX8_join_268) (T := [(278, bX8_join_278), (279, bX8_join_279)]) 1 hX8_join_268 (zChks_cons hX8_join_278 (zChks_cons hX8_join_279 zChks_nil)) rfl rfl rfl (Nat.le_of_ble_eq_true rfl) (Nat.le_of_ble_eq_true rfl) ?_
  simp only [bX8_join_268, bX8_join_278, bX8_join_279, zRun_cons, zRun_nil, zLk, zSto, zIns, zFil, zf0, zf1, zf2, zf3, List.filter_cons, List.filter_nil, Nat.reduceAdd, Nat.reduceEqDiff, Nat.reduceLT, Nat.reduceLeDiff, Nat.reduceBEq, Nat.reduceBNe, reduceIte, if_true, if_false, Bool.false_and, Bool.true_and, Bool.and_true, Bool.and_false, Bool.not_false, Bool.not_true, Bool.false_eq_true, beq_self_eq_true, BEq.rfl, zCat1, zCat2, zCat3, zKdI, zKdL, zKdR, true_and, and_true, zSI, zSL, zSR, zu_at, and_self, and_false, false_and, lv_args, zKdZ, zKdO, zB01, zB11, Option.toList_none, Option.toList_some, List.nil_append, List.cons_append, true_or, or_true, zRow_rd, zu_rd, zo_lload_n, zo_lcmp, zo_if_le, zo_lconst, zo_goto, zo_lreturn, zl_1, zl_0, zKn_s, zKn_0, zFind, zCat2, lc_le, zN10, zN01, not_true_eq_false, not_false_eq_true, false_implies, true_implies, implies_true, eq_self, nI_1, nI_40, nI_7, vz0, vz1, zb1_e0, zb1_n0]
  refine ⟨fun h => ?_, fun h => ?_⟩
  · rw [if_neg (Int64.not_lt.mpr h)] at hQ; exact hQ
  · rw [if_pos (Int64.not_le.mp h)] at hQ; exact hQ
set_option maxRecDepth 20000 in
theorem cl_join13 (ha : jB a) (hb : jB b) (hQ : Q (some (.long ((jBd (a + b)).getD jMin))) μ) : zXM w mX8_join rX8_join [.int 13, .long a, .long b] μ Q := by
  unfold zXM
  refine zBlkR (M := mX8_join) (nL := 6) (rt := (Option.some .long)) (blk := bX8_join_0) (T := []) 0 hX8_join_0 zChks_nil rfl rfl rfl (Nat.le_of_ble_eq_true rfl) (Nat.le_of_ble_eq_true rfl) ?_
  simp only [bX8_join_0, zRun_cons, zRun_nil, zLk, zSto, zIns, zFil, zf0, zf1, zf2, zf3, List.filter_cons, List.filter_nil, Nat.reduceAdd, Nat.reduceEqDiff, Nat.reduceLT, Nat.reduceLeDiff, Nat.reduceBEq, Nat.reduceBNe, reduceIte, if_true, if_false, Bool.false_and, Bool.true_and, Bool.and_true, Bool.and_false, Bool.not_false, Bool.not_true, Bool.false_eq_true, beq_self_eq_true, BEq.rfl, zCat1, zCat2, zCat3, zKdI, zKdL, zKdR, true_and, and_true, zSI, zSL, zSR, zu_at, and_self, and_false, false_and, lv_args, zKdZ, zKdO, zB01, zB11, Option.toList_none, Option.toList_some, List.nil_append, List.cons_append, true_or, or_true, zRow_rd, zu_rd, zo_iload_n, zKn_0, zCat2, zN10, zN01, not_true_eq_false, not_false_eq_true, false_implies, true_implies, implies_true, eq_self, nI_1, nI_40, nI_7, vz0, vz1, zb1_e0, zb1_n0]
  refine z_tsw (dt := 370) [(7, 208), (8, 220), (9, 232), (10, 244), (11, 256), (12, 268), (13, 280), (14, 303), (15, 326), (16, 370), (17, 370), (18, 370), (19, 370), (20, 370), (21, 370), (22, 370), (23, 370), (24, 370), (25, 370), (26, 370), (27, 370), (28, 370), (29, 370), (30, 370), (31, 370), (32, 370), (33, 370), (34, 370), (35, 370), (36, 370), (37, 370), (38, 370), (39, 370), (40, 370), (41, 370), (42, 370), (43, 370), (44, 172), (45, 190)] (by decide +kernel : decode cX8_join 1 = .ok (.tableswitch 369 7 45 #[207, 219, 231, 243, 255, 267, 279, 302, 325, 369, 369, 369, 369, 369, 369, 369, 369, 369, 369, 369, 369, 369, 369, 369, 369, 369, 369, 369, 369, 369, 369, 369, 369, 369, 369, 369, 369, 171, 189], 171)) (by decide) (by decide) (by decide) (zSw_of (t := 280) (by decide) ?_)
  refine zBlkR (M := mX8_join) (nL := 6) (rt := (Option.some .long)) (blk := bX8_join_280) (T := []) 0 hX8_join_280 zChks_nil rfl rfl rfl (Nat.le_of_ble_eq_true rfl) (Nat.le_of_ble_eq_true rfl) ?_
  simp only [bX8_join_280, zRun_cons, zRun_nil, zLk, zSto, zIns, zFil, zf0, zf1, zf2, zf3, List.filter_cons, List.filter_nil, Nat.reduceAdd, Nat.reduceEqDiff, Nat.reduceLT, Nat.reduceLeDiff, Nat.reduceBEq, Nat.reduceBNe, reduceIte, if_true, if_false, Bool.false_and, Bool.true_and, Bool.and_true, Bool.and_false, Bool.not_false, Bool.not_true, Bool.false_eq_true, beq_self_eq_true, BEq.rfl, zCat1, zCat2, zCat3, zKdI, zKdL, zKdR, true_and, and_true, zSI, zSL, zSR, zu_at, and_self, and_false, false_and, lv_args, zKdZ, zKdO, zB01, zB11, Option.toList_none, Option.toList_some, List.nil_append, List.cons_append, true_or, or_true, zRow_rd, zu_rd, zo_lload_n, zo_ladd, zKn_0, zCat2, zN10, zN01, not_true_eq_false, not_false_eq_true, false_implies, true_implies, implies_true, eq_self, nI_1, nI_40, nI_7, vz0, vz1, zb1_e0, zb1_n0]
  refine z_cS0 (M' := mJ9_abs_067f4) (R' := rJ9_abs_067f4) [.long (a + b)] [] eJ9_abs_067f4 k8_245 (by decide +kernel : decode cX8_join 283 = .ok (.invokestatic 245, 3)) (Nat.le_of_ble_eq_true rfl) ⟨Nat.le_of_ble_eq_true rfl, Nat.le_of_ble_eq_true rfl, Nat.le_of_ble_eq_true rfl, Nat.le_of_ble_eq_true rfl, Nat.le_of_ble_eq_true rfl⟩ rfl rfl rfl ?_
  refine sp_absL ?_
  refine zBlkR (M := mX8_join) (nL := 6) (rt := (Option.some .long)) (blk := bX8_join_286) (T := [(299, bX8_join_299), (302, bX8_join_302)]) 1 hX8_join_286 (zChks_cons hX8_join_299 (zChks_cons hX8_join_302 zChks_nil)) rfl rfl rfl (Nat.le_of_ble_eq_true rfl) (Nat.le_of_ble_eq_true rfl) ?_
  simp only [bX8_join_286, bX8_join_299, bX8_join_302, zRun_cons, zRun_nil, zLk, zSto, zIns, zFil, zf0, zf1, zf2, zf3, List.filter_cons, List.filter_nil, Nat.reduceAdd, Nat.reduceEqDiff, Nat.reduceLT, Nat.reduceLeDiff, Nat.reduceBEq, Nat.reduceBNe, reduceIte, if_true, if_false, Bool.false_and, Bool.true_and, Bool.and_true, Bool.and_false, Bool.not_false, Bool.not_true, Bool.false_eq_true, beq_self_eq_true, BEq.rfl, zCat1, zCat2, zCat3, zKdI, zKdL, zKdR, true_and, and_true, zSI, zSL, zSR, zu_at, and_self, and_false, false_and, lv_args, zKdZ, zKdO, zB01, zB11, Option.toList_none, Option.toList_some, List.nil_append, List.cons_append, true_or, or_true, zRow_rd, zu_rd, zo_ldc2_w, zo_lcmp, zo_if_le, zo_goto, zo_lload_n, zo_ladd, zo_lreturn, zL_1000000000000, zL_m9223372036854775808, zKn_s, zKn_0, zFind, zCat2, lc_le, zN10, zN01, not_true_eq_false, not_false_eq_true, false_implies, true_implies, implies_true, eq_self, nI_1, nI_40, nI_7, vz0, vz1, zb1_e0, zb1_n0]
  have hx : -4000000000000 ≤ (a + b).toInt ∧ (a + b).toInt ≤ 4000000000000 := by
    unfold jB at ha hb
    rw [Int64.toInt_add, Int.bmod_eq_of_le (by omega) (by omega)]
    omega
  unfold jBd at hQ
  refine ⟨fun h => ?_, fun h => ?_⟩
  · rw [if_neg ((jAb_gt hx).mp h)] at hQ; exact hQ
  · rw [if_pos (Classical.not_not.mp (fun g => h ((jAb_gt hx).mpr g)))] at hQ; exact hQ
set_option maxRecDepth 20000 in
theorem cl_join14 (ha : jB a) (hb : jB b) (hQ : Q (some (.long ((jBd (a - b)).getD jMin))) μ) : zXM w mX8_join rX8_join [.int 14, .long a, .long b] μ Q := by
  unfold zXM
  refine zBlkR (M := mX8_join) (nL := 6) (rt := (Option.some .long)) (blk := bX8_join_0) (T := []) 0 hX8_join_0 zChks_nil rfl rfl rfl (Nat.le_of_ble_eq_true rfl) (Nat.le_of_ble_eq_true rfl) ?_
  simp only [bX8_join_0, zRun_cons, zRun_nil, zLk, zSto, zIns, zFil, zf0, zf1, zf2, zf3, List.filter_cons, List.filter_nil, Nat.reduceAdd, Nat.reduceEqDiff, Nat.reduceLT, Nat.reduceLeDiff, Nat.reduceBEq, Nat.reduceBNe, reduceIte, if_true, if_false, Bool.false_and, Bool.true_and, Bool.and_true, Bool.and_false, Bool.not_false, Bool.not_true, Bool.false_eq_true, beq_self_eq_true, BEq.rfl, zCat1, zCat2, zCat3, zKdI, zKdL, zKdR, true_and, and_true, zSI, zSL, zSR, zu_at, and_self, and_false, false_and, lv_args, zKdZ, zKdO, zB01, zB11, Option.toList_none, Option.toList_some, List.nil_append, List.cons_append, true_or, or_true, zRow_rd, zu_rd, zo_iload_n, zKn_0, zCat2, zN10, zN01, not_true_eq_false, not_false_eq_true, false_implies, true_implies, implies_true, eq_self, nI_1, nI_40, nI_7, vz0, vz1, zb1_e0, zb1_n0]
  refine z_tsw (dt := 370) [(7, 208), (8, 220), (9, 232), (10, 244), (11, 256), (12, 268), (13, 280), (14, 303), (15, 326), (16, 370), (17, 370), (18, 370), (19, 370), (20, 370), (21, 370), (22, 370), (23, 370), (24, 370), (25, 370), (26, 370), (27, 370), (28, 370), (29, 370), (30, 370), (31, 370), (32, 370), (33, 370), (34, 370), (35, 370), (36, 370), (37, 370), (38, 370), (39, 370), (40, 370), (41, 370), (42, 370), (43, 370), (44, 172), (45, 190)] (by decide +kernel : decode cX8_join 1 = .ok (.tableswitch 369 7 45 #[207, 219, 231, 243, 255, 267, 279, 302, 325, 369, 369, 369, 369, 369, 369, 369, 369, 369, 369, 369, 369, 369, 369, 369, 369, 369, 369, 369, 369, 369, 369, 369, 369, 369, 369, 369, 369, 171, 189], 171)) (by decide) (by decide) (by decide) (zSw_of (t := 303) (by decide) ?_)
  refine zBlkR (M := mX8_join) (nL := 6) (rt := (Option.some .long)) (blk := bX8_join_303) (T := []) 0 hX8_join_303 zChks_nil rfl rfl rfl (Nat.le_of_ble_eq_true rfl) (Nat.le_of_ble_eq_true rfl) ?_
  simp only [bX8_join_303, zRun_cons, zRun_nil, zLk, zSto, zIns, zFil, zf0, zf1, zf2, zf3, List.filter_cons, List.filter_nil, Nat.reduceAdd, Nat.reduceEqDiff, Nat.reduceLT, Nat.reduceLeDiff, Nat.reduceBEq, Nat.reduceBNe, reduceIte, if_true, if_false, Bool.false_and, Bool.true_and, Bool.and_true, Bool.and_false, Bool.not_false, Bool.not_true, Bool.false_eq_true, beq_self_eq_true, BEq.rfl, zCat1, zCat2, zCat3, zKdI, zKdL, zKdR, true_and, and_true, zSI, zSL, zSR, zu_at, and_self, and_false, false_and, lv_args, zKdZ, zKdO, zB01, zB11, Option.toList_none, Option.toList_some, List.nil_append, List.cons_append, true_or, or_true, zRow_rd, zu_rd, zo_lload_n, zo_lsub, zKn_0, zCat2, zN10, zN01, not_true_eq_false, not_false_eq_true, false_implies, true_implies, implies_true, eq_self, nI_1, nI_40, nI_7, vz0, vz1, zb1_e0, zb1_n0]
  refine z_cS0 (M' := mJ9_abs_067f4) (R' := rJ9_abs_067f4) [.long (a - b)] [] eJ9_abs_067f4 k8_245 (by decide +kernel : decode cX8_join 306 = .ok (.invokestatic 245, 3)) (Nat.le_of_ble_eq_true rfl) ⟨Nat.le_of_ble_eq_true rfl, Nat.le_of_ble_eq_true rfl, Nat.le_of_ble_eq_true rfl, Nat.le_of_ble_eq_true rfl, Nat.le_of_ble_eq_true rfl⟩ rfl rfl rfl ?_
  refine sp_absL ?_
  refine zBlkR (M := mX8_join) (nL := 6) (rt := (Option.some .long)) (blk := bX8_join_309) (T := [(322, bX8_join_322), (325, bX8_join_325)]) 1 hX8_join_309 (zChks_cons hX8_join_322 (zChks_cons hX8_join_325 zChks_nil)) rfl rfl rfl (Nat.le_of_ble_eq_true rfl) (Nat.le_of_ble_eq_true rfl) ?_
  simp only [bX8_join_309, bX8_join_322, bX8_join_325, zRun_cons, zRun_nil, zLk, zSto, zIns, zFil, zf0, zf1, zf2, zf3, List.filter_cons, List.filter_nil, Nat.reduceAdd, Nat.reduceEqDiff, Nat.reduceLT, Nat.reduceLeDiff, Nat.reduceBEq, Nat.reduceBNe, reduceIte, if_true, if_false, Bool.false_and, Bool.true_and, Bool.and_true, Bool.and_false, Bool.not_false, Bool.not_true, Bool.false_eq_true, beq_self_eq_true, BEq.rfl, zCat1, zCat2, zCat3, zKdI, zKdL, zKdR, true_and, and_true, zSI, zSL, zSR, zu_at, and_self, and_false, false_and, lv_args, zKdZ, zKdO, zB01, zB11, Option.toList_none, Option.toList_some, List.nil_append, List.cons_append, true_or, or_true, zRow_rd, zu_rd, zo_ldc2_w, zo_lcmp, zo_if_le, zo_goto, zo_lload_n, zo_lsub, zo_lreturn, zL_1000000000000, zL_m9223372036854775808, zKn_s, zKn_0, zFind, zCat2, lc_le, zN10, zN01, not_true_eq_false, not_false_eq_true, false_implies, true_implies, implies_true, eq_self, nI_1, nI_40, nI_7, vz0, vz1, zb1_e0, zb1_n0]
  have hx : -4000000000000 ≤ (a - b).toInt ∧ (a - b).toInt ≤ 4000000000000 := by
    unfold jB at ha hb
    rw [Int64.toInt_sub, Int.bmod_eq_of_le (by omega) (by omega)]
    omega
  unfold jBd at hQ
  refine ⟨fun h => ?_, fun h => ?_⟩
  · rw [if_neg ((jAb_gt hx).mp h)] at hQ; exact hQ
  · rw [if_pos (Classical.not_not.mp (fun g => h ((jAb_gt hx).mpr g)))] at hQ; exact hQ
set_option maxRecDepth 20000 in
theorem cl_join15 (ha : jB a) (hb : jB b) (hQ : Q (some (.long ((jMu a b).getD jMin))) μ) : zXM w mX8_join rX8_join [.int 15, .long a, .long b] μ Q := by
  unfold zXM
  refine zBlkR (M := mX8_join) (nL := 6) (rt := (Option.some .long)) (blk := bX8_join_0) (T := []) 0 hX8_join_0 zChks_nil rfl rfl rfl (Nat.le_of_ble_eq_true rfl) (Nat.le_of_ble_eq_true rfl) ?_
  simp only [bX8_join_0, zRun_cons, zRun_nil, zLk, zSto, zIns, zFil, zf0, zf1, zf2, zf3, List.filter_cons, List.filter_nil, Nat.reduceAdd, Nat.reduceEqDiff, Nat.reduceLT, Nat.reduceLeDiff, Nat.reduceBEq, Nat.reduceBNe, reduceIte, if_true, if_false, Bool.false_and, Bool.true_and, Bool.and_true, Bool.and_false, Bool.not_false, Bool.not_true, Bool.false_eq_true, beq_self_eq_true, BEq.rfl, zCat1, zCat2, zCat3, zKdI, zKdL, zKdR, true_and, and_true, zSI, zSL, zSR, zu_at, and_self, and_false, false_and, lv_args, zKdZ, zKdO, zB01, zB11, Option.toList_none, Option.toList_some, List.nil_append, List.cons_append, true_or, or_true, zRow_rd, zu_rd, zo_iload_n, zKn_0, zCat2, zN10, zN01, not_true_eq_false, not_false_eq_true, false_implies, true_implies, implies_true, eq_self, nI_1, nI_40, nI_7, vz0, vz1, zb1_e0, zb1_n0]
  refine z_tsw (dt := 370) [(7, 208), (8, 220), (9, 232), (10, 244), (11, 256), (12, 268), (13, 280), (14, 303), (15, 326), (16, 370), (17, 370), (18, 370), (19, 370), (20, 370), (21, 370), (22, 370), (23, 370), (24, 370), (25, 370), (26, 370), (27, 370), (28, 370), (29, 370), (30, 370), (31, 370), (32, 370), (33, 370), (34, 370), (35, 370), (36, 370), (37, 370), (38, 370), (39, 370), (40, 370), (41, 370), (42, 370), (43, 370), (44, 172), (45, 190)] (by decide +kernel : decode cX8_join 1 = .ok (.tableswitch 369 7 45 #[207, 219, 231, 243, 255, 267, 279, 302, 325, 369, 369, 369, 369, 369, 369, 369, 369, 369, 369, 369, 369, 369, 369, 369, 369, 369, 369, 369, 369, 369, 369, 369, 369, 369, 369, 369, 369, 171, 189], 171)) (by decide) (by decide) (by decide) (zSw_of (t := 326) (by decide) ?_)
  refine zBlkR (M := mX8_join) (nL := 6) (rt := (Option.some .long)) (blk := bX8_join_326) (T := [(352, bX8_join_352), (366, bX8_join_366), (369, bX8_join_369)]) 2 hX8_join_326 (zChks_cons hX8_join_352 (zChks_cons hX8_join_366 (zChks_cons hX8_join_369 zChks_nil))) rfl rfl rfl (Nat.le_of_ble_eq_true rfl) (Nat.le_of_ble_eq_true rfl) ?_
  simp only [bX8_join_326, bX8_join_352, bX8_join_366, bX8_join_369, zRun_cons, zRun_nil, zLk, zSto, zIns, zFil, zf0, zf1, zf2, zf3, List.filter_cons, List.filter_nil, Nat.reduceAdd, Nat.reduceEqDiff, Nat.reduceLT, Nat.reduceLeDiff, Nat.reduceBEq, Nat.reduceBNe, reduceIte, if_true, if_false, Bool.false_and, Bool.true_and, Bool.and_true, Bool.and_false, Bool.not_false, Bool.not_true, Bool.false_eq_true, beq_self_eq_true, BEq.rfl, zCat1, zCat2, zCat3, zKdI, zKdL, zKdR, true_and, and_true, zSI, zSL, zSR, zu_at, and_self, and_false, false_and, lv_args, zKdZ, zKdO, zB01, zB11, Option.toList_none, Option.toList_some, List.nil_append, List.cons_append, true_or, or_true, zRow_rd, zu_rd, zo_lload_n, zo_lconst, zo_lcmp, zo_if_eq, zo_iconst, zo_istore, zo_iload, zo_ldc2_w, zo_goto, zo_lmul, zo_lreturn, zl_0, zi_0, zL_m9223372036854775808, zcl_0, zKn_s, zKn_0, zFind, zCat2, lc_eq, zN10, zN01, not_true_eq_false, not_false_eq_true, false_implies, true_implies, implies_true, eq_self, nI_1, nI_40, nI_7, vz0, vz1, zb1_e0, zb1_n0]
  refine ⟨fun h => ?_, fun h => ?_⟩
  · rw [jMu, if_neg (fun g => g.1 h)] at hQ
    exact hQ
  · refine z_cS0 (M' := mJ9_abs_067f4) (R' := rJ9_abs_067f4) [.long b] [] eJ9_abs_067f4 k8_245 (by decide +kernel : decode cX8_join 333 = .ok (.invokestatic 245, 3)) (Nat.le_of_ble_eq_true rfl) ⟨Nat.le_of_ble_eq_true rfl, Nat.le_of_ble_eq_true rfl, Nat.le_of_ble_eq_true rfl, Nat.le_of_ble_eq_true rfl, Nat.le_of_ble_eq_true rfl⟩ rfl rfl rfl ?_
    refine sp_absL ?_
    refine zBlkR (M := mX8_join) (nL := 6) (rt := (Option.some .long)) (blk := bX8_join_336) (T := []) 0 hX8_join_336 zChks_nil rfl rfl rfl (Nat.le_of_ble_eq_true rfl) (Nat.le_of_ble_eq_true rfl) ?_
    simp only [bX8_join_336, zRun_cons, zRun_nil, zLk, zSto, zIns, zFil, zf0, zf1, zf2, zf3, List.filter_cons, List.filter_nil, Nat.reduceAdd, Nat.reduceEqDiff, Nat.reduceLT, Nat.reduceLeDiff, Nat.reduceBEq, Nat.reduceBNe, reduceIte, if_true, if_false, Bool.false_and, Bool.true_and, Bool.and_true, Bool.and_false, Bool.not_false, Bool.not_true, Bool.false_eq_true, beq_self_eq_true, BEq.rfl, zCat1, zCat2, zCat3, zKdI, zKdL, zKdR, true_and, and_true, zSI, zSL, zSR, zu_at, and_self, and_false, false_and, lv_args, zKdZ, zKdO, zB01, zB11, Option.toList_none, Option.toList_some, List.nil_append, List.cons_append, true_or, or_true, zRow_rd, zu_rd, zo_ldc2_w, zo_lload_n, zL_1000000000000, zKn_0, zCat2, zN10, zN01, not_true_eq_false, not_false_eq_true, false_implies, true_implies, implies_true, eq_self, nI_1, nI_40, nI_7, vz0, vz1, zb1_e0, zb1_n0]
    refine z_cS0 (M' := mJ9_abs_067f4) (R' := rJ9_abs_067f4) [.long a] [.long 1000000000000, .long (jAb b)] eJ9_abs_067f4 k8_245 (by decide +kernel : decode cX8_join 340 = .ok (.invokestatic 245, 3)) (Nat.le_of_ble_eq_true rfl) ⟨Nat.le_of_ble_eq_true rfl, Nat.le_of_ble_eq_true rfl, Nat.le_of_ble_eq_true rfl, Nat.le_of_ble_eq_true rfl, Nat.le_of_ble_eq_true rfl⟩ rfl rfl rfl ?_
    refine sp_absL ?_
    have hz : ¬ jAb a = 0 := by
      intro e
      have := jAb_toInt ha
      rw [e] at this
      have h2 : a.toInt = 0 := by simpa using this.symm
      exact h (Int64.toInt_inj.mp (by rw [h2]; rfl))
    refine zBlkR (M := mX8_join) (nL := 6) (rt := (Option.some .long)) (blk := bX8_join_343) (T := [(352, bX8_join_352), (353, bX8_join_353), (366, bX8_join_366), (369, bX8_join_369)]) 2 hX8_join_343 (zChks_cons hX8_join_352 (zChks_cons hX8_join_353 (zChks_cons hX8_join_366 (zChks_cons hX8_join_369 zChks_nil)))) rfl rfl rfl (Nat.le_of_ble_eq_true rfl) (Nat.le_of_ble_eq_true rfl) ?_
    simp only [bX8_join_343, bX8_join_352, bX8_join_353, bX8_join_366, bX8_join_369, zRun_cons, zRun_nil, zLk, zSto, zIns, zFil, zf0, zf1, zf2, zf3, List.filter_cons, List.filter_nil, Nat.reduceAdd, Nat.reduceEqDiff, Nat.reduceLT, Nat.reduceLeDiff, Nat.reduceBEq, Nat.reduceBNe, reduceIte, if_true, if_false, Bool.false_and, Bool.true_and, Bool.and_true, Bool.and_false, Bool.not_false, Bool.not_true, Bool.false_eq_true, beq_self_eq_true, BEq.rfl, zCat1, zCat2, zCat3, zKdI, zKdL, zKdR, true_and, and_true, zSI, zSL, zSR, zu_at, and_self, and_false, false_and, lv_args, zKdZ, zKdO, zB01, zB11, Option.toList_none, Option.toList_some, List.nil_append, List.cons_append, true_or, or_true, zRow_rd, zu_rd, zo_ldiv, zo_lcmp, zo_if_le, zo_iconst, zo_goto, zo_istore, zo_iload, zo_if_eq, zo_ldc2_w, zo_lload_n, zo_lmul, zo_lreturn, zi_1, zi_0, zL_m9223372036854775808, zcl_1, zcl_0, zKn_s, zKn_0, zFind, zCat2, lc_le, hz, zN10, zN01, not_true_eq_false, not_false_eq_true, false_implies, true_implies, implies_true, eq_self, nI_1, nI_40, nI_7, vz0, vz1, zb1_e0, zb1_n0]
    have hb0 : ∀ g : b = 0, ¬ (1000000000000 / jAb a < jAb b) := by
      intro g
      rw [jMu_key ha hb h, g]
      simp
    unfold jMu at hQ
    refine ⟨fun g => ?_, fun g => ?_⟩
    · rw [if_neg (fun q => absurd q.2.2 (Int64.not_lt.mpr g))] at hQ; exact hQ
    · rw [if_pos ⟨h, fun q => hb0 q (Int64.not_le.mp g), Int64.not_le.mp g⟩] at hQ; exact hQ
set_option maxRecDepth 20000 in
theorem cl_join16 (hQ : Q (some (.long ((if b = 0 then none else some (a / b) : Option Int64).getD jMin))) μ) : zXM w mX8_join rX8_join [.int 16, .long a, .long b] μ Q := by
  unfold zXM
  refine zBlkR (M := mX8_join) (nL := 6) (rt := (Option.some .long)) (blk := bX8_join_0) (T := []) 0 hX8_join_0 zChks_nil rfl rfl rfl (Nat.le_of_ble_eq_true rfl) (Nat.le_of_ble_eq_true rfl) ?_
  simp only [bX8_join_0, zRun_cons, zRun_nil, zLk, zSto, zIns, zFil, zf0, zf1, zf2, zf3, List.filter_cons, List.filter_nil, Nat.reduceAdd, Nat.reduceEqDiff, Nat.reduceLT, Nat.reduceLeDiff, Nat.reduceBEq, Nat.reduceBNe, reduceIte, if_true, if_false, Bool.false_and, Bool.true_and, Bool.and_true, Bool.and_false, Bool.not_false, Bool.not_true, Bool.false_eq_true, beq_self_eq_true, BEq.rfl, zCat1, zCat2, zCat3, zKdI, zKdL, zKdR, true_and, and_true, zSI, zSL, zSR, zu_at, and_self, and_false, false_and, lv_args, zKdZ, zKdO, zB01, zB11, Option.toList_none, Option.toList_some, List.nil_append, List.cons_append, true_or, or_true, zRow_rd, zu_rd, zo_iload_n, zKn_0, zCat2, zN10, zN01, not_true_eq_false, not_false_eq_true, false_implies, true_implies, implies_true, eq_self, nI_1, nI_40, nI_7, vz0, vz1, zb1_e0, zb1_n0]
  refine z_tsw (dt := 370) [(7, 208), (8, 220), (9, 232), (10, 244), (11, 256), (12, 268), (13, 280), (14, 303), (15, 326), (16, 370), (17, 370), (18, 370), (19, 370), (20, 370), (21, 370), (22, 370), (23, 370), (24, 370), (25, 370), (26, 370), (27, 370), (28, 370), (29, 370), (30, 370), (31, 370), (32, 370), (33, 370), (34, 370), (35, 370), (36, 370), (37, 370), (38, 370), (39, 370), (40, 370), (41, 370), (42, 370), (43, 370), (44, 172), (45, 190)] (by decide +kernel : decode cX8_join 1 = .ok (.tableswitch 369 7 45 #[207, 219, 231, 243, 255, 267, 279, 302, 325, 369, 369, 369, 369, 369, 369, 369, 369, 369, 369, 369, 369, 369, 369, 369, 369, 369, 369, 369, 369, 369, 369, 369, 369, 369, 369, 369, 369, 171, 189], 171)) (by decide) (by decide) (by decide) (zSw_of (t := 370) (by decide) ?_)
  refine zBlkR (M := mX8_join) (nL := 6) (rt := (Option.some .long)) (blk := bX8_join_370) (T := [(382, bX8_join_382), (385, bX8_join_385)]) 1 hX8_join_370 (zChks_cons hX8_join_382 (zChks_cons hX8_join_385 zChks_nil)) rfl rfl rfl (Nat.le_of_ble_eq_true rfl) (Nat.le_of_ble_eq_true rfl) ?_
  simp only [bX8_join_370, bX8_join_382, bX8_join_385, zRun_cons, zRun_nil, zLk, zSto, zIns, zFil, zf0, zf1, zf2, zf3, List.filter_cons, List.filter_nil, Nat.reduceAdd, Nat.reduceEqDiff, Nat.reduceLT, Nat.reduceLeDiff, Nat.reduceBEq, Nat.reduceBNe, reduceIte, if_true, if_false, Bool.false_and, Bool.true_and, Bool.and_true, Bool.and_false, Bool.not_false, Bool.not_true, Bool.false_eq_true, beq_self_eq_true, BEq.rfl, zCat1, zCat2, zCat3, zKdI, zKdL, zKdR, true_and, and_true, zSI, zSL, zSR, zu_at, and_self, and_false, false_and, lv_args, zKdZ, zKdO, zB01, zB11, Option.toList_none, Option.toList_some, List.nil_append, List.cons_append, true_or, or_true, zRow_rd, zu_rd, zo_lload_n, zo_lconst, zo_lcmp, zo_if_ne, zo_ldc2_w, zo_goto, zo_ldiv, zo_lreturn, zl_0, zL_m9223372036854775808, zKn_s, zKn_0, zFind, zCat2, lc_eq, zN10, zN01, not_true_eq_false, not_false_eq_true, false_implies, true_implies, implies_true, eq_self, nI_1, nI_40, nI_7, vz0, vz1, zb1_e0, zb1_n0]
  refine ⟨fun h => ?_, fun h => ?_⟩
  · rw [if_neg h] at hQ; exact ⟨h, hQ⟩
  · rw [if_pos h] at hQ; exact hQ
/-- the kind that the class has for what joins -/
def jKd (k : Nat) : Int32 := if k = 3 then 45 else if k = 4 then 44 else nI (k + 2)
theorem cl_join {k : Nat} (h3 : 3 ≤ k) (h14 : k ≤ 14) (ha : jB a) (hb : jB b) (hQ : Q (some (.long ((jBin (nI k) a b).getD jMin))) μ) : zXM w mX8_join rX8_join [.int (jKd k), .long a, .long b] μ Q := by
  match k, h3, h14 with
  | 3, _, _ => exact cl_join45 hQ
  | 4, _, _ => exact cl_join44 hQ
  | 5, _, _ => exact cl_join7 (by simpa [jBin, zCmp, show nI 5 = (5 : Int32) from rfl] using hQ)
  | 6, _, _ => exact cl_join8 (by simpa [jBin, zCmp, show nI 6 = (6 : Int32) from rfl] using hQ)
  | 7, _, _ => exact cl_join9 (by simpa [jBin, zCmp, show nI 7 = (7 : Int32) from rfl] using hQ)
  | 8, _, _ => exact cl_join10 (by simpa [jBin, zCmp, show nI 8 = (8 : Int32) from rfl] using hQ)
  | 9, _, _ => exact cl_join11 (by simpa [jBin, zCmp, show nI 9 = (9 : Int32) from rfl] using hQ)
  | 10, _, _ => exact cl_join12 (by simpa [jBin, zCmp, show nI 10 = (10 : Int32) from rfl] using hQ)
  | 11, _, _ => exact cl_join13 ha hb hQ
  | 12, _, _ => exact cl_join14 ha hb hQ
  | 13, _, _ => exact cl_join15 ha hb hQ
  | 14, _, _ => exact cl_join16 hQ
end ZJ65
