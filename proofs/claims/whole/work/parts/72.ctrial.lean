/-! ===== THE CLASS: a front copied; a run tried ===== -/
theorem zCpW_Front : zCpW (zOwn 2) 63 := ⟨zt5 16 (by decide +kernel) rfl, zt2 170 (by decide +kernel) rfl, zt2 169 (by decide +kernel) rfl, zt1 16 (by decide +kernel) rfl⟩
def zIn9 (B i _k : Nat) : Prop := B ≤ i ∧ i ≤ B + 8
def zInL (B i _k : Nat) : Prop := i = B
/-- B has been made the same as A -/
def zCop (A B : Nat) (I I' : Nat → Nat → Int32) (L L' : Nat → Nat → Int64) : Prop := zKpt (zIn9 B) I I' ∧ zKpt (zInL B) L L' ∧ (∀ j c, 1 ≤ j → j ≤ 5 → c < 40 → I' (B + j) c = I (A + j) c) ∧ (∀ q, q < 5 → I' (B + 6) q = I (A + 6) q ∧ I' (B + 7) q = I (A + 7) q) ∧ (∀ q, q < 7 → I' (B + 8) q = I (A + 8) q) ∧ (∀ k, 8 ≤ k → k ≤ 13 → I' B k = I A k) ∧ L' B 14 = L A 14 ∧ L' B 15 = L A 15
section ZC72
variable {w : zP} {Q : Option Value → zMem → Prop} {μ : zMem} {I J V V' : Nat → Nat → Int32} {L : Nat → Nat → Int64} {p s W B T t : Nat} {r : Option Nat} {P : oPn} {m : oTm} {c i k q wh ch n : Nat} {x till br : Int32} {S : oS} {rt : oRt}
theorem zRow_kp {α : Type} {S : Nat → Nat → Prop} {I I1 : Nat → Nat → α} {i : Nat} {f : Nat → α} (h : zKpt S I I1) (hs : ∀ k, S i k) : zKpt S I (zRow I1 i f) := by
  intro a b hn
  rw [zRow_at, if_neg]
  · exact h a b hn
  · rintro rfl; exact hn (hs b)
set_option maxRecDepth 20000 in
theorem cl_copy_10_19 (hQ : ∀ I' L', zCop 10 19 I I' L L' → Q none (SH, I', L', RF p s r)) : zXM w mX2_copyFrom rX2_copyFrom [.ref 19, .ref 10] (SH, I, L, RF p s r) Q := by
  unfold zXM
  refine zBlkR (M := mX2_copyFrom) (nL := 2) (rt := (Option.none : Option Jvm.ClassFile.FieldType)) (blk := bX2_copyFrom_0) (T := []) 0 hX2_copyFrom_0 zChks_nil rfl rfl rfl (Nat.le_of_ble_eq_true rfl) (Nat.le_of_ble_eq_true rfl) ?_
  simp only [bX2_copyFrom_0, zRun_cons, zRun_nil, zLk, zSto, zIns, zFil, zf0, zf1, zf2, zf3, List.filter_cons, List.filter_nil, Nat.reduceAdd, Nat.reduceEqDiff, Nat.reduceLT, Nat.reduceLeDiff, Nat.reduceBEq, Nat.reduceBNe, reduceIte, if_true, if_false, Bool.false_and, Bool.true_and, Bool.and_true, Bool.and_false, Bool.not_false, Bool.not_true, Bool.false_eq_true, beq_self_eq_true, BEq.rfl, zCat1, zCat2, zCat3, zKdI, zKdL, zKdR, true_and, and_true, zSI, zSL, zSR, zu_at, and_self, and_false, false_and, lv_args, zKdZ, zKdO, zB01, zB11, Option.toList_none, Option.toList_some, List.nil_append, List.cons_append, true_or, or_true, zRow_rd, zu_rd, zo_aload_n, zo_getfield, zo_iconst, zo_bipush, zi_0, zb_40, zKd_2_0, sh_10, rf_10_0, sh_11, sh_19, rf_19_0, sh_20, sh_28, rf_28_0, sh_29, zcl_0, zcl_40, zvi_0_40, zKn_0, zN10, zN01, not_true_eq_false, not_false_eq_true, false_implies, true_implies, implies_true, eq_self, nI_1, nI_40, nI_7, vz0, vz1, zb1_e0, zb1_n0]
  refine z_cpyI (i := 11) (j := 20) (by decide +kernel : decode cX2_copyFrom 12 = .ok (.invokestatic 63, 3)) zCpW_Front sh_11 sh_20 (by decide) (by decide) (by decide) (by decide) (by decide) (by decide) (by decide) ?_
  refine zBlkR (M := mX2_copyFrom) (nL := 2) (rt := (Option.none : Option Jvm.ClassFile.FieldType)) (blk := bX2_copyFrom_15) (T := []) 0 hX2_copyFrom_15 zChks_nil rfl rfl rfl (Nat.le_of_ble_eq_true rfl) (Nat.le_of_ble_eq_true rfl) ?_
  simp only [bX2_copyFrom_15, zRun_cons, zRun_nil, zLk, zSto, zIns, zFil, zf0, zf1, zf2, zf3, List.filter_cons, List.filter_nil, Nat.reduceAdd, Nat.reduceEqDiff, Nat.reduceLT, Nat.reduceLeDiff, Nat.reduceBEq, Nat.reduceBNe, reduceIte, if_true, if_false, Bool.false_and, Bool.true_and, Bool.and_true, Bool.and_false, Bool.not_false, Bool.not_true, Bool.false_eq_true, beq_self_eq_true, BEq.rfl, zCat1, zCat2, zCat3, zKdI, zKdL, zKdR, true_and, and_true, zSI, zSL, zSR, zu_at, and_self, and_false, false_and, lv_args, zKdZ, zKdO, zB01, zB11, Option.toList_none, Option.toList_some, List.nil_append, List.cons_append, true_or, or_true, zRow_rd, zu_rd, zo_aload_n, zo_getfield, zo_iconst, zo_bipush, zi_0, zb_40, zKd_2_1, sh_10, rf_10_1, sh_12, sh_19, rf_19_1, sh_21, sh_28, rf_28_1, sh_30, zcl_0, zcl_40, zvi_0_40, zKn_0, zN10, zN01, not_true_eq_false, not_false_eq_true, false_implies, true_implies, implies_true, eq_self, nI_1, nI_40, nI_7, vz0, vz1, zb1_e0, zb1_n0]
  refine z_cpyI (i := 12) (j := 21) (by decide +kernel : decode cX2_copyFrom 27 = .ok (.invokestatic 63, 3)) zCpW_Front sh_12 sh_21 (by decide) (by decide) (by decide) (by decide) (by decide) (by decide) (by decide) ?_
  refine zBlkR (M := mX2_copyFrom) (nL := 2) (rt := (Option.none : Option Jvm.ClassFile.FieldType)) (blk := bX2_copyFrom_30) (T := []) 0 hX2_copyFrom_30 zChks_nil rfl rfl rfl (Nat.le_of_ble_eq_true rfl) (Nat.le_of_ble_eq_true rfl) ?_
  simp only [bX2_copyFrom_30, zRun_cons, zRun_nil, zLk, zSto, zIns, zFil, zf0, zf1, zf2, zf3, List.filter_cons, List.filter_nil, Nat.reduceAdd, Nat.reduceEqDiff, Nat.reduceLT, Nat.reduceLeDiff, Nat.reduceBEq, Nat.reduceBNe, reduceIte, if_true, if_false, Bool.false_and, Bool.true_and, Bool.and_true, Bool.and_false, Bool.not_false, Bool.not_true, Bool.false_eq_true, beq_self_eq_true, BEq.rfl, zCat1, zCat2, zCat3, zKdI, zKdL, zKdR, true_and, and_true, zSI, zSL, zSR, zu_at, and_self, and_false, false_and, lv_args, zKdZ, zKdO, zB01, zB11, Option.toList_none, Option.toList_some, List.nil_append, List.cons_append, true_or, or_true, zRow_rd, zu_rd, zo_aload_n, zo_getfield, zo_iconst, zo_bipush, zi_0, zb_40, zKd_2_2, sh_10, rf_10_2, sh_13, sh_19, rf_19_2, sh_22, sh_28, rf_28_2, sh_31, zcl_0, zcl_40, zvi_0_40, zKn_0, zN10, zN01, not_true_eq_false, not_false_eq_true, false_implies, true_implies, implies_true, eq_self, nI_1, nI_40, nI_7, vz0, vz1, zb1_e0, zb1_n0]
  refine z_cpyI (i := 13) (j := 22) (by decide +kernel : decode cX2_copyFrom 42 = .ok (.invokestatic 63, 3)) zCpW_Front sh_13 sh_22 (by decide) (by decide) (by decide) (by decide) (by decide) (by decide) (by decide) ?_
  refine zBlkR (M := mX2_copyFrom) (nL := 2) (rt := (Option.none : Option Jvm.ClassFile.FieldType)) (blk := bX2_copyFrom_45) (T := []) 0 hX2_copyFrom_45 zChks_nil rfl rfl rfl (Nat.le_of_ble_eq_true rfl) (Nat.le_of_ble_eq_true rfl) ?_
  simp only [bX2_copyFrom_45, zRun_cons, zRun_nil, zLk, zSto, zIns, zFil, zf0, zf1, zf2, zf3, List.filter_cons, List.filter_nil, Nat.reduceAdd, Nat.reduceEqDiff, Nat.reduceLT, Nat.reduceLeDiff, Nat.reduceBEq, Nat.reduceBNe, reduceIte, if_true, if_false, Bool.false_and, Bool.true_and, Bool.and_true, Bool.and_false, Bool.not_false, Bool.not_true, Bool.false_eq_true, beq_self_eq_true, BEq.rfl, zCat1, zCat2, zCat3, zKdI, zKdL, zKdR, true_and, and_true, zSI, zSL, zSR, zu_at, and_self, and_false, false_and, lv_args, zKdZ, zKdO, zB01, zB11, Option.toList_none, Option.toList_some, List.nil_append, List.cons_append, true_or, or_true, zRow_rd, zu_rd, zo_aload_n, zo_getfield, zo_iconst, zo_bipush, zi_0, zb_40, zKd_2_3, sh_10, rf_10_3, sh_14, sh_19, rf_19_3, sh_23, sh_28, rf_28_3, sh_32, zcl_0, zcl_40, zvi_0_40, zKn_0, zN10, zN01, not_true_eq_false, not_false_eq_true, false_implies, true_implies, implies_true, eq_self, nI_1, nI_40, nI_7, vz0, vz1, zb1_e0, zb1_n0]
  refine z_cpyI (i := 14) (j := 23) (by decide +kernel : decode cX2_copyFrom 57 = .ok (.invokestatic 63, 3)) zCpW_Front sh_14 sh_23 (by decide) (by decide) (by decide) (by decide) (by decide) (by decide) (by decide) ?_
  refine zBlkR (M := mX2_copyFrom) (nL := 2) (rt := (Option.none : Option Jvm.ClassFile.FieldType)) (blk := bX2_copyFrom_60) (T := []) 0 hX2_copyFrom_60 zChks_nil rfl rfl rfl (Nat.le_of_ble_eq_true rfl) (Nat.le_of_ble_eq_true rfl) ?_
  simp only [bX2_copyFrom_60, zRun_cons, zRun_nil, zLk, zSto, zIns, zFil, zf0, zf1, zf2, zf3, List.filter_cons, List.filter_nil, Nat.reduceAdd, Nat.reduceEqDiff, Nat.reduceLT, Nat.reduceLeDiff, Nat.reduceBEq, Nat.reduceBNe, reduceIte, if_true, if_false, Bool.false_and, Bool.true_and, Bool.and_true, Bool.and_false, Bool.not_false, Bool.not_true, Bool.false_eq_true, beq_self_eq_true, BEq.rfl, zCat1, zCat2, zCat3, zKdI, zKdL, zKdR, true_and, and_true, zSI, zSL, zSR, zu_at, and_self, and_false, false_and, lv_args, zKdZ, zKdO, zB01, zB11, Option.toList_none, Option.toList_some, List.nil_append, List.cons_append, true_or, or_true, zRow_rd, zu_rd, zo_aload_n, zo_getfield, zo_iconst, zo_bipush, zi_0, zb_40, zKd_2_4, sh_10, rf_10_4, sh_15, sh_19, rf_19_4, sh_24, sh_28, rf_28_4, sh_33, zcl_0, zcl_40, zvi_0_40, zKn_0, zN10, zN01, not_true_eq_false, not_false_eq_true, false_implies, true_implies, implies_true, eq_self, nI_1, nI_40, nI_7, vz0, vz1, zb1_e0, zb1_n0]
  refine z_cpyI (i := 15) (j := 24) (by decide +kernel : decode cX2_copyFrom 72 = .ok (.invokestatic 63, 3)) zCpW_Front sh_15 sh_24 (by decide) (by decide) (by decide) (by decide) (by decide) (by decide) (by decide) ?_
  refine zBlkR (M := mX2_copyFrom) (nL := 2) (rt := (Option.none : Option Jvm.ClassFile.FieldType)) (blk := bX2_copyFrom_75) (T := []) 0 hX2_copyFrom_75 zChks_nil rfl rfl rfl (Nat.le_of_ble_eq_true rfl) (Nat.le_of_ble_eq_true rfl) ?_
  simp only [bX2_copyFrom_75, zRun_cons, zRun_nil, zLk, zSto, zIns, zFil, zf0, zf1, zf2, zf3, List.filter_cons, List.filter_nil, Nat.reduceAdd, Nat.reduceEqDiff, Nat.reduceLT, Nat.reduceLeDiff, Nat.reduceBEq, Nat.reduceBNe, reduceIte, if_true, if_false, Bool.false_and, Bool.true_and, Bool.and_true, Bool.and_false, Bool.not_false, Bool.not_true, Bool.false_eq_true, beq_self_eq_true, BEq.rfl, zCat1, zCat2, zCat3, zKdI, zKdL, zKdR, true_and, and_true, zSI, zSL, zSR, zu_at, and_self, and_false, false_and, lv_args, zKdZ, zKdO, zB01, zB11, Option.toList_none, Option.toList_some, List.nil_append, List.cons_append, true_or, or_true, zRow_rd, zu_rd, zo_aload_n, zo_getfield, zo_iconst, zi_0, zi_5, zKd_2_5, sh_10, rf_10_5, sh_16, sh_19, rf_19_5, sh_25, sh_28, rf_28_5, sh_34, zcl_0, zcl_5, zvi_0_5, zKn_0, zN10, zN01, not_true_eq_false, not_false_eq_true, false_implies, true_implies, implies_true, eq_self, nI_1, nI_40, nI_7, vz0, vz1, zb1_e0, zb1_n0]
  refine z_cpyI (i := 16) (j := 25) (by decide +kernel : decode cX2_copyFrom 86 = .ok (.invokestatic 63, 3)) zCpW_Front sh_16 sh_25 (by decide) (by decide) (by decide) (by decide) (by decide) (by decide) (by decide) ?_
  refine zBlkR (M := mX2_copyFrom) (nL := 2) (rt := (Option.none : Option Jvm.ClassFile.FieldType)) (blk := bX2_copyFrom_89) (T := []) 0 hX2_copyFrom_89 zChks_nil rfl rfl rfl (Nat.le_of_ble_eq_true rfl) (Nat.le_of_ble_eq_true rfl) ?_
  simp only [bX2_copyFrom_89, zRun_cons, zRun_nil, zLk, zSto, zIns, zFil, zf0, zf1, zf2, zf3, List.filter_cons, List.filter_nil, Nat.reduceAdd, Nat.reduceEqDiff, Nat.reduceLT, Nat.reduceLeDiff, Nat.reduceBEq, Nat.reduceBNe, reduceIte, if_true, if_false, Bool.false_and, Bool.true_and, Bool.and_true, Bool.and_false, Bool.not_false, Bool.not_true, Bool.false_eq_true, beq_self_eq_true, BEq.rfl, zCat1, zCat2, zCat3, zKdI, zKdL, zKdR, true_and, and_true, zSI, zSL, zSR, zu_at, and_self, and_false, false_and, lv_args, zKdZ, zKdO, zB01, zB11, Option.toList_none, Option.toList_some, List.nil_append, List.cons_append, true_or, or_true, zRow_rd, zu_rd, zo_aload_n, zo_getfield, zo_iconst, zi_0, zi_5, zKd_2_6, sh_10, rf_10_6, sh_17, sh_19, rf_19_6, sh_26, sh_28, rf_28_6, sh_35, zcl_0, zcl_5, zvi_0_5, zKn_0, zN10, zN01, not_true_eq_false, not_false_eq_true, false_implies, true_implies, implies_true, eq_self, nI_1, nI_40, nI_7, vz0, vz1, zb1_e0, zb1_n0]
  refine z_cpyI (i := 17) (j := 26) (by decide +kernel : decode cX2_copyFrom 100 = .ok (.invokestatic 63, 3)) zCpW_Front sh_17 sh_26 (by decide) (by decide) (by decide) (by decide) (by decide) (by decide) (by decide) ?_
  refine zBlkR (M := mX2_copyFrom) (nL := 2) (rt := (Option.none : Option Jvm.ClassFile.FieldType)) (blk := bX2_copyFrom_103) (T := []) 0 hX2_copyFrom_103 zChks_nil rfl rfl rfl (Nat.le_of_ble_eq_true rfl) (Nat.le_of_ble_eq_true rfl) ?_
  simp only [bX2_copyFrom_103, zRun_cons, zRun_nil, zLk, zSto, zIns, zFil, zf0, zf1, zf2, zf3, List.filter_cons, List.filter_nil, Nat.reduceAdd, Nat.reduceEqDiff, Nat.reduceLT, Nat.reduceLeDiff, Nat.reduceBEq, Nat.reduceBNe, reduceIte, if_true, if_false, Bool.false_and, Bool.true_and, Bool.and_true, Bool.and_false, Bool.not_false, Bool.not_true, Bool.false_eq_true, beq_self_eq_true, BEq.rfl, zCat1, zCat2, zCat3, zKdI, zKdL, zKdR, true_and, and_true, zSI, zSL, zSR, zu_at, and_self, and_false, false_and, lv_args, zKdZ, zKdO, zB01, zB11, Option.toList_none, Option.toList_some, List.nil_append, List.cons_append, true_or, or_true, zRow_rd, zu_rd, zo_aload_n, zo_getfield, zo_iconst, zo_bipush, zi_0, zb_7, zKd_2_7, sh_10, rf_10_7, sh_18, sh_19, rf_19_7, sh_27, sh_28, rf_28_7, sh_36, zcl_0, zcl_7, zvi_0_7, zKn_0, zN10, zN01, not_true_eq_false, not_false_eq_true, false_implies, true_implies, implies_true, eq_self, nI_1, nI_40, nI_7, vz0, vz1, zb1_e0, zb1_n0]
  refine z_cpyI (i := 18) (j := 27) (by decide +kernel : decode cX2_copyFrom 115 = .ok (.invokestatic 63, 3)) zCpW_Front sh_18 sh_27 (by decide) (by decide) (by decide) (by decide) (by decide) (by decide) (by decide) ?_
  refine zBlkR (M := mX2_copyFrom) (nL := 2) (rt := (Option.none : Option Jvm.ClassFile.FieldType)) (blk := bX2_copyFrom_118) (T := []) 0 hX2_copyFrom_118 zChks_nil rfl rfl rfl (Nat.le_of_ble_eq_true rfl) (Nat.le_of_ble_eq_true rfl) ?_
  simp only [bX2_copyFrom_118, zRun_cons, zRun_nil, zLk, zSto, zIns, zFil, zf0, zf1, zf2, zf3, List.filter_cons, List.filter_nil, Nat.reduceAdd, Nat.reduceEqDiff, Nat.reduceLT, Nat.reduceLeDiff, Nat.reduceBEq, Nat.reduceBNe, reduceIte, if_true, if_false, Bool.false_and, Bool.true_and, Bool.and_true, Bool.and_false, Bool.not_false, Bool.not_true, Bool.false_eq_true, beq_self_eq_true, BEq.rfl, zCat1, zCat2, zCat3, zKdI, zKdL, zKdR, true_and, and_true, zSI, zSL, zSR, zu_at, and_self, and_false, false_and, lv_args, zKdZ, zKdO, zB01, zB11, Option.toList_none, Option.toList_some, List.nil_append, List.cons_append, true_or, or_true, zRow_rd, zu_rd, zo_aload_n, zo_getfield, zo_putfield, zo_putfield_2, zo_putfield_3, zo_return_, zKd_2_8, zTy_2_8, zKd_2_9, zTy_2_9, zKd_2_10, zTy_2_10, zKd_2_11, zTy_2_11, zKd_2_12, zTy_2_12, zKd_2_13, zTy_2_13, zKd_2_14, zTy_2_14, zKd_2_15, zTy_2_15, sh_10, sh_19, sh_28, zPutC, zKn_0, zCat2, zN10, zN01, not_true_eq_false, not_false_eq_true, false_implies, true_implies, implies_true, eq_self, nI_1, nI_40, nI_7, vz0, vz1, zb1_e0, zb1_n0]
  refine hQ _ _ ⟨?_, ?_, ?_, ?_, ?_, ?_, ?_, ?_⟩
  · repeat' first | exact zKpt_rfl | refine zKpt.u ?_ ?_ | refine zRow_kp ?_ ?_
    all_goals first | (intro k; unfold zIn9; omega) | (unfold zIn9; omega)
  · repeat' first | exact zKpt_rfl | refine zKpt.u ?_ ?_
    all_goals (unfold zInL; omega)
  · intro j c h1 h2 h3
    have h40 : c < 0 + 40 := by omega
    match j, h1, h2 with
    | 1, _, _ => simp [zu_at, zRow_at, pk_cpy_in (Nat.zero_le c) h40, Int32.toNatClampNeg]
    | 2, _, _ => simp [zu_at, zRow_at, pk_cpy_in (Nat.zero_le c) h40, Int32.toNatClampNeg]
    | 3, _, _ => simp [zu_at, zRow_at, pk_cpy_in (Nat.zero_le c) h40, Int32.toNatClampNeg]
    | 4, _, _ => simp [zu_at, zRow_at, pk_cpy_in (Nat.zero_le c) h40, Int32.toNatClampNeg]
    | 5, _, _ => simp [zu_at, zRow_at, pk_cpy_in (Nat.zero_le c) h40, Int32.toNatClampNeg]
  · intro q hq
    have h5 : q < 0 + 5 := by omega
    constructor <;> simp [zu_at, zRow_at, pk_cpy_in (Nat.zero_le q) h5, Int32.toNatClampNeg]
  · intro q hq
    have h7 : q < 0 + 7 := by omega
    simp [zu_at, zRow_at, pk_cpy_in (Nat.zero_le q) h7, Int32.toNatClampNeg]
  · intro k h1 h2
    match k, h1, h2 with
    | 8, _, _ => simp [zu_at, zRow_at]
    | 9, _, _ => simp [zu_at, zRow_at]
    | 10, _, _ => simp [zu_at, zRow_at]
    | 11, _, _ => simp [zu_at, zRow_at]
    | 12, _, _ => simp [zu_at, zRow_at]
    | 13, _, _ => simp [zu_at, zRow_at]
  · simp [zu_at]
  · simp [zu_at]
set_option maxRecDepth 20000 in
theorem cl_copy_10_28 (hQ : ∀ I' L', zCop 10 28 I I' L L' → Q none (SH, I', L', RF p s r)) : zXM w mX2_copyFrom rX2_copyFrom [.ref 28, .ref 10] (SH, I, L, RF p s r) Q := by
  unfold zXM
  refine zBlkR (M := mX2_copyFrom) (nL := 2) (rt := (Option.none : Option Jvm.ClassFile.FieldType)) (blk := bX2_copyFrom_0) (T := []) 0 hX2_copyFrom_0 zChks_nil rfl rfl rfl (Nat.le_of_ble_eq_true rfl) (Nat.le_of_ble_eq_true rfl) ?_
  simp only [bX2_copyFrom_0, zRun_cons, zRun_nil, zLk, zSto, zIns, zFil, zf0, zf1, zf2, zf3, List.filter_cons, List.filter_nil, Nat.reduceAdd, Nat.reduceEqDiff, Nat.reduceLT, Nat.reduceLeDiff, Nat.reduceBEq, Nat.reduceBNe, reduceIte, if_true, if_false, Bool.false_and, Bool.true_and, Bool.and_true, Bool.and_false, Bool.not_false, Bool.not_true, Bool.false_eq_true, beq_self_eq_true, BEq.rfl, zCat1, zCat2, zCat3, zKdI, zKdL, zKdR, true_and, and_true, zSI, zSL, zSR, zu_at, and_self, and_false, false_and, lv_args, zKdZ, zKdO, zB01, zB11, Option.toList_none, Option.toList_some, List.nil_append, List.cons_append, true_or, or_true, zRow_rd, zu_rd, zo_aload_n, zo_getfield, zo_iconst, zo_bipush, zi_0, zb_40, zKd_2_0, sh_10, rf_10_0, sh_11, sh_19, rf_19_0, sh_20, sh_28, rf_28_0, sh_29, zcl_0, zcl_40, zvi_0_40, zKn_0, zN10, zN01, not_true_eq_false, not_false_eq_true, false_implies, true_implies, implies_true, eq_self, nI_1, nI_40, nI_7, vz0, vz1, zb1_e0, zb1_n0]
  refine z_cpyI (i := 11) (j := 29) (by decide +kernel : decode cX2_copyFrom 12 = .ok (.invokestatic 63, 3)) zCpW_Front sh_11 sh_29 (by decide) (by decide) (by decide) (by decide) (by decide) (by decide) (by decide) ?_
  refine zBlkR (M := mX2_copyFrom) (nL := 2) (rt := (Option.none : Option Jvm.ClassFile.FieldType)) (blk := bX2_copyFrom_15) (T := []) 0 hX2_copyFrom_15 zChks_nil rfl rfl rfl (Nat.le_of_ble_eq_true rfl) (Nat.le_of_ble_eq_true rfl) ?_
  simp only [bX2_copyFrom_15, zRun_cons, zRun_nil, zLk, zSto, zIns, zFil, zf0, zf1, zf2, zf3, List.filter_cons, List.filter_nil, Nat.reduceAdd, Nat.reduceEqDiff, Nat.reduceLT, Nat.reduceLeDiff, Nat.reduceBEq, Nat.reduceBNe, reduceIte, if_true, if_false, Bool.false_and, Bool.true_and, Bool.and_true, Bool.and_false, Bool.not_false, Bool.not_true, Bool.false_eq_true, beq_self_eq_true, BEq.rfl, zCat1, zCat2, zCat3, zKdI, zKdL, zKdR, true_and, and_true, zSI, zSL, zSR, zu_at, and_self, and_false, false_and, lv_args, zKdZ, zKdO, zB01, zB11, Option.toList_none, Option.toList_some, List.nil_append, List.cons_append, true_or, or_true, zRow_rd, zu_rd, zo_aload_n, zo_getfield, zo_iconst, zo_bipush, zi_0, zb_40, zKd_2_1, sh_10, rf_10_1, sh_12, sh_19, rf_19_1, sh_21, sh_28, rf_28_1, sh_30, zcl_0, zcl_40, zvi_0_40, zKn_0, zN10, zN01, not_true_eq_false, not_false_eq_true, false_implies, true_implies, implies_true, eq_self, nI_1, nI_40, nI_7, vz0, vz1, zb1_e0, zb1_n0]
  refine z_cpyI (i := 12) (j := 30) (by decide +kernel : decode cX2_copyFrom 27 = .ok (.invokestatic 63, 3)) zCpW_Front sh_12 sh_30 (by decide) (by decide) (by decide) (by decide) (by decide) (by decide) (by decide) ?_
  refine zBlkR (M := mX2_copyFrom) (nL := 2) (rt := (Option.none : Option Jvm.ClassFile.FieldType)) (blk := bX2_copyFrom_30) (T := []) 0 hX2_copyFrom_30 zChks_nil rfl rfl rfl (Nat.le_of_ble_eq_true rfl) (Nat.le_of_ble_eq_true rfl) ?_
  simp only [bX2_copyFrom_30, zRun_cons, zRun_nil, zLk, zSto, zIns, zFil, zf0, zf1, zf2, zf3, List.filter_cons, List.filter_nil, Nat.reduceAdd, Nat.reduceEqDiff, Nat.reduceLT, Nat.reduceLeDiff, Nat.reduceBEq, Nat.reduceBNe, reduceIte, if_true, if_false, Bool.false_and, Bool.true_and, Bool.and_true, Bool.and_false, Bool.not_false, Bool.not_true, Bool.false_eq_true, beq_self_eq_true, BEq.rfl, zCat1, zCat2, zCat3, zKdI, zKdL, zKdR, true_and, and_true, zSI, zSL, zSR, zu_at, and_self, and_false, false_and, lv_args, zKdZ, zKdO, zB01, zB11, Option.toList_none, Option.toList_some, List.nil_append, List.cons_append, true_or, or_true, zRow_rd, zu_rd, zo_aload_n, zo_getfield, zo_iconst, zo_bipush, zi_0, zb_40, zKd_2_2, sh_10, rf_10_2, sh_13, sh_19, rf_19_2, sh_22, sh_28, rf_28_2, sh_31, zcl_0, zcl_40, zvi_0_40, zKn_0, zN10, zN01, not_true_eq_false, not_false_eq_true, false_implies, true_implies, implies_true, eq_self, nI_1, nI_40, nI_7, vz0, vz1, zb1_e0, zb1_n0]
  refine z_cpyI (i := 13) (j := 31) (by decide +kernel : decode cX2_copyFrom 42 = .ok (.invokestatic 63, 3)) zCpW_Front sh_13 sh_31 (by decide) (by decide) (by decide) (by decide) (by decide) (by decide) (by decide) ?_
  refine zBlkR (M := mX2_copyFrom) (nL := 2) (rt := (Option.none : Option Jvm.ClassFile.FieldType)) (blk := bX2_copyFrom_45) (T := []) 0 hX2_copyFrom_45 zChks_nil rfl rfl rfl (Nat.le_of_ble_eq_true rfl) (Nat.le_of_ble_eq_true rfl) ?_
  simp only [bX2_copyFrom_45, zRun_cons, zRun_nil, zLk, zSto, zIns, zFil, zf0, zf1, zf2, zf3, List.filter_cons, List.filter_nil, Nat.reduceAdd, Nat.reduceEqDiff, Nat.reduceLT, Nat.reduceLeDiff, Nat.reduceBEq, Nat.reduceBNe, reduceIte, if_true, if_false, Bool.false_and, Bool.true_and, Bool.and_true, Bool.and_false, Bool.not_false, Bool.not_true, Bool.false_eq_true, beq_self_eq_true, BEq.rfl, zCat1, zCat2, zCat3, zKdI, zKdL, zKdR, true_and, and_true, zSI, zSL, zSR, zu_at, and_self, and_false, false_and, lv_args, zKdZ, zKdO, zB01, zB11, Option.toList_none, Option.toList_some, List.nil_append, List.cons_append, true_or, or_true, zRow_rd, zu_rd, zo_aload_n, zo_getfield, zo_iconst, zo_bipush, zi_0, zb_40, zKd_2_3, sh_10, rf_10_3, sh_14, sh_19, rf_19_3, sh_23, sh_28, rf_28_3, sh_32, zcl_0, zcl_40, zvi_0_40, zKn_0, zN10, zN01, not_true_eq_false, not_false_eq_true, false_implies, true_implies, implies_true, eq_self, nI_1, nI_40, nI_7, vz0, vz1, zb1_e0, zb1_n0]
  refine z_cpyI (i := 14) (j := 32) (by decide +kernel : decode cX2_copyFrom 57 = .ok (.invokestatic 63, 3)) zCpW_Front sh_14 sh_32 (by decide) (by decide) (by decide) (by decide) (by decide) (by decide) (by decide) ?_
  refine zBlkR (M := mX2_copyFrom) (nL := 2) (rt := (Option.none : Option Jvm.ClassFile.FieldType)) (blk := bX2_copyFrom_60) (T := []) 0 hX2_copyFrom_60 zChks_nil rfl rfl rfl (Nat.le_of_ble_eq_true rfl) (Nat.le_of_ble_eq_true rfl) ?_
  simp only [bX2_copyFrom_60, zRun_cons, zRun_nil, zLk, zSto, zIns, zFil, zf0, zf1, zf2, zf3, List.filter_cons, List.filter_nil, Nat.reduceAdd, Nat.reduceEqDiff, Nat.reduceLT, Nat.reduceLeDiff, Nat.reduceBEq, Nat.reduceBNe, reduceIte, if_true, if_false, Bool.false_and, Bool.true_and, Bool.and_true, Bool.and_false, Bool.not_false, Bool.not_true, Bool.false_eq_true, beq_self_eq_true, BEq.rfl, zCat1, zCat2, zCat3, zKdI, zKdL, zKdR, true_and, and_true, zSI, zSL, zSR, zu_at, and_self, and_false, false_and, lv_args, zKdZ, zKdO, zB01, zB11, Option.toList_none, Option.toList_some, List.nil_append, List.cons_append, true_or, or_true, zRow_rd, zu_rd, zo_aload_n, zo_getfield, zo_iconst, zo_bipush, zi_0, zb_40, zKd_2_4, sh_10, rf_10_4, sh_15, sh_19, rf_19_4, sh_24, sh_28, rf_28_4, sh_33, zcl_0, zcl_40, zvi_0_40, zKn_0, zN10, zN01, not_true_eq_false, not_false_eq_true, false_implies, true_implies, implies_true, eq_self, nI_1, nI_40, nI_7, vz0, vz1, zb1_e0, zb1_n0]
  refine z_cpyI (i := 15) (j := 33) (by decide +kernel : decode cX2_copyFrom 72 = .ok (.invokestatic 63, 3)) zCpW_Front sh_15 sh_33 (by decide) (by decide) (by decide) (by decide) (by decide) (by decide) (by decide) ?_
  refine zBlkR (M := mX2_copyFrom) (nL := 2) (rt := (Option.none : Option Jvm.ClassFile.FieldType)) (blk := bX2_copyFrom_75) (T := []) 0 hX2_copyFrom_75 zChks_nil rfl rfl rfl (Nat.le_of_ble_eq_true rfl) (Nat.le_of_ble_eq_true rfl) ?_
  simp only [bX2_copyFrom_75, zRun_cons, zRun_nil, zLk, zSto, zIns, zFil, zf0, zf1, zf2, zf3, List.filter_cons, List.filter_nil, Nat.reduceAdd, Nat.reduceEqDiff, Nat.reduceLT, Nat.reduceLeDiff, Nat.reduceBEq, Nat.reduceBNe, reduceIte, if_true, if_false, Bool.false_and, Bool.true_and, Bool.and_true, Bool.and_false, Bool.not_false, Bool.not_true, Bool.false_eq_true, beq_self_eq_true, BEq.rfl, zCat1, zCat2, zCat3, zKdI, zKdL, zKdR, true_and, and_true, zSI, zSL, zSR, zu_at, and_self, and_false, false_and, lv_args, zKdZ, zKdO, zB01, zB11, Option.toList_none, Option.toList_some, List.nil_append, List.cons_append, true_or, or_true, zRow_rd, zu_rd, zo_aload_n, zo_getfield, zo_iconst, zi_0, zi_5, zKd_2_5, sh_10, rf_10_5, sh_16, sh_19, rf_19_5, sh_25, sh_28, rf_28_5, sh_34, zcl_0, zcl_5, zvi_0_5, zKn_0, zN10, zN01, not_true_eq_false, not_false_eq_true, false_implies, true_implies, implies_true, eq_self, nI_1, nI_40, nI_7, vz0, vz1, zb1_e0, zb1_n0]
  refine z_cpyI (i := 16) (j := 34) (by decide +kernel : decode cX2_copyFrom 86 = .ok (.invokestatic 63, 3)) zCpW_Front sh_16 sh_34 (by decide) (by decide) (by decide) (by decide) (by decide) (by decide) (by decide) ?_
  refine zBlkR (M := mX2_copyFrom) (nL := 2) (rt := (Option.none : Option Jvm.ClassFile.FieldType)) (blk := bX2_copyFrom_89) (T := []) 0 hX2_copyFrom_89 zChks_nil rfl rfl rfl (Nat.le_of_ble_eq_true rfl) (Nat.le_of_ble_eq_true rfl) ?_
  simp only [bX2_copyFrom_89, zRun_cons, zRun_nil, zLk, zSto, zIns, zFil, zf0, zf1, zf2, zf3, List.filter_cons, List.filter_nil, Nat.reduceAdd, Nat.reduceEqDiff, Nat.reduceLT, Nat.reduceLeDiff, Nat.reduceBEq, Nat.reduceBNe, reduceIte, if_true, if_false, Bool.false_and, Bool.true_and, Bool.and_true, Bool.and_false, Bool.not_false, Bool.not_true, Bool.false_eq_true, beq_self_eq_true, BEq.rfl, zCat1, zCat2, zCat3, zKdI, zKdL, zKdR, true_and, and_true, zSI, zSL, zSR, zu_at, and_self, and_false, false_and, lv_args, zKdZ, zKdO, zB01, zB11, Option.toList_none, Option.toList_some, List.nil_append, List.cons_append, true_or, or_true, zRow_rd, zu_rd, zo_aload_n, zo_getfield, zo_iconst, zi_0, zi_5, zKd_2_6, sh_10, rf_10_6, sh_17, sh_19, rf_19_6, sh_26, sh_28, rf_28_6, sh_35, zcl_0, zcl_5, zvi_0_5, zKn_0, zN10, zN01, not_true_eq_false, not_false_eq_true, false_implies, true_implies, implies_true, eq_self, nI_1, nI_40, nI_7, vz0, vz1, zb1_e0, zb1_n0]
  refine z_cpyI (i := 17) (j := 35) (by decide +kernel : decode cX2_copyFrom 100 = .ok (.invokestatic 63, 3)) zCpW_Front sh_17 sh_35 (by decide) (by decide) (by decide) (by decide) (by decide) (by decide) (by decide) ?_
  refine zBlkR (M := mX2_copyFrom) (nL := 2) (rt := (Option.none : Option Jvm.ClassFile.FieldType)) (blk := bX2_copyFrom_103) (T := []) 0 hX2_copyFrom_103 zChks_nil rfl rfl rfl (Nat.le_of_ble_eq_true rfl) (Nat.le_of_ble_eq_true rfl) ?_
  simp only [bX2_copyFrom_103, zRun_cons, zRun_nil, zLk, zSto, zIns, zFil, zf0, zf1, zf2, zf3, List.filter_cons, List.filter_nil, Nat.reduceAdd, Nat.reduceEqDiff, Nat.reduceLT, Nat.reduceLeDiff, Nat.reduceBEq, Nat.reduceBNe, reduceIte, if_true, if_false, Bool.false_and, Bool.true_and, Bool.and_true, Bool.and_false, Bool.not_false, Bool.not_true, Bool.false_eq_true, beq_self_eq_true, BEq.rfl, zCat1, zCat2, zCat3, zKdI, zKdL, zKdR, true_and, and_true, zSI, zSL, zSR, zu_at, and_self, and_false, false_and, lv_args, zKdZ, zKdO, zB01, zB11, Option.toList_none, Option.toList_some, List.nil_append, List.cons_append, true_or, or_true, zRow_rd, zu_rd, zo_aload_n, zo_getfield, zo_iconst, zo_bipush, zi_0, zb_7, zKd_2_7, sh_10, rf_10_7, sh_18, sh_19, rf_19_7, sh_27, sh_28, rf_28_7, sh_36, zcl_0, zcl_7, zvi_0_7, zKn_0, zN10, zN01, not_true_eq_false, not_false_eq_true, false_implies, true_implies, implies_true, eq_self, nI_1, nI_40, nI_7, vz0, vz1, zb1_e0, zb1_n0]
  refine z_cpyI (i := 18) (j := 36) (by decide +kernel : decode cX2_copyFrom 115 = .ok (.invokestatic 63, 3)) zCpW_Front sh_18 sh_36 (by decide) (by decide) (by decide) (by decide) (by decide) (by decide) (by decide) ?_
  refine zBlkR (M := mX2_copyFrom) (nL := 2) (rt := (Option.none : Option Jvm.ClassFile.FieldType)) (blk := bX2_copyFrom_118) (T := []) 0 hX2_copyFrom_118 zChks_nil rfl rfl rfl (Nat.le_of_ble_eq_true rfl) (Nat.le_of_ble_eq_true rfl) ?_
  simp only [bX2_copyFrom_118, zRun_cons, zRun_nil, zLk, zSto, zIns, zFil, zf0, zf1, zf2, zf3, List.filter_cons, List.filter_nil, Nat.reduceAdd, Nat.reduceEqDiff, Nat.reduceLT, Nat.reduceLeDiff, Nat.reduceBEq, Nat.reduceBNe, reduceIte, if_true, if_false, Bool.false_and, Bool.true_and, Bool.and_true, Bool.and_false, Bool.not_false, Bool.not_true, Bool.false_eq_true, beq_self_eq_true, BEq.rfl, zCat1, zCat2, zCat3, zKdI, zKdL, zKdR, true_and, and_true, zSI, zSL, zSR, zu_at, and_self, and_false, false_and, lv_args, zKdZ, zKdO, zB01, zB11, Option.toList_none, Option.toList_some, List.nil_append, List.cons_append, true_or, or_true, zRow_rd, zu_rd, zo_aload_n, zo_getfield, zo_putfield, zo_putfield_2, zo_putfield_3, zo_return_, zKd_2_8, zTy_2_8, zKd_2_9, zTy_2_9, zKd_2_10, zTy_2_10, zKd_2_11, zTy_2_11, zKd_2_12, zTy_2_12, zKd_2_13, zTy_2_13, zKd_2_14, zTy_2_14, zKd_2_15, zTy_2_15, sh_10, sh_19, sh_28, zPutC, zKn_0, zCat2, zN10, zN01, not_true_eq_false, not_false_eq_true, false_implies, true_implies, implies_true, eq_self, nI_1, nI_40, nI_7, vz0, vz1, zb1_e0, zb1_n0]
  refine hQ _ _ ⟨?_, ?_, ?_, ?_, ?_, ?_, ?_, ?_⟩
  · repeat' first | exact zKpt_rfl | refine zKpt.u ?_ ?_ | refine zRow_kp ?_ ?_
    all_goals first | (intro k; unfold zIn9; omega) | (unfold zIn9; omega)
  · repeat' first | exact zKpt_rfl | refine zKpt.u ?_ ?_
    all_goals (unfold zInL; omega)
  · intro j c h1 h2 h3
    have h40 : c < 0 + 40 := by omega
    match j, h1, h2 with
    | 1, _, _ => simp [zu_at, zRow_at, pk_cpy_in (Nat.zero_le c) h40, Int32.toNatClampNeg]
    | 2, _, _ => simp [zu_at, zRow_at, pk_cpy_in (Nat.zero_le c) h40, Int32.toNatClampNeg]
    | 3, _, _ => simp [zu_at, zRow_at, pk_cpy_in (Nat.zero_le c) h40, Int32.toNatClampNeg]
    | 4, _, _ => simp [zu_at, zRow_at, pk_cpy_in (Nat.zero_le c) h40, Int32.toNatClampNeg]
    | 5, _, _ => simp [zu_at, zRow_at, pk_cpy_in (Nat.zero_le c) h40, Int32.toNatClampNeg]
  · intro q hq
    have h5 : q < 0 + 5 := by omega
    constructor <;> simp [zu_at, zRow_at, pk_cpy_in (Nat.zero_le q) h5, Int32.toNatClampNeg]
  · intro q hq
    have h7 : q < 0 + 7 := by omega
    simp [zu_at, zRow_at, pk_cpy_in (Nat.zero_le q) h7, Int32.toNatClampNeg]
  · intro k h1 h2
    match k, h1, h2 with
    | 8, _, _ => simp [zu_at, zRow_at]
    | 9, _, _ => simp [zu_at, zRow_at]
    | 10, _, _ => simp [zu_at, zRow_at]
    | 11, _, _ => simp [zu_at, zRow_at]
    | 12, _, _ => simp [zu_at, zRow_at]
    | 13, _, _ => simp [zu_at, zRow_at]
  · simp [zu_at]
  · simp [zu_at]
set_option maxRecDepth 20000 in
theorem cl_copy_28_10 (hQ : ∀ I' L', zCop 28 10 I I' L L' → Q none (SH, I', L', RF p s r)) : zXM w mX2_copyFrom rX2_copyFrom [.ref 10, .ref 28] (SH, I, L, RF p s r) Q := by
  unfold zXM
  refine zBlkR (M := mX2_copyFrom) (nL := 2) (rt := (Option.none : Option Jvm.ClassFile.FieldType)) (blk := bX2_copyFrom_0) (T := []) 0 hX2_copyFrom_0 zChks_nil rfl rfl rfl (Nat.le_of_ble_eq_true rfl) (Nat.le_of_ble_eq_true rfl) ?_
  simp only [bX2_copyFrom_0, zRun_cons, zRun_nil, zLk, zSto, zIns, zFil, zf0, zf1, zf2, zf3, List.filter_cons, List.filter_nil, Nat.reduceAdd, Nat.reduceEqDiff, Nat.reduceLT, Nat.reduceLeDiff, Nat.reduceBEq, Nat.reduceBNe, reduceIte, if_true, if_false, Bool.false_and, Bool.true_and, Bool.and_true, Bool.and_false, Bool.not_false, Bool.not_true, Bool.false_eq_true, beq_self_eq_true, BEq.rfl, zCat1, zCat2, zCat3, zKdI, zKdL, zKdR, true_and, and_true, zSI, zSL, zSR, zu_at, and_self, and_false, false_and, lv_args, zKdZ, zKdO, zB01, zB11, Option.toList_none, Option.toList_some, List.nil_append, List.cons_append, true_or, or_true, zRow_rd, zu_rd, zo_aload_n, zo_getfield, zo_iconst, zo_bipush, zi_0, zb_40, zKd_2_0, sh_10, rf_10_0, sh_11, sh_19, rf_19_0, sh_20, sh_28, rf_28_0, sh_29, zcl_0, zcl_40, zvi_0_40, zKn_0, zN10, zN01, not_true_eq_false, not_false_eq_true, false_implies, true_implies, implies_true, eq_self, nI_1, nI_40, nI_7, vz0, vz1, zb1_e0, zb1_n0]
  refine z_cpyI (i := 29) (j := 11) (by decide +kernel : decode cX2_copyFrom 12 = .ok (.invokestatic 63, 3)) zCpW_Front sh_29 sh_11 (by decide) (by decide) (by decide) (by decide) (by decide) (by decide) (by decide) ?_
  refine zBlkR (M := mX2_copyFrom) (nL := 2) (rt := (Option.none : Option Jvm.ClassFile.FieldType)) (blk := bX2_copyFrom_15) (T := []) 0 hX2_copyFrom_15 zChks_nil rfl rfl rfl (Nat.le_of_ble_eq_true rfl) (Nat.le_of_ble_eq_true rfl) ?_
  simp only [bX2_copyFrom_15, zRun_cons, zRun_nil, zLk, zSto, zIns, zFil, zf0, zf1, zf2, zf3, List.filter_cons, List.filter_nil, Nat.reduceAdd, Nat.reduceEqDiff, Nat.reduceLT, Nat.reduceLeDiff, Nat.reduceBEq, Nat.reduceBNe, reduceIte, if_true, if_false, Bool.false_and, Bool.true_and, Bool.and_true, Bool.and_false, Bool.not_false, Bool.not_true, Bool.false_eq_true, beq_self_eq_true, BEq.rfl, zCat1, zCat2, zCat3, zKdI, zKdL, zKdR, true_and, and_true, zSI, zSL, zSR, zu_at, and_self, and_false, false_and, lv_args, zKdZ, zKdO, zB01, zB11, Option.toList_none, Option.toList_some, List.nil_append, List.cons_append, true_or, or_true, zRow_rd, zu_rd, zo_aload_n, zo_getfield, zo_iconst, zo_bipush, zi_0, zb_40, zKd_2_1, sh_10, rf_10_1, sh_12, sh_19, rf_19_1, sh_21, sh_28, rf_28_1, sh_30, zcl_0, zcl_40, zvi_0_40, zKn_0, zN10, zN01, not_true_eq_false, not_false_eq_true, false_implies, true_implies, implies_true, eq_self, nI_1, nI_40, nI_7, vz0, vz1, zb1_e0, zb1_n0]
  refine z_cpyI (i := 30) (j := 12) (by decide +kernel : decode cX2_copyFrom 27 = .ok (.invokestatic 63, 3)) zCpW_Front sh_30 sh_12 (by decide) (by decide) (by decide) (by decide) (by decide) (by decide) (by decide) ?_
  refine zBlkR (M := mX2_copyFrom) (nL := 2) (rt := (Option.none : Option Jvm.ClassFile.FieldType)) (blk := bX2_copyFrom_30) (T := []) 0 hX2_copyFrom_30 zChks_nil rfl rfl rfl (Nat.le_of_ble_eq_true rfl) (Nat.le_of_ble_eq_true rfl) ?_
  simp only [bX2_copyFrom_30, zRun_cons, zRun_nil, zLk, zSto, zIns, zFil, zf0, zf1, zf2, zf3, List.filter_cons, List.filter_nil, Nat.reduceAdd, Nat.reduceEqDiff, Nat.reduceLT, Nat.reduceLeDiff, Nat.reduceBEq, Nat.reduceBNe, reduceIte, if_true, if_false, Bool.false_and, Bool.true_and, Bool.and_true, Bool.and_false, Bool.not_false, Bool.not_true, Bool.false_eq_true, beq_self_eq_true, BEq.rfl, zCat1, zCat2, zCat3, zKdI, zKdL, zKdR, true_and, and_true, zSI, zSL, zSR, zu_at, and_self, and_false, false_and, lv_args, zKdZ, zKdO, zB01, zB11, Option.toList_none, Option.toList_some, List.nil_append, List.cons_append, true_or, or_true, zRow_rd, zu_rd, zo_aload_n, zo_getfield, zo_iconst, zo_bipush, zi_0, zb_40, zKd_2_2, sh_10, rf_10_2, sh_13, sh_19, rf_19_2, sh_22, sh_28, rf_28_2, sh_31, zcl_0, zcl_40, zvi_0_40, zKn_0, zN10, zN01, not_true_eq_false, not_false_eq_true, false_implies, true_implies, implies_true, eq_self, nI_1, nI_40, nI_7, vz0, vz1, zb1_e0, zb1_n0]
  refine z_cpyI (i := 31) (j := 13) (by decide +kernel : decode cX2_copyFrom 42 = .ok (.invokestatic 63, 3)) zCpW_Front sh_31 sh_13 (by decide) (by decide) (by decide) (by decide) (by decide) (by decide) (by decide) ?_
  refine zBlkR (M := mX2_copyFrom) (nL := 2) (rt := (Option.none : Option Jvm.ClassFile.FieldType)) (blk := bX2_copyFrom_45) (T := []) 0 hX2_copyFrom_45 zChks_nil rfl rfl rfl (Nat.le_of_ble_eq_true rfl) (Nat.le_of_ble_eq_true rfl) ?_
  simp only [bX2_copyFrom_45, zRun_cons, zRun_nil, zLk, zSto, zIns, zFil, zf0, zf1, zf2, zf3, List.filter_cons, List.filter_nil, Nat.reduceAdd, Nat.reduceEqDiff, Nat.reduceLT, Nat.reduceLeDiff, Nat.reduceBEq, Nat.reduceBNe, reduceIte, if_true, if_false, Bool.false_and, Bool.true_and, Bool.and_true, Bool.and_false, Bool.not_false, Bool.not_true, Bool.false_eq_true, beq_self_eq_true, BEq.rfl, zCat1, zCat2, zCat3, zKdI, zKdL, zKdR, true_and, and_true, zSI, zSL, zSR, zu_at, and_self, and_false, false_and, lv_args, zKdZ, zKdO, zB01, zB11, Option.toList_none, Option.toList_some, List.nil_append, List.cons_append, true_or, or_true, zRow_rd, zu_rd, zo_aload_n, zo_getfield, zo_iconst, zo_bipush, zi_0, zb_40, zKd_2_3, sh_10, rf_10_3, sh_14, sh_19, rf_19_3, sh_23, sh_28, rf_28_3, sh_32, zcl_0, zcl_40, zvi_0_40, zKn_0, zN10, zN01, not_true_eq_false, not_false_eq_true, false_implies, true_implies, implies_true, eq_self, nI_1, nI_40, nI_7, vz0, vz1, zb1_e0, zb1_n0]
  refine z_cpyI (i := 32) (j := 14) (by decide +kernel : decode cX2_copyFrom 57 = .ok (.invokestatic 63, 3)) zCpW_Front sh_32 sh_14 (by decide) (by decide) (by decide) (by decide) (by decide) (by decide) (by decide) ?_
  refine zBlkR (M := mX2_copyFrom) (nL := 2) (rt := (Option.none : Option Jvm.ClassFile.FieldType)) (blk := bX2_copyFrom_60) (T := []) 0 hX2_copyFrom_60 zChks_nil rfl rfl rfl (Nat.le_of_ble_eq_true rfl) (Nat.le_of_ble_eq_true rfl) ?_
  simp only [bX2_copyFrom_60, zRun_cons, zRun_nil, zLk, zSto, zIns, zFil, zf0, zf1, zf2, zf3, List.filter_cons, List.filter_nil, Nat.reduceAdd, Nat.reduceEqDiff, Nat.reduceLT, Nat.reduceLeDiff, Nat.reduceBEq, Nat.reduceBNe, reduceIte, if_true, if_false, Bool.false_and, Bool.true_and, Bool.and_true, Bool.and_false, Bool.not_false, Bool.not_true, Bool.false_eq_true, beq_self_eq_true, BEq.rfl, zCat1, zCat2, zCat3, zKdI, zKdL, zKdR, true_and, and_true, zSI, zSL, zSR, zu_at, and_self, and_false, false_and, lv_args, zKdZ, zKdO, zB01, zB11, Option.toList_none, Option.toList_some, List.nil_append, List.cons_append, true_or, or_true, zRow_rd, zu_rd, zo_aload_n, zo_getfield, zo_iconst, zo_bipush, zi_0, zb_40, zKd_2_4, sh_10, rf_10_4, sh_15, sh_19, rf_19_4, sh_24, sh_28, rf_28_4, sh_33, zcl_0, zcl_40, zvi_0_40, zKn_0, zN10, zN01, not_true_eq_false, not_false_eq_true, false_implies, true_implies, implies_true, eq_self, nI_1, nI_40, nI_7, vz0, vz1, zb1_e0, zb1_n0]
  refine z_cpyI (i := 33) (j := 15) (by decide +kernel : decode cX2_copyFrom 72 = .ok (.invokestatic 63, 3)) zCpW_Front sh_33 sh_15 (by decide) (by decide) (by decide) (by decide) (by decide) (by decide) (by decide) ?_
  refine zBlkR (M := mX2_copyFrom) (nL := 2) (rt := (Option.none : Option Jvm.ClassFile.FieldType)) (blk := bX2_copyFrom_75) (T := []) 0 hX2_copyFrom_75 zChks_nil rfl rfl rfl (Nat.le_of_ble_eq_true rfl) (Nat.le_of_ble_eq_true rfl) ?_
  simp only [bX2_copyFrom_75, zRun_cons, zRun_nil, zLk, zSto, zIns, zFil, zf0, zf1, zf2, zf3, List.filter_cons, List.filter_nil, Nat.reduceAdd, Nat.reduceEqDiff, Nat.reduceLT, Nat.reduceLeDiff, Nat.reduceBEq, Nat.reduceBNe, reduceIte, if_true, if_false, Bool.false_and, Bool.true_and, Bool.and_true, Bool.and_false, Bool.not_false, Bool.not_true, Bool.false_eq_true, beq_self_eq_true, BEq.rfl, zCat1, zCat2, zCat3, zKdI, zKdL, zKdR, true_and, and_true, zSI, zSL, zSR, zu_at, and_self, and_false, false_and, lv_args, zKdZ, zKdO, zB01, zB11, Option.toList_none, Option.toList_some, List.nil_append, List.cons_append, true_or, or_true, zRow_rd, zu_rd, zo_aload_n, zo_getfield, zo_iconst, zi_0, zi_5, zKd_2_5, sh_10, rf_10_5, sh_16, sh_19, rf_19_5, sh_25, sh_28, rf_28_5, sh_34, zcl_0, zcl_5, zvi_0_5, zKn_0, zN10, zN01, not_true_eq_false, not_false_eq_true, false_implies, true_implies, implies_true, eq_self, nI_1, nI_40, nI_7, vz0, vz1, zb1_e0, zb1_n0]
  refine z_cpyI (i := 34) (j := 16) (by decide +kernel : decode cX2_copyFrom 86 = .ok (.invokestatic 63, 3)) zCpW_Front sh_34 sh_16 (by decide) (by decide) (by decide) (by decide) (by decide) (by decide) (by decide) ?_
  refine zBlkR (M := mX2_copyFrom) (nL := 2) (rt := (Option.none : Option Jvm.ClassFile.FieldType)) (blk := bX2_copyFrom_89) (T := []) 0 hX2_copyFrom_89 zChks_nil rfl rfl rfl (Nat.le_of_ble_eq_true rfl) (Nat.le_of_ble_eq_true rfl) ?_
  simp only [bX2_copyFrom_89, zRun_cons, zRun_nil, zLk, zSto, zIns, zFil, zf0, zf1, zf2, zf3, List.filter_cons, List.filter_nil, Nat.reduceAdd, Nat.reduceEqDiff, Nat.reduceLT, Nat.reduceLeDiff, Nat.reduceBEq, Nat.reduceBNe, reduceIte, if_true, if_false, Bool.false_and, Bool.true_and, Bool.and_true, Bool.and_false, Bool.not_false, Bool.not_true, Bool.false_eq_true, beq_self_eq_true, BEq.rfl, zCat1, zCat2, zCat3, zKdI, zKdL, zKdR, true_and, and_true, zSI, zSL, zSR, zu_at, and_self, and_false, false_and, lv_args, zKdZ, zKdO, zB01, zB11, Option.toList_none, Option.toList_some, List.nil_append, List.cons_append, true_or, or_true, zRow_rd, zu_rd, zo_aload_n, zo_getfield, zo_iconst, zi_0, zi_5, zKd_2_6, sh_10, rf_10_6, sh_17, sh_19, rf_19_6, sh_26, sh_28, rf_28_6, sh_35, zcl_0, zcl_5, zvi_0_5, zKn_0, zN10, zN01, not_true_eq_false, not_false_eq_true, false_implies, true_implies, implies_true, eq_self, nI_1, nI_40, nI_7, vz0, vz1, zb1_e0, zb1_n0]
  refine z_cpyI (i := 35) (j := 17) (by decide +kernel : decode cX2_copyFrom 100 = .ok (.invokestatic 63, 3)) zCpW_Front sh_35 sh_17 (by decide) (by decide) (by decide) (by decide) (by decide) (by decide) (by decide) ?_
  refine zBlkR (M := mX2_copyFrom) (nL := 2) (rt := (Option.none : Option Jvm.ClassFile.FieldType)) (blk := bX2_copyFrom_103) (T := []) 0 hX2_copyFrom_103 zChks_nil rfl rfl rfl (Nat.le_of_ble_eq_true rfl) (Nat.le_of_ble_eq_true rfl) ?_
  simp only [bX2_copyFrom_103, zRun_cons, zRun_nil, zLk, zSto, zIns, zFil, zf0, zf1, zf2, zf3, List.filter_cons, List.filter_nil, Nat.reduceAdd, Nat.reduceEqDiff, Nat.reduceLT, Nat.reduceLeDiff, Nat.reduceBEq, Nat.reduceBNe, reduceIte, if_true, if_false, Bool.false_and, Bool.true_and, Bool.and_true, Bool.and_false, Bool.not_false, Bool.not_true, Bool.false_eq_true, beq_self_eq_true, BEq.rfl, zCat1, zCat2, zCat3, zKdI, zKdL, zKdR, true_and, and_true, zSI, zSL, zSR, zu_at, and_self, and_false, false_and, lv_args, zKdZ, zKdO, zB01, zB11, Option.toList_none, Option.toList_some, List.nil_append, List.cons_append, true_or, or_true, zRow_rd, zu_rd, zo_aload_n, zo_getfield, zo_iconst, zo_bipush, zi_0, zb_7, zKd_2_7, sh_10, rf_10_7, sh_18, sh_19, rf_19_7, sh_27, sh_28, rf_28_7, sh_36, zcl_0, zcl_7, zvi_0_7, zKn_0, zN10, zN01, not_true_eq_false, not_false_eq_true, false_implies, true_implies, implies_true, eq_self, nI_1, nI_40, nI_7, vz0, vz1, zb1_e0, zb1_n0]
  refine z_cpyI (i := 36) (j := 18) (by decide +kernel : decode cX2_copyFrom 115 = .ok (.invokestatic 63, 3)) zCpW_Front sh_36 sh_18 (by decide) (by decide) (by decide) (by decide) (by decide) (by decide) (by decide) ?_
  refine zBlkR (M := mX2_copyFrom) (nL := 2) (rt := (Option.none : Option Jvm.ClassFile.FieldType)) (blk := bX2_copyFrom_118) (T := []) 0 hX2_copyFrom_118 zChks_nil rfl rfl rfl (Nat.le_of_ble_eq_true rfl) (Nat.le_of_ble_eq_true rfl) ?_
  simp only [bX2_copyFrom_118, zRun_cons, zRun_nil, zLk, zSto, zIns, zFil, zf0, zf1, zf2, zf3, List.filter_cons, List.filter_nil, Nat.reduceAdd, Nat.reduceEqDiff, Nat.reduceLT, Nat.reduceLeDiff, Nat.reduceBEq, Nat.reduceBNe, reduceIte, if_true, if_false, Bool.false_and, Bool.true_and, Bool.and_true, Bool.and_false, Bool.not_false, Bool.not_true, Bool.false_eq_true, beq_self_eq_true, BEq.rfl, zCat1, zCat2, zCat3, zKdI, zKdL, zKdR, true_and, and_true, zSI, zSL, zSR, zu_at, and_self, and_false, false_and, lv_args, zKdZ, zKdO, zB01, zB11, Option.toList_none, Option.toList_some, List.nil_append, List.cons_append, true_or, or_true, zRow_rd, zu_rd, zo_aload_n, zo_getfield, zo_putfield, zo_putfield_2, zo_putfield_3, zo_return_, zKd_2_8, zTy_2_8, zKd_2_9, zTy_2_9, zKd_2_10, zTy_2_10, zKd_2_11, zTy_2_11, zKd_2_12, zTy_2_12, zKd_2_13, zTy_2_13, zKd_2_14, zTy_2_14, zKd_2_15, zTy_2_15, sh_10, sh_19, sh_28, zPutC, zKn_0, zCat2, zN10, zN01, not_true_eq_false, not_false_eq_true, false_implies, true_implies, implies_true, eq_self, nI_1, nI_40, nI_7, vz0, vz1, zb1_e0, zb1_n0]
  refine hQ _ _ ⟨?_, ?_, ?_, ?_, ?_, ?_, ?_, ?_⟩
  · repeat' first | exact zKpt_rfl | refine zKpt.u ?_ ?_ | refine zRow_kp ?_ ?_
    all_goals first | (intro k; unfold zIn9; omega) | (unfold zIn9; omega)
  · repeat' first | exact zKpt_rfl | refine zKpt.u ?_ ?_
    all_goals (unfold zInL; omega)
  · intro j c h1 h2 h3
    have h40 : c < 0 + 40 := by omega
    match j, h1, h2 with
    | 1, _, _ => simp [zu_at, zRow_at, pk_cpy_in (Nat.zero_le c) h40, Int32.toNatClampNeg]
    | 2, _, _ => simp [zu_at, zRow_at, pk_cpy_in (Nat.zero_le c) h40, Int32.toNatClampNeg]
    | 3, _, _ => simp [zu_at, zRow_at, pk_cpy_in (Nat.zero_le c) h40, Int32.toNatClampNeg]
    | 4, _, _ => simp [zu_at, zRow_at, pk_cpy_in (Nat.zero_le c) h40, Int32.toNatClampNeg]
    | 5, _, _ => simp [zu_at, zRow_at, pk_cpy_in (Nat.zero_le c) h40, Int32.toNatClampNeg]
  · intro q hq
    have h5 : q < 0 + 5 := by omega
    constructor <;> simp [zu_at, zRow_at, pk_cpy_in (Nat.zero_le q) h5, Int32.toNatClampNeg]
  · intro q hq
    have h7 : q < 0 + 7 := by omega
    simp [zu_at, zRow_at, pk_cpy_in (Nat.zero_le q) h7, Int32.toNatClampNeg]
  · intro k h1 h2
    match k, h1, h2 with
    | 8, _, _ => simp [zu_at, zRow_at]
    | 9, _, _ => simp [zu_at, zRow_at]
    | 10, _, _ => simp [zu_at, zRow_at]
    | 11, _, _ => simp [zu_at, zRow_at]
    | 12, _, _ => simp [zu_at, zRow_at]
    | 13, _, _ => simp [zu_at, zRow_at]
  · simp [zu_at]
  · simp [zu_at]
theorem zCop_FC {A B : Nat} {I I' : Nat → Nat → Int32} {L L' : Nat → Nat → Int64} (h : zCop A B I I' L L') (hF : zFC A I ch V) : zFC B I' ch V := by
  obtain ⟨h1, h2, h3, h4, h5, h6, h7, h8⟩ := h
  obtain ⟨a1, a2, a3, a4, a5⟩ := hF
  refine ⟨?_, by rw [h6 8 (by omega) (by omega), a2], fun q hq => by rw [(h4 q hq).1, a3 q hq], fun q hq => by rw [(h4 q hq).2, a4 q hq], by rw [h6 9 (by omega) (by omega), a5]⟩
  rw [← a1]
  unfold vC
  funext i c
  unfold zV
  split
  · split
    · rename_i hc; exact h5 c hc
    · rfl
  · split
    · rename_i hi; exact h3 i c hi.1.1 hi.1.2 hi.2
    · rfl
theorem zCop_Rt {A B : Nat} {I I' : Nat → Nat → Int32} {L L' : Nat → Nat → Int64} (h : zCop A B I I' L L') (hF : zRtC I L A rt) : zRtC I' L' B rt := by
  obtain ⟨h1, h2, h3, h4, h5, h6, h7, h8⟩ := h
  unfold zRtC
  rw [h6 12 (by omega) (by omega), h6 13 (by omega) (by omega), h7]
  exact hF
/-- terms as they are told -/
def mTold (P : oPn) : oTm := (pR P 102 5, -1, -1, false, false, false, false, false)
/-- the class's front B -/
def zcFr (I : Nat → Nat → Int32) (L : Nat → Nat → Int64) (B : Nat) (P : oPn) (V : Nat → Nat → Int32) (d : Int64) (t kc : Nat) (rt : oRt) : Prop := zFC B I (pCh P) V ∧ I B 10 = nI t ∧ I B 11 = nI kc ∧ zRtC I L B rt ∧ L B 15 = d
/-- a front may be so -/
def FrOk (P : oPn) (V : Nat → Nat → Int32) (t kc : Nat) (rt : oRt) : Prop := oOk (pCh P) (pNp P) (pR P 102 8) V ∧ ROk P rt t ∧ t ≤ 96 ∧ ∃ cr, cr ≤ 40 ∧ kc ≤ cr ∧ pR P 102 7 = nI cr
/-- the class's plan and front -/
def zKl (I : Nat → Nat → Int32) (L : Nat → Nat → Int64) (p : Nat) (P : oPn) (V : Nat → Nat → Int32) (d : Int64) (t kc : Nat) (rt : oRt) : Prop := zPc p ∧ POk P ∧ POk2 P ∧ zClsP I p P ∧ zcFr I L 10 P V d t kc rt ∧ FrOk P V t kc rt
/-- a trial made ready -/
def zTr (I : Nat → Nat → Int32) (L : Nat → Nat → Int64) (p : Nat) (P : oPn) (m : oTm) (V : Nat → Nat → Int32) (d : Int64) (t : Nat) (rt : oRt) (br : Int32) : Prop := zCa I 40 19 9 p P m t V ∧ zRtC I L 19 rt ∧ L 19 15 = d ∧ I 9 2 = br ∧ ROk P rt t
def SCt (i _k : Nat) : Prop := i = 9 ∨ (19 ≤ i ∧ i ≤ 27) ∨ i = 53 ∨ i = 54
def SCtL (i _k : Nat) : Prop := i = 19 ∨ i = 41 ∨ i = 42
theorem SCt_row {K : Nat → Nat → Int32} (h : zKpt SCt I K) (hi : i ≠ 9 ∧ ¬ (19 ≤ i ∧ i ≤ 27) ∧ i ≠ 53 ∧ i ≠ 54) : K i = I i := funext fun k => h i k (by unfold SCt; omega)
theorem SCtL_row {K : Nat → Nat → Int64} (h : zKpt SCtL L K) (hi : i ≠ 19 ∧ i ≠ 41 ∧ i ≠ 42) : K i = L i := funext fun k => h i k (by unfold SCtL; omega)
theorem zFC_row {B ch : Nat} (h : ∀ j, j ≤ 8 → J (B + j) = I (B + j)) (hF : zFC B I ch V) : zFC B J ch V := by
  obtain ⟨a1, a2, a3, a4, a5⟩ := hF
  have e0 : J B = I B := h 0 (by omega)
  refine ⟨?_, by rw [e0, a2], fun q hq => by rw [h 6 (by omega), a3 q hq], fun q hq => by rw [h 7 (by omega), a4 q hq], by rw [e0, a5]⟩
  rw [← a1]
  unfold vC zV
  funext i c
  split
  · dsimp only; rw [h 8 (by omega)]
  · split
    · rename_i hi; dsimp only; rw [h i (by omega)]
    · rfl
theorem zcFr_row {K : Nat → Nat → Int64} {V : Nat → Nat → Int32} {d : Int64} {t kc B : Nat} (h : ∀ j, j ≤ 8 → J (B + j) = I (B + j)) (hL : K B = L B) (hF : zcFr I L B P V d t kc rt) : zcFr J K B P V d t kc rt := by
  obtain ⟨a1, a2, a3, a4, a5⟩ := hF
  have e0 : J B = I B := h 0 (by omega)
  refine ⟨zFC_row h a1, by rw [e0, a2], by rw [e0, a3], ?_, by rw [hL, a5]⟩
  unfold zRtC
  rw [e0, hL]
  exact a4
theorem zKl_t {K : Nat → Nat → Int64} {d : Int64} {t kc : Nat} (h1 : zKpt SCt I J) (h2 : zKpt SCtL L K) (h : zKl I L p P V d t kc rt) : zKl J K p P V d t kc rt := by
  obtain ⟨a1, a2, a3, a4, a5, a6⟩ := h
  refine ⟨a1, a2, a3, zClsP_row (fun j => SCt_row h1 ?_) a4, zcFr_row (fun j hj => SCt_row h1 (by omega)) (SCtL_row h2 (by omega)) a5, a6⟩
  rcases a1 with rfl | rfl <;> omega
set_option maxRecDepth 20000 in
theorem cl_prepare {d : Int64} {t kc : Nat} (hC : zKl I L p P V d t kc rt) (hQ : ∀ I' L', zKpt SCt I I' → zKpt SCtL L L' → zTr I' L' p P (mTold P) V d t rt (-1) → Q none (SH, I', L', RF p s r)) : zXM w mX9_prepare rX9_prepare [.ref 0] (SH, I, L, RF p s r) Q := by
  unfold zXM
  obtain ⟨hp, hO, hO2, hP, hF, hOk⟩ := hC
  refine zBlkR (M := mX9_prepare) (nL := 1) (rt := (Option.none : Option Jvm.ClassFile.FieldType)) (blk := bX9_prepare_0) (T := []) 0 hX9_prepare_0 zChks_nil rfl rfl rfl (Nat.le_of_ble_eq_true rfl) (Nat.le_of_ble_eq_true rfl) ?_
  simp only [bX9_prepare_0, zRun_cons, zRun_nil, zLk, zSto, zIns, zFil, zf0, zf1, zf2, zf3, List.filter_cons, List.filter_nil, Nat.reduceAdd, Nat.reduceEqDiff, Nat.reduceLT, Nat.reduceLeDiff, Nat.reduceBEq, Nat.reduceBNe, reduceIte, if_true, if_false, Bool.false_and, Bool.true_and, Bool.and_true, Bool.and_false, Bool.not_false, Bool.not_true, Bool.false_eq_true, beq_self_eq_true, BEq.rfl, zCat1, zCat2, zCat3, zKdI, zKdL, zKdR, true_and, and_true, zSI, zSL, zSR, zu_at, and_self, and_false, false_and, lv_args, zKdZ, zKdO, zB01, zB11, Option.toList_none, Option.toList_some, List.nil_append, List.cons_append, true_or, or_true, zRow_rd, zu_rd, zo_aload_n, zo_getfield, zKd_9_5, zKd_9_4, sh_0, rf_0_5, sh_19, rf_0_4, sh_10, zKn_0, zN10, zN01, not_true_eq_false, not_false_eq_true, false_implies, true_implies, implies_true, eq_self, nI_1, nI_40, nI_7, vz0, vz1, zb1_e0, zb1_n0]
  refine z_cV0 (M' := mX2_copyFrom) (R' := rX2_copyFrom) (i := 19) [.ref 10] [] eX2_copyFrom k9_319 (by decide +kernel : decode cX9_prepare 8 = .ok (.invokevirtual 319, 3)) (Nat.le_of_ble_eq_true rfl) ⟨Nat.le_of_ble_eq_true rfl, Nat.le_of_ble_eq_true rfl, Nat.le_of_ble_eq_true rfl, Nat.le_of_ble_eq_true rfl, Nat.le_of_ble_eq_true rfl⟩ rfl rfl rfl sh_19 ?_
  refine cl_copy_10_19 (fun I1 L1 hc => ?_)
  have hk1 : zKpt SCt I I1 := hc.1.mono (fun i k g => by unfold zIn9 at g; unfold SCt; omega)
  have hk2 : zKpt SCtL L L1 := hc.2.1.mono (fun i k g => by unfold zInL at g; unfold SCtL; omega)
  have hp36 := zPc_gt hp
  have hP1 : zClsP I1 p P := zClsP_row (fun j => SCt_row hk1 (by rcases hp with rfl | rfl <;> omega)) hP
  have e0 : I1 (p + 11) 0 = pR P 102 5 := hP1.2.2.2.2.2.1.1
  refine zBlkR (M := mX9_prepare) (nL := 1) (rt := (Option.none : Option Jvm.ClassFile.FieldType)) (blk := bX9_prepare_11) (T := []) 0 hX9_prepare_11 zChks_nil rfl rfl rfl (Nat.le_of_ble_eq_true rfl) (Nat.le_of_ble_eq_true rfl) ?_
  simp only [bX9_prepare_11, zRun_cons, zRun_nil, zLk, zSto, zIns, zFil, zf0, zf1, zf2, zf3, List.filter_cons, List.filter_nil, Nat.reduceAdd, Nat.reduceEqDiff, Nat.reduceLT, Nat.reduceLeDiff, Nat.reduceBEq, Nat.reduceBNe, reduceIte, if_true, if_false, Bool.false_and, Bool.true_and, Bool.and_true, Bool.and_false, Bool.not_false, Bool.not_true, Bool.false_eq_true, beq_self_eq_true, BEq.rfl, zCat1, zCat2, zCat3, zKdI, zKdL, zKdR, true_and, and_true, zSI, zSL, zSR, zu_at, and_self, and_false, false_and, lv_args, zKdZ, zKdO, zB01, zB11, Option.toList_none, Option.toList_some, List.nil_append, List.cons_append, true_or, or_true, zRow_rd, zu_rd, zo_aload_n, zo_getfield, zo_iconst, zo_iaload, zi_0, zKd_9_3, zKd_9_12, zKd_4_13, sh_0, rf_0_3, sh_9, rf_0_12, sh_55, rf_55_13, sh_66, sh_71, rf_71_13, sh_82, zcl_0, zvi_0_7, zKn_0, (psh_0 hp), (psh_1 hp), (psh_2 hp), (psh_3 hp), (psh_4 hp), (psh_5 hp), (psh_6 hp), (psh_7 hp), (psh_8 hp), (psh_9 hp), (psh_10 hp), (psh_11 hp), (psh_12 hp), (psh_13 hp), (psh_14 hp), (psh_15 hp), (prf_1 hp), (prf_2 hp), (prf_3 hp), (prf_4 hp), (prf_6 hp), (prf_7 hp), (prf_8 hp), (prf_10 hp), (prf_11 hp), (prf_12 hp), (prf_13 hp), (prf_15 hp), (prf_17 hp), (prf_18 hp), (prf_19 hp), Nat.add_left_cancel_iff, Nat.left_eq_add, Nat.add_eq_left, e0, zvi_0_7, zN10, zN01, not_true_eq_false, not_false_eq_true, false_implies, true_implies, implies_true, eq_self, nI_1, nI_40, nI_7, vz0, vz1, zb1_e0, zb1_n0]
  refine z_cV0 (M' := mX6_clear) (R' := rX6_clear) (i := 9) [.int (pR P 102 5)] [] eX6_clear k9_335 (by decide +kernel : decode cX9_prepare 24 = .ok (.invokevirtual 335, 3)) (Nat.le_of_ble_eq_true rfl) ⟨Nat.le_of_ble_eq_true rfl, Nat.le_of_ble_eq_true rfl, Nat.le_of_ble_eq_true rfl, Nat.le_of_ble_eq_true rfl, Nat.le_of_ble_eq_true rfl⟩ rfl rfl rfl sh_9 ?_
  refine sp_termsClear sh_9 ?_
  refine zBlkR (M := mX9_prepare) (nL := 1) (rt := (Option.none : Option Jvm.ClassFile.FieldType)) (blk := bX9_prepare_27) (T := []) 0 hX9_prepare_27 zChks_nil rfl rfl rfl (Nat.le_of_ble_eq_true rfl) (Nat.le_of_ble_eq_true rfl) ?_
  simp only [bX9_prepare_27, zRun_cons, zRun_nil, zLk, zSto, zIns, zFil, zf0, zf1, zf2, zf3, List.filter_cons, List.filter_nil, Nat.reduceAdd, Nat.reduceEqDiff, Nat.reduceLT, Nat.reduceLeDiff, Nat.reduceBEq, Nat.reduceBNe, reduceIte, if_true, if_false, Bool.false_and, Bool.true_and, Bool.and_true, Bool.and_false, Bool.not_false, Bool.not_true, Bool.false_eq_true, beq_self_eq_true, BEq.rfl, zCat1, zCat2, zCat3, zKdI, zKdL, zKdR, true_and, and_true, zSI, zSL, zSR, zu_at, and_self, and_false, false_and, lv_args, zKdZ, zKdO, zB01, zB11, Option.toList_none, Option.toList_some, List.nil_append, List.cons_append, true_or, or_true, zRow_rd, zu_rd, zo_return_, zKn_0, zN10, zN01, not_true_eq_false, not_false_eq_true, false_implies, true_implies, implies_true, eq_self, nI_1, nI_40, nI_7, vz0, vz1, zb1_e0, zb1_n0]
  refine hQ _ L1 ?_ hk2 ⟨⟨Or.inr ⟨rfl, rfl, rfl⟩, hp, hO, hO2, ?_, ?_, ?_, ?_, hOk.1⟩, ?_, ?_, ?_, hOk.2.1⟩
  · repeat' first | exact hk1 | refine zKpt.u ?_ ?_
    all_goals (unfold SCt; omega)
  · refine zClsP_row (fun j => ?_) hP1
    funext k
    simp only [zu_at]
    simp only [show p + j ≠ 9 by omega, false_and, if_false]
  · simp [zClsM, zu_at, mTold, zb1]
  · exact zFC_row (fun j hj => by funext k; simp only [zu_at]; simp only [show 19 + j ≠ 9 by omega, false_and, if_false]) (zCop_FC hc hF.1)
  · simp only [zu_at]; simp; rw [hc.2.2.2.2.2.1 10 (by omega) (by omega)]; exact hF.2.1
  · have := zCop_Rt hc hF.2.2.2.1
    unfold zRtC at this ⊢
    simp only [zu_at]; simp; exact this
  · rw [hc.2.2.2.2.2.2.2]; exact hF.2.2.2.2
  · simp [zu_at]
theorem zTr_kp {K : Nat → Nat → Int64} (h1 : zKpt (zFW 19) I J) (h2 : zKpt (zFWL 40 19) L K) : zKpt SCt I J ∧ zKpt SCtL L K := ⟨h1.mono (fun i k g => by unfold zFW at g; unfold SCt; omega), h2.mono (fun i k g => by unfold zFWL at g; unfold SCtL; omega)⟩
set_option maxRecDepth 20000 in
theorem cl_balanceAfter {d : Int64} {t : Nat} (hw : zOk w) (hT : zTr I L p P m V d t rt br) (htn : t + n ≤ 96) (hQ : ∀ I' L', zKpt SCt I I' → zKpt SCtL L L' → Q (some (.int (oBal P (oGsb br P m rt t n (V, d)).1))) (SH, I', L', RF p s r)) : zXM w mX9_balanceAfter rX9_balanceAfter [.ref 0, .int (nI n)] (SH, I, L, RF p s r) Q := by
  unfold zXM
  obtain ⟨hC, hrt, hd, hbr, hR⟩ := hT
  have hp := hC.2.1
  refine zBlkR (M := mX9_balanceAfter) (nL := 2) (rt := (Option.some .int)) (blk := bX9_balanceAfter_0) (T := []) 0 hX9_balanceAfter_0 zChks_nil rfl rfl rfl (Nat.le_of_ble_eq_true rfl) (Nat.le_of_ble_eq_true rfl) ?_
  simp only [bX9_balanceAfter_0, zRun_cons, zRun_nil, zLk, zSto, zIns, zFil, zf0, zf1, zf2, zf3, List.filter_cons, List.filter_nil, Nat.reduceAdd, Nat.reduceEqDiff, Nat.reduceLT, Nat.reduceLeDiff, Nat.reduceBEq, Nat.reduceBNe, reduceIte, if_true, if_false, Bool.false_and, Bool.true_and, Bool.and_true, Bool.and_false, Bool.not_false, Bool.not_true, Bool.false_eq_true, beq_self_eq_true, BEq.rfl, zCat1, zCat2, zCat3, zKdI, zKdL, zKdR, true_and, and_true, zSI, zSL, zSR, zu_at, and_self, and_false, false_and, lv_args, zKdZ, zKdO, zB01, zB11, Option.toList_none, Option.toList_some, List.nil_append, List.cons_append, true_or, or_true, zRow_rd, zu_rd, zo_aload_n, zo_getfield, zo_iload_n, zKd_9_8, sh_0, rf_0_8, sh_40, zKn_0, zN10, zN01, not_true_eq_false, not_false_eq_true, false_implies, true_implies, implies_true, eq_self, nI_1, nI_40, nI_7, vz0, vz1, zb1_e0, zb1_n0]
  refine z_cV0 (M' := mX8_advance) (R' := rX8_advance) (i := 40) [.int (nI n)] [] eX8_advance k9_220 (by decide +kernel : decode cX9_balanceAfter 5 = .ok (.invokevirtual 220, 3)) (Nat.le_of_ble_eq_true rfl) ⟨Nat.le_of_ble_eq_true rfl, Nat.le_of_ble_eq_true rfl, Nat.le_of_ble_eq_true rfl, Nat.le_of_ble_eq_true rfl, Nat.le_of_ble_eq_true rfl⟩ rfl rfl rfl sh_40 ?_
  refine cl_advance (S := (V, d)) hw hC hd hR hrt htn hbr (fun I1 L1 k1 k2 c1 c2 c3 => ?_)
  obtain ⟨g1, g2⟩ := zTr_kp k1 k2
  have e5 : I1 (p + 11) 5 = pR P 102 9 := c1.2.2.2.2.1.2.2.2.2.2.1.2.2.2.2.2.1
  refine zBlkR (M := mX9_balanceAfter) (nL := 2) (rt := (Option.some .int)) (blk := bX9_balanceAfter_8) (T := []) 0 hX9_balanceAfter_8 zChks_nil rfl rfl rfl (Nat.le_of_ble_eq_true rfl) (Nat.le_of_ble_eq_true rfl) ?_
  simp only [bX9_balanceAfter_8, zRun_cons, zRun_nil, zLk, zSto, zIns, zFil, zf0, zf1, zf2, zf3, List.filter_cons, List.filter_nil, Nat.reduceAdd, Nat.reduceEqDiff, Nat.reduceLT, Nat.reduceLeDiff, Nat.reduceBEq, Nat.reduceBNe, reduceIte, if_true, if_false, Bool.false_and, Bool.true_and, Bool.and_true, Bool.and_false, Bool.not_false, Bool.not_true, Bool.false_eq_true, beq_self_eq_true, BEq.rfl, zCat1, zCat2, zCat3, zKdI, zKdL, zKdR, true_and, and_true, zSI, zSL, zSR, zu_at, and_self, and_false, false_and, lv_args, zKdZ, zKdO, zB01, zB11, Option.toList_none, Option.toList_some, List.nil_append, List.cons_append, true_or, or_true, zRow_rd, zu_rd, zo_aload_n, zo_getfield, zo_iconst, zo_iaload, zi_5, zKd_9_5, zKd_9_12, zKd_4_13, sh_0, rf_0_5, sh_19, rf_0_12, sh_55, rf_55_13, sh_66, sh_71, rf_71_13, sh_82, zcl_5, zvi_5_7, zKn_0, (psh_0 hp), (psh_1 hp), (psh_2 hp), (psh_3 hp), (psh_4 hp), (psh_5 hp), (psh_6 hp), (psh_7 hp), (psh_8 hp), (psh_9 hp), (psh_10 hp), (psh_11 hp), (psh_12 hp), (psh_13 hp), (psh_14 hp), (psh_15 hp), (prf_1 hp), (prf_2 hp), (prf_3 hp), (prf_4 hp), (prf_6 hp), (prf_7 hp), (prf_8 hp), (prf_10 hp), (prf_11 hp), (prf_12 hp), (prf_13 hp), (prf_15 hp), (prf_17 hp), (prf_18 hp), (prf_19 hp), Nat.add_left_cancel_iff, Nat.left_eq_add, Nat.add_eq_left, e5, zvi_5_7, zN10, zN01, not_true_eq_false, not_false_eq_true, false_implies, true_implies, implies_true, eq_self, nI_1, nI_40, nI_7, vz0, vz1, zb1_e0, zb1_n0]
  refine z_cV0 (M' := mX2_balance) (R' := rX2_balance) (i := 19) [.int (pR P 102 9)] [] eX2_balance k9_226 (by decide +kernel : decode cX9_balanceAfter 21 = .ok (.invokevirtual 226, 3)) (Nat.le_of_ble_eq_true rfl) ⟨Nat.le_of_ble_eq_true rfl, Nat.le_of_ble_eq_true rfl, Nat.le_of_ble_eq_true rfl, Nat.le_of_ble_eq_true rfl, Nat.le_of_ble_eq_true rfl⟩ rfl rfl rfl sh_19 ?_
  refine cl_balance (Or.inr (Or.inl rfl)) c1.2.2.2.2.2.2.1 ?_
  refine zBlkR (M := mX9_balanceAfter) (nL := 2) (rt := (Option.some .int)) (blk := bX9_balanceAfter_24) (T := []) 0 hX9_balanceAfter_24 zChks_nil rfl rfl rfl (Nat.le_of_ble_eq_true rfl) (Nat.le_of_ble_eq_true rfl) ?_
  simp only [bX9_balanceAfter_24, zRun_cons, zRun_nil, zLk, zSto, zIns, zFil, zf0, zf1, zf2, zf3, List.filter_cons, List.filter_nil, Nat.reduceAdd, Nat.reduceEqDiff, Nat.reduceLT, Nat.reduceLeDiff, Nat.reduceBEq, Nat.reduceBNe, reduceIte, if_true, if_false, Bool.false_and, Bool.true_and, Bool.and_true, Bool.and_false, Bool.not_false, Bool.not_true, Bool.false_eq_true, beq_self_eq_true, BEq.rfl, zCat1, zCat2, zCat3, zKdI, zKdL, zKdR, true_and, and_true, zSI, zSL, zSR, zu_at, and_self, and_false, false_and, lv_args, zKdZ, zKdO, zB01, zB11, Option.toList_none, Option.toList_some, List.nil_append, List.cons_append, true_or, or_true, zRow_rd, zu_rd, zo_ireturn, zRt, zKn_0, zN10, zN01, not_true_eq_false, not_false_eq_true, false_implies, true_implies, implies_true, eq_self, nI_1, nI_40, nI_7, vz0, vz1, zb1_e0, zb1_n0]
  exact hQ I1 L1 g1 g2
/-- may n more ticks go by -/
def pRun (t : Nat) (x : Int32) : Bool := oIn x (97 - t)
theorem nI_ltS {a : Nat} {x : Int32} (ha : a + 1 < 2 ^ 31) : (nI a < x) = (nI (a + 1) ≤ x) := by
  apply propext
  rw [Int32.lt_iff_toInt_lt, Int32.le_iff_toInt_le, nI_toInt (by omega), nI_toInt ha]
  omega
theorem pRun_t (h : pRun t x = true) (ht : t ≤ 96) : ∃ n, x = nI n ∧ t + n ≤ 96 := by
  obtain ⟨n, hn, e⟩ := oIn_t h (by omega)
  exact ⟨n, e, by omega⟩
set_option maxRecDepth 20000 in
theorem cl_hasRun (ht : I 10 10 = nI t) (h9 : t ≤ 96) (hQ : Q (some (.int (zb1 (pRun t x)))) (SH, I, L, RF p s r)) : zXM w mX9_hasRun rX9_hasRun [.ref 0, .int x] (SH, I, L, RF p s r) Q := by
  unfold zXM
  have x1 : (96 : Int32) - nI t = nI (96 - t) := by rw [show (96 : Int32) = nI 96 from rfl, pk_sub h9]
  have x2 : (nI (96 - t) < x) = (nI (97 - t) ≤ x) := by rw [nI_ltS (by omega), show 96 - t + 1 = 97 - t by omega]
  refine zBlkR (M := mX9_hasRun) (nL := 2) (rt := (Option.some .boolean)) (blk := bX9_hasRun_0) (T := [(22, bX9_hasRun_22), (23, bX9_hasRun_23)]) 1 hX9_hasRun_0 (zChks_cons hX9_hasRun_22 (zChks_cons hX9_hasRun_23 zChks_nil)) rfl rfl rfl (Nat.le_of_ble_eq_true rfl) (Nat.le_of_ble_eq_true rfl) ?_
  simp only [bX9_hasRun_0, bX9_hasRun_22, bX9_hasRun_23, zRun_cons, zRun_nil, zLk, zSto, zIns, zFil, zf0, zf1, zf2, zf3, List.filter_cons, List.filter_nil, Nat.reduceAdd, Nat.reduceEqDiff, Nat.reduceLT, Nat.reduceLeDiff, Nat.reduceBEq, Nat.reduceBNe, reduceIte, if_true, if_false, Bool.false_and, Bool.true_and, Bool.and_true, Bool.and_false, Bool.not_false, Bool.not_true, Bool.false_eq_true, beq_self_eq_true, BEq.rfl, zCat1, zCat2, zCat3, zKdI, zKdL, zKdR, true_and, and_true, zSI, zSL, zSR, zu_at, and_self, and_false, false_and, lv_args, zKdZ, zKdO, zB01, zB11, Option.toList_none, Option.toList_some, List.nil_append, List.cons_append, true_or, or_true, zRow_rd, zu_rd, zo_iload_n, zo_if_lt, zo_bipush, zo_aload_n, zo_getfield, zo_isub, zo_icmp_gt, zo_iconst, zo_goto, zo_ireturn, zb_96, zi_1, zi_0, zKd_9_4, zKd_2_10, zcl_96, sh_0, rf_0_4, sh_10, sh_19, sh_28, zcl_1, zcl_0, zRt, zKn_s, zKn_0, zFind, ht, x1, x2, zN10, zN01, not_true_eq_false, not_false_eq_true, false_implies, true_implies, implies_true, eq_self, nI_1, nI_40, nI_7, vz0, vz1, zb1_e0, zb1_n0]
  unfold pRun oIn at hQ
  by_cases h1 : x < 0 <;> by_cases h2 : nI (97 - t) ≤ x <;> simp [zb1, h1, h2] at hQ ⊢ <;> exact hQ
end ZC72
