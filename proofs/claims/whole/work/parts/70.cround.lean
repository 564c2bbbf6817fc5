/-! ===== THE CLASS: the boy goes round; ticks ===== -/
/-- where a front keeps its route -/
def zRtC (I : Nat → Nat → Int32) (L : Nat → Nat → Int64) (B : Nat) (rt : oRt) : Prop := I B 12 = nI rt.1 ∧ I B 13 = nI rt.2.1 ∧ ∀ k, k < rt.1 → (L B 14 >>> ((4 * nI k).toInt64 &&& 63)).toInt32 &&& 15 = nI (rt.2.2 k)
/-- what a walk may change: chairs, sums, stacked, tick, carried -/
def zFW (B i k : Nat) : Prop := (B + 1 ≤ i ∧ i ≤ B + 8) ∨ (i = B ∧ 9 ≤ k ∧ k ≤ 11)
section ZC70
variable {w : zP} {Q : Option Value → zMem → Prop} {μ : zMem} {I J V V' : Nat → Nat → Int32} {L : Nat → Nat → Int64} {p s W B T t : Nat} {r : Option Nat} {P : oPn} {m : oTm} {c i k q wh ch : Nat} {x till : Int32} {S : oS} {rt : oRt}
theorem zFB_FW (h : zKpt (zFB B) I J) : zKpt (zFW B) I J := h.mono (fun i k g => by unfold zFB at g; unfold zFW; omega)
theorem zWS_FWL {K : Nat → Nat → Int64} (h : zKpt (zWS W) L K) : zKpt (zFWL W B) L K := h.mono (fun i k g => Or.inl g)
theorem zWS2_FWL {K : Nat → Nat → Int64} (h : zKpt (zWS2 W) L K) : zKpt (zFWL W B) L K := h.mono (fun i k g => by unfold zWS2 at g; unfold zFWL; omega)
theorem zWc_BW (h : zWc W B T) : B ≠ W + 1 ∧ B ≠ W + 2 ∧ T ≠ B := by rcases h with ⟨rfl, rfl, rfl⟩ | ⟨rfl, rfl, rfl⟩ <;> decide
set_option maxRecDepth 20000 in
theorem cl_ask48 {dg : Int64} {odds : Int32} (hC : zCw I W B T p P m t S.1) (hd : L B 15 = S.2) (hq : q < pNp P) (hhit : ∀ d, decide (oNext d >>> ((16 : Int32).toInt64 &&& 63) - oNext d >>> ((16 : Int32).toInt64 &&& 63) / 100 * 100 < dg) = oHit odds (oNext d)) (hQ : ∀ I' L', zKpt (zFB B) I I' → zKpt (zFWL W B) L L' → zCw I' W B T p P m t (zIter (oAsk1 odds (mPr m) q) (pCh P) S).1 → L' B 15 = (zIter (oAsk1 odds (mPr m) q) (pCh P) S).2 → Q none (SH, I', L', RF p s r)) : zX w mX8_askAt rX8_askAt Q 0 0 48 [(0, Value.ref W), (1, Value.int (nI q)), (2, Value.long dg), (4, Value.int (nI 0))] [] (SH, I, L, RF p s r) := by
  have hW := hC.hW
  have hB := wB hW
  have hch := hC.ch
  refine zLoop (n := pCh P) (P := fun c => ∀ J K, zKpt (zFB B) I J → zKpt (zFWL W B) L K → zCw J W B T p P m t (zIter (oAsk1 odds (mPr m) q) c S).1 → K B 15 = (zIter (oAsk1 odds (mPr m) q) c S).2 → zX w mX8_askAt rX8_askAt Q 0 0 48 [(0, Value.ref W), (1, Value.int (nI q)), (2, Value.long dg), (4, Value.int (nI c))] [] (SH, J, K, RF p s r)) (fun c hc ih => ?_) 0 (Nat.zero_le _) I L zKpt_rfl zKpt_rfl hC hd
  intro J K hJ hK hCJ hdK
  generalize hU : zIter (oAsk1 odds (mPr m) q) c S = U at *
  have ihU : zIter (oAsk1 odds (mPr m) q) (c + 1) S = oAsk1 odds (mPr m) q c U := by rw [zIter, hU]
  rw [ihU] at ih
  have h8 := hCJ.hF.2.1
  by_cases hcc : c = pCh P
  · refine zBlkR (M := mX8_askAt) (nL := 5) (rt := (Option.none : Option Jvm.ClassFile.FieldType)) (blk := bX8_askAt_48) (T := [(196, bX8_askAt_196), (202, bX8_askAt_202)]) 1 hX8_askAt_48 (zChks_cons hX8_askAt_196 (zChks_cons hX8_askAt_202 zChks_nil)) rfl rfl rfl (Nat.le_of_ble_eq_true rfl) (Nat.le_of_ble_eq_true rfl) ?_
    simp only [bX8_askAt_48, bX8_askAt_196, bX8_askAt_202, zRun_cons, zRun_nil, zLk, zSto, zIns, zFil, zf0, zf1, zf2, zf3, List.filter_cons, List.filter_nil, Nat.reduceAdd, Nat.reduceEqDiff, Nat.reduceLT, Nat.reduceLeDiff, Nat.reduceBEq, Nat.reduceBNe, reduceIte, if_true, if_false, Bool.false_and, Bool.true_and, Bool.and_true, Bool.and_false, Bool.not_false, Bool.not_true, Bool.false_eq_true, beq_self_eq_true, BEq.rfl, zCat1, zCat2, zCat3, zKdI, zKdL, zKdR, true_and, and_true, zSI, zSL, zSR, zu_at, and_self, and_false, false_and, lv_args, zKdZ, zKdO, zB01, zB11, Option.toList_none, Option.toList_some, List.nil_append, List.cons_append, true_or, or_true, zRow_rd, zu_rd, zo_iload, zo_aload_n, zo_getfield, zo_icmp_ge, zo_iaload, zo_iconst, zo_icmp_ne, zo_iload_n, zo_if_ne, zo_iinc, zo_goto, zo_return_, zi_2, zi_1, zKd_8_0, zKd_2_8, zKd_2_0, zKd_2_1, zKd_2_4, zKd_2_15, sh_37, rf_37_0, sh_10, sh_40, rf_40_0, sh_19, sh_28, rf_10_0, sh_11, rf_19_0, sh_20, rf_28_0, sh_29, zcl_2, rf_10_1, sh_12, rf_19_1, sh_21, rf_28_1, sh_30, rf_10_4, sh_15, rf_19_4, sh_24, rf_28_4, sh_33, zvi_2_40, zKn_s, zKn_0, zFind, (wsh_0 hW), (wsh_1 hW), (wsh_2 hW), (wsh_3 hW), (wrf_0 hW), (wrf_1 hW), (wrf_2 hW), (wrf_3 hW), (wrf_4 hW), Nat.add_left_cancel_iff, Nat.left_eq_add, Nat.add_eq_left, (fsh_0 hB), (fsh_1 hB), (fsh_2 hB), (fsh_3 hB), (fsh_4 hB), (fsh_5 hB), (fsh_6 hB), (fsh_7 hB), (fsh_8 hB), (frf_0 hB), (frf_1 hB), (frf_2 hB), (frf_3 hB), (frf_4 hB), (frf_5 hB), (frf_6 hB), (frf_7 hB), Nat.add_left_cancel_iff, Nat.left_eq_add, Nat.add_eq_left, h8, zCat2, zle_nat (a := pCh P) (b := c) (by omega) (by omega), zN10, zN01, not_true_eq_false, not_false_eq_true, false_implies, true_implies, implies_true, eq_self, nI_1, nI_40, nI_7, vz0, vz1, zb1_e0, zb1_n0]
    exact ⟨fun _ => hQ J K hJ hK (by rw [← hcc, hU]; exact hCJ) (by rw [← hcc, hU]; exact hdK), fun h => absurd (by omega) h⟩
  have hc4 : c < 40 := by omega
  have hv : vp_in (nI c) 40 := zvn (by omega) (by omega)
  have hx : (nI (pCh P) ≤ nI c) = False := eq_false (by rw [zle_nat (by omega) (by omega)]; omega)
  have v1 := hCJ.hF.v1 hc4
  have v2 := hCJ.hF.v2 hc4
  have v5 := hCJ.hF.v5 hc4
  have ih := ih (by omega)
  refine zBlkR (M := mX8_askAt) (nL := 5) (rt := (Option.none : Option Jvm.ClassFile.FieldType)) (blk := bX8_askAt_48) (T := [(196, bX8_askAt_196), (202, bX8_askAt_202)]) 1 hX8_askAt_48 (zChks_cons hX8_askAt_196 (zChks_cons hX8_askAt_202 zChks_nil)) rfl rfl rfl (Nat.le_of_ble_eq_true rfl) (Nat.le_of_ble_eq_true rfl) ?_
  simp only [bX8_askAt_48, bX8_askAt_196, bX8_askAt_202, zRun_cons, zRun_nil, zLk, zSto, zIns, zFil, zf0, zf1, zf2, zf3, List.filter_cons, List.filter_nil, Nat.reduceAdd, Nat.reduceEqDiff, Nat.reduceLT, Nat.reduceLeDiff, Nat.reduceBEq, Nat.reduceBNe, reduceIte, if_true, if_false, Bool.false_and, Bool.true_and, Bool.and_true, Bool.and_false, Bool.not_false, Bool.not_true, Bool.false_eq_true, beq_self_eq_true, BEq.rfl, zCat1, zCat2, zCat3, zKdI, zKdL, zKdR, true_and, and_true, zSI, zSL, zSR, zu_at, and_self, and_false, false_and, lv_args, zKdZ, zKdO, zB01, zB11, Option.toList_none, Option.toList_some, List.nil_append, List.cons_append, true_or, or_true, zRow_rd, zu_rd, zo_iload, zo_aload_n, zo_getfield, zo_icmp_ge, zo_iaload, zo_iconst, zo_icmp_ne, zo_iload_n, zo_if_ne, zo_iinc, zo_goto, zo_return_, zi_2, zi_1, zKd_8_0, zKd_2_8, zKd_2_0, zKd_2_1, zKd_2_4, zKd_2_15, sh_37, rf_37_0, sh_10, sh_40, rf_40_0, sh_19, sh_28, rf_10_0, sh_11, rf_19_0, sh_20, rf_28_0, sh_29, zcl_2, rf_10_1, sh_12, rf_19_1, sh_21, rf_28_1, sh_30, rf_10_4, sh_15, rf_19_4, sh_24, rf_28_4, sh_33, zvi_2_40, zKn_s, zKn_0, zFind, (wsh_0 hW), (wsh_1 hW), (wsh_2 hW), (wsh_3 hW), (wrf_0 hW), (wrf_1 hW), (wrf_2 hW), (wrf_3 hW), (wrf_4 hW), Nat.add_left_cancel_iff, Nat.left_eq_add, Nat.add_eq_left, (fsh_0 hB), (fsh_1 hB), (fsh_2 hB), (fsh_3 hB), (fsh_4 hB), (fsh_5 hB), (fsh_6 hB), (fsh_7 hB), (fsh_8 hB), (frf_0 hB), (frf_1 hB), (frf_2 hB), (frf_3 hB), (frf_4 hB), (frf_5 hB), (frf_6 hB), (frf_7 hB), Nat.add_left_cancel_iff, Nat.left_eq_add, Nat.add_eq_left, h8, hx, hv, v1, v2, v5, hdK, zCat2, nI_clamp (n := c) (by omega), zN10, zN01, not_true_eq_false, not_false_eq_true, false_implies, true_implies, implies_true, eq_self, nI_1, nI_40, nI_7, vz0, vz1, zb1_e0, zb1_n0]
  refine ⟨fun h1 => ?_, fun h1 => ⟨fun h2 => ?_, fun h2 => ⟨fun h3 => ?_, fun h3 => ?_⟩⟩⟩
  · rw [oAsk1, if_neg (fun g => h1 g.1)] at ih
    exact ih J K hJ hK hCJ hdK
  · rw [oAsk1, if_neg (fun g => h2 g.2.1)] at ih
    exact ih J K hJ hK hCJ hdK
  · rw [oAsk1, if_neg (fun g => h3 g.2.2)] at ih
    exact ih J K hJ hK hCJ hdK
  · refine z_cS0 (M' := mX2_following) (R' := rX2_following) [.long U.2] [.ref B] eX2_following k8_205 (by decide +kernel : decode cX8_askAt 112 = .ok (.invokestatic 205, 3)) (Nat.le_of_ble_eq_true rfl) ⟨Nat.le_of_ble_eq_true rfl, Nat.le_of_ble_eq_true rfl, Nat.le_of_ble_eq_true rfl, Nat.le_of_ble_eq_true rfl, Nat.le_of_ble_eq_true rfl⟩ rfl rfl rfl ?_
    refine cl_following ?_
    refine zBlkR (M := mX8_askAt) (nL := 5) (rt := (Option.none : Option Jvm.ClassFile.FieldType)) (blk := bX8_askAt_115) (T := []) 0 hX8_askAt_115 zChks_nil rfl rfl rfl (Nat.le_of_ble_eq_true rfl) (Nat.le_of_ble_eq_true rfl) ?_
    simp (implicitDefEqProofs := false) only [bX8_askAt_115, zRun_cons, zRun_nil, zLk, zSto, zIns, zFil, zf0, zf1, zf2, zf3, List.filter_cons, List.filter_nil, Nat.reduceAdd, Nat.reduceEqDiff, Nat.reduceLT, Nat.reduceLeDiff, Nat.reduceBEq, Nat.reduceBNe, reduceIte, if_true, if_false, Bool.false_and, Bool.true_and, Bool.and_true, Bool.and_false, Bool.not_false, Bool.not_true, Bool.false_eq_true, beq_self_eq_true, BEq.rfl, zCat1, zCat2, zCat3, zKdI, zKdL, zKdR, true_and, and_true, zSI, zSL, zSR, zu_at, and_self, and_false, false_and, lv_args, zKdZ, zKdO, zB01, zB11, Option.toList_none, Option.toList_some, List.nil_append, List.cons_append, true_or, or_true, zRow_rd, zu_rd, zo_putfield, zo_putfield_2, zo_putfield_3, zo_aload_n, zo_getfield, zKd_2_15, zTy_2_15, zKd_8_0, sh_10, sh_19, sh_28, sh_37, rf_37_0, sh_40, rf_40_0, zPutC, zKn_0, (wsh_0 hW), (wsh_1 hW), (wsh_2 hW), (wsh_3 hW), (wrf_0 hW), (wrf_1 hW), (wrf_2 hW), (wrf_3 hW), (wrf_4 hW), Nat.add_left_cancel_iff, Nat.left_eq_add, Nat.add_eq_left, (fsh_0 hB), (fsh_1 hB), (fsh_2 hB), (fsh_3 hB), (fsh_4 hB), (fsh_5 hB), (fsh_6 hB), (fsh_7 hB), (fsh_8 hB), (frf_0 hB), (frf_1 hB), (frf_2 hB), (frf_3 hB), (frf_4 hB), (frf_5 hB), (frf_6 hB), (frf_7 hB), Nat.add_left_cancel_iff, Nat.left_eq_add, Nat.add_eq_left, zCat2, zN10, zN01, not_true_eq_false, not_false_eq_true, false_implies, true_implies, implies_true, eq_self, nI_1, nI_40, nI_7, vz0, vz1, zb1_e0, zb1_n0]
    refine z_cS0 (M' := mX2_numberOf) (R' := rX2_numberOf) [.long (oNext U.2)] [] eX2_numberOf k8_209 (by decide +kernel : decode cX8_askAt 125 = .ok (.invokestatic 209, 3)) (Nat.le_of_ble_eq_true rfl) ⟨Nat.le_of_ble_eq_true rfl, Nat.le_of_ble_eq_true rfl, Nat.le_of_ble_eq_true rfl, Nat.le_of_ble_eq_true rfl, Nat.le_of_ble_eq_true rfl⟩ rfl rfl rfl ?_
    refine cl_numberOf ?_
    have hK1 : zKpt (zFWL W B) L (zu K B 15 (oNext U.2)) := hK.u (Or.inr (Or.inr ⟨rfl, rfl⟩))
    have m0 := hCJ.hM.1
    have s0 := hCJ.hF.v8 (c := 0) (by omega)
    have s1 := hCJ.hF.v8 (c := 1) (by omega)
    have s2 := hCJ.hF.v8 (c := 2) (by omega)
    have hT : (T = B) = False := eq_false (zWc_BW hW).2.2
    have hT5 : (T = B + 5) = False := eq_false (by rcases hW with ⟨rfl, rfl, rfl⟩ | ⟨rfl, rfl, rfl⟩ <;> decide)
    have hT8 : (T = B + 8) = False := eq_false (by rcases hW with ⟨rfl, rfl, rfl⟩ | ⟨rfl, rfl, rfl⟩ <;> decide)
    have hh := hhit U.2
    generalize hy : oNext U.2 >>> ((16 : Int32).toInt64 &&& 63) = y at *
    refine zBlkR (M := mX8_askAt) (nL := 5) (rt := (Option.none : Option Jvm.ClassFile.FieldType)) (blk := bX8_askAt_128) (T := [(153, bX8_askAt_153), (196, bX8_askAt_196)]) 1 hX8_askAt_128 (zChks_cons hX8_askAt_153 (zChks_cons hX8_askAt_196 zChks_nil)) rfl rfl rfl (Nat.le_of_ble_eq_true rfl) (Nat.le_of_ble_eq_true rfl) ?_
    simp (implicitDefEqProofs := false) only [bX8_askAt_128, bX8_askAt_153, bX8_askAt_196, zRun_cons, zRun_nil, zLk, zSto, zIns, zFil, zf0, zf1, zf2, zf3, List.filter_cons, List.filter_nil, Nat.reduceAdd, Nat.reduceEqDiff, Nat.reduceLT, Nat.reduceLeDiff, Nat.reduceBEq, Nat.reduceBNe, reduceIte, if_true, if_false, Bool.false_and, Bool.true_and, Bool.and_true, Bool.and_false, Bool.not_false, Bool.not_true, Bool.false_eq_true, beq_self_eq_true, BEq.rfl, zCat1, zCat2, zCat3, zKdI, zKdL, zKdR, true_and, and_true, zSI, zSL, zSR, zu_at, and_self, and_false, false_and, lv_args, zKdZ, zKdO, zB01, zB11, Option.toList_none, Option.toList_some, List.nil_append, List.cons_append, true_or, or_true, zRow_rd, zu_rd, zo_ldc2_w, zo_lrem, zo_lload_n, zo_lcmp, zo_if_ge, zo_aload_n, zo_getfield, zo_iconst, zo_dup2, zo_dup2_2, zo_iaload, zo_iadd, zo_iastore, zo_goto, zo_iload, zo_iinc, zL_100, zi_2, zi_1, zi_0, zKd_8_0, zKd_2_7, zKd_2_4, zKd_8_1, zKd_6_0, sh_37, rf_37_0, sh_10, sh_40, rf_40_0, sh_19, rf_10_7, sh_18, rf_19_7, sh_27, sh_28, rf_28_7, sh_36, zcl_2, zcl_1, rf_10_4, sh_15, rf_19_4, sh_24, rf_28_4, sh_33, zcl_0, rf_37_1, sh_8, rf_40_1, sh_9, zvi_2_7, zvi_2_40, zvi_1_7, zvi_1_40, zvi_0_7, zvi_0_40, zKn_s, zKn_0, zFind, (wsh_0 hW), (wsh_1 hW), (wsh_2 hW), (wsh_3 hW), (wrf_0 hW), (wrf_1 hW), (wrf_2 hW), (wrf_3 hW), (wrf_4 hW), Nat.add_left_cancel_iff, Nat.left_eq_add, Nat.add_eq_left, (fsh_0 hB), (fsh_1 hB), (fsh_2 hB), (fsh_3 hB), (fsh_4 hB), (fsh_5 hB), (fsh_6 hB), (fsh_7 hB), (fsh_8 hB), (frf_0 hB), (frf_1 hB), (frf_2 hB), (frf_3 hB), (frf_4 hB), (frf_5 hB), (frf_6 hB), (frf_7 hB), Nat.add_left_cancel_iff, Nat.left_eq_add, Nat.add_eq_left, hv, m0, s0, s1, s2, hT5, hT8, zvi_0_7, zvi_1_7, zvi_2_7, lc_ge, zCat2, nI_clamp (n := c) (by omega), zN10, zN01, not_true_eq_false, not_false_eq_true, false_implies, true_implies, implies_true, eq_self, nI_1, nI_40, nI_7, vz0, vz1, zb1_e0, zb1_n0]
    refine ⟨by decide, fun h4 => ?_, fun h4 => ?_⟩
    · have hf : oHit odds (oNext U.2) = false := by rw [← hh]; exact decide_eq_false (Int64.not_lt.mpr h4)
      rw [oAsk1, if_pos ⟨h1, h2, h3⟩, hf, if_neg (by decide)] at ih
      have k1 : zKpt (zFB B) J (zu (zu (zu J (B + 5) c 1) (B + 8) 1 (U.1 8 1 + 1)) (B + 8) 0 (U.1 8 0 + mPr m)) := by
        refine ((zKpt_rfl.u ?_).u ?_).u ?_ <;> unfold zFB <;> omega
      refine zX.sub' (ih _ _ (hJ.trans k1) hK1 (zCw_u hCJ k1 (zFC_same hCJ.hF ?_ ?_ ?_ ?_ ?_ ?_ ?_) ?_) (by simp [zu_at])) (by simp)
      · rw [vC_u8 (by omega), vC_u8 (by omega), vCu5 hc4, hCJ.hF.1]
      · intro d; simp [zu_at]
      · intro d; simp [zu_at]
      · simp [zu_at]
      · simp [zu_at]
      · intro d; simp [zu_at]
      · intro d; simp [zu_at]
      · have := oOk_ask1 (odds := odds) (pr := mPr m) (q := q) (c := c) hCJ.ok
        rw [oAsk1, if_pos ⟨h1, h2, h3⟩, hf, if_neg (by decide)] at this
        exact this
    · have hf : oHit odds (oNext U.2) = true := by rw [← hh]; exact decide_eq_true (Int64.not_le.mp h4)
      rw [oAsk1, if_pos ⟨h1, h2, h3⟩, hf, if_pos rfl] at ih
      have k1 : zKpt (zFB B) J (zu J (B + 8) 2 (U.1 8 2 + 1)) := zKpt_rfl.u (by unfold zFB; omega)
      refine zX.sub' (ih _ _ (hJ.trans k1) hK1 (zCw_u hCJ k1 (zFC_same hCJ.hF ?_ ?_ ?_ ?_ ?_ ?_ ?_) (oOk_s8 hCJ.ok)) (by simp [zu_at])) (by simp)
      · rw [vC_u8 (by omega), hCJ.hF.1]
      · intro d; simp [zu_at]
      · intro d; simp [zu_at]
      · simp [zu_at]
      · simp [zu_at]
      · intro d; simp [zu_at]
      · intro d; simp [zu_at]
set_option maxRecDepth 20000 in
theorem cl_askAt (hw : zOk w) (hC : zCw I W B T p P m t S.1) (hd : L B 15 = S.2) (hq : q < pNp P) (hQ : ∀ I' L', zKpt (zFB B) I I' → zKpt (zFWL W B) L L' → zCw I' W B T p P m t (oAskAt (lwP P m (nI t)) (mNd m) (mPr m) (pCh P) q S).1 → L' B 15 = (oAskAt (lwP P m (nI t)) (mNd m) (mPr m) (pCh P) q S).2 → Q none (SH, I', L', RF p s r)) : zXM w mX8_askAt rX8_askAt [.ref W, .int (nI q)] (SH, I, L, RF p s r) Q := by
  unfold zXM
  have hW := hC.hW
  have hB := wB hW
  have hp := hC.hp
  have hnp := hC.np
  have hch := hC.ch
  have hv : vp_in (nI q) 5 := zvn (by omega) (by omega)
  have o7 := hC.hF.2.2.2.1 q (by omega)
  have c2 : oCnt S.1 (nI q) 2 (pCh P) ≤ pCh P := zCnt_le _ _
  have m5 := hC.hM.2.2.2.2.1
  unfold oAskAt at hQ
  refine zBlkR (M := mX8_askAt) (nL := 5) (rt := (Option.none : Option Jvm.ClassFile.FieldType)) (blk := bX8_askAt_0) (T := []) 0 hX8_askAt_0 zChks_nil rfl rfl rfl (Nat.le_of_ble_eq_true rfl) (Nat.le_of_ble_eq_true rfl) ?_
  simp only [bX8_askAt_0, zRun_cons, zRun_nil, zLk, zSto, zIns, zFil, zf0, zf1, zf2, zf3, List.filter_cons, List.filter_nil, Nat.reduceAdd, Nat.reduceEqDiff, Nat.reduceLT, Nat.reduceLeDiff, Nat.reduceBEq, Nat.reduceBNe, reduceIte, if_true, if_false, Bool.false_and, Bool.true_and, Bool.and_true, Bool.and_false, Bool.not_false, Bool.not_true, Bool.false_eq_true, beq_self_eq_true, BEq.rfl, zCat1, zCat2, zCat3, zKdI, zKdL, zKdR, true_and, and_true, zSI, zSL, zSR, zu_at, and_self, and_false, false_and, lv_args, zKdZ, zKdO, zB01, zB11, Option.toList_none, Option.toList_some, List.nil_append, List.cons_append, true_or, or_true, zRow_rd, zu_rd, zo_aload_n, zo_getfield, zo_iload_n, zKd_8_4, sh_37, rf_37_4, sh_40, rf_40_4, zKn_0, (wsh_0 hW), (wsh_1 hW), (wsh_2 hW), (wsh_3 hW), (wrf_0 hW), (wrf_1 hW), (wrf_2 hW), (wrf_3 hW), (wrf_4 hW), Nat.add_left_cancel_iff, Nat.left_eq_add, Nat.add_eq_left, zN10, zN01, not_true_eq_false, not_false_eq_true, false_implies, true_implies, implies_true, eq_self, nI_1, nI_40, nI_7, vz0, vz1, zb1_e0, zb1_n0]
  refine z_cV0 (M' := mX4_hasPlace) (R' := rX4_hasPlace) (i := p) [.int (nI q)] [] eX4_hasPlace k8_190 (by decide +kernel : decode cX8_askAt 5 = .ok (.invokevirtual 190, 3)) (Nat.le_of_ble_eq_true rfl) ⟨Nat.le_of_ble_eq_true rfl, Nat.le_of_ble_eq_true rfl, Nat.le_of_ble_eq_true rfl, Nat.le_of_ble_eq_true rfl, Nat.le_of_ble_eq_true rfl⟩ rfl rfl rfl (psh_0 hp) ?_
  refine cl_hasPlace hp hC.i0 ?_
  rw [oIn_q hq (by omega)]
  refine zBlkR (M := mX8_askAt) (nL := 5) (rt := (Option.none : Option Jvm.ClassFile.FieldType)) (blk := bX8_askAt_8) (T := [(23, bX8_askAt_23), (24, bX8_askAt_24), (38, bX8_askAt_38), (44, bX8_askAt_44)]) 2 hX8_askAt_8 (zChks_cons hX8_askAt_23 (zChks_cons hX8_askAt_24 (zChks_cons hX8_askAt_38 (zChks_cons hX8_askAt_44 zChks_nil)))) rfl rfl rfl (Nat.le_of_ble_eq_true rfl) (Nat.le_of_ble_eq_true rfl) ?_
  simp only [bX8_askAt_8, bX8_askAt_23, bX8_askAt_24, bX8_askAt_38, bX8_askAt_44, zRun_cons, zRun_nil, zLk, zSto, zIns, zFil, zf0, zf1, zf2, zf3, List.filter_cons, List.filter_nil, Nat.reduceAdd, Nat.reduceEqDiff, Nat.reduceLT, Nat.reduceLeDiff, Nat.reduceBEq, Nat.reduceBNe, reduceIte, if_true, if_false, Bool.false_and, Bool.true_and, Bool.and_true, Bool.and_false, Bool.not_false, Bool.not_true, Bool.false_eq_true, beq_self_eq_true, BEq.rfl, zCat1, zCat2, zCat3, zKdI, zKdL, zKdR, true_and, and_true, zSI, zSL, zSR, zu_at, and_self, and_false, false_and, lv_args, zKdZ, zKdO, zB01, zB11, Option.toList_none, Option.toList_some, List.nil_append, List.cons_append, true_or, or_true, zRow_rd, zu_rd, zo_if_eq, zo_aload_n, zo_getfield, zo_iload_n, zo_iaload, zo_if_ne, zo_return_, zo_lconst, zo_goto, zo_iconst, zo_lstore_n, zo_istore, zl_0, zi_2, zi_0, zKd_8_0, zKd_2_6, zKd_8_1, zKd_6_5, sh_37, rf_37_0, sh_10, sh_40, rf_40_0, sh_19, rf_10_6, sh_17, rf_19_6, sh_26, sh_28, rf_28_6, sh_35, rf_37_1, sh_8, rf_40_1, sh_9, zcl_2, zcl_0, zvi_2_5, zvi_0_5, zKn_s, zKn_0, zFind, (wsh_0 hW), (wsh_1 hW), (wsh_2 hW), (wsh_3 hW), (wrf_0 hW), (wrf_1 hW), (wrf_2 hW), (wrf_3 hW), (wrf_4 hW), Nat.add_left_cancel_iff, Nat.left_eq_add, Nat.add_eq_left, (fsh_0 hB), (fsh_1 hB), (fsh_2 hB), (fsh_3 hB), (fsh_4 hB), (fsh_5 hB), (fsh_6 hB), (fsh_7 hB), (fsh_8 hB), (frf_0 hB), (frf_1 hB), (frf_2 hB), (frf_3 hB), (frf_4 hB), (frf_5 hB), (frf_6 hB), (frf_7 hB), Nat.add_left_cancel_iff, Nat.left_eq_add, Nat.add_eq_left, zb1_t, hv, o7, m5, zCat2, nI_clamp (n := q) (by omega), show (nI (oCnt S.1 (nI q) 2 (pCh P)) = 0) = (oCnt S.1 (nI q) 2 (pCh P) = 0) from zeq_nat (b := 0) (by omega) (by omega), zN10, zN01, not_true_eq_false, not_false_eq_true, false_implies, true_implies, implies_true, eq_self, nI_1, nI_40, nI_7, vz0, vz1, zb1_e0, zb1_n0]
  refine ⟨fun h => ⟨fun hn => ?_, fun hn => ?_⟩, fun h => ?_⟩
  · refine z_cV0 (M' := mX8_valueOf) (R' := rX8_valueOf) (i := W) [.int 2, .int (nI q)] [] eX8_valueOf k8_148 (by decide +kernel : decode cX8_askAt 41 = .ok (.invokevirtual 148, 3)) (Nat.le_of_ble_eq_true rfl) ⟨Nat.le_of_ble_eq_true rfl, Nat.le_of_ble_eq_true rfl, Nat.le_of_ble_eq_true rfl, Nat.le_of_ble_eq_true rfl, Nat.le_of_ble_eq_true rfl⟩ rfl rfl rfl (wsh_0 hW) ?_
    refine cl_valueOf (wh := 2) hw hC (by omega) hq (fun L1 k1 => ?_)
    refine zBlkR (M := mX8_askAt) (nL := 5) (rt := (Option.none : Option Jvm.ClassFile.FieldType)) (blk := bX8_askAt_44) (T := []) 0 hX8_askAt_44 zChks_nil rfl rfl rfl (Nat.le_of_ble_eq_true rfl) (Nat.le_of_ble_eq_true rfl) ?_
    simp only [bX8_askAt_44, zRun_cons, zRun_nil, zLk, zSto, zIns, zFil, zf0, zf1, zf2, zf3, List.filter_cons, List.filter_nil, Nat.reduceAdd, Nat.reduceEqDiff, Nat.reduceLT, Nat.reduceLeDiff, Nat.reduceBEq, Nat.reduceBNe, reduceIte, if_true, if_false, Bool.false_and, Bool.true_and, Bool.and_true, Bool.and_false, Bool.not_false, Bool.not_true, Bool.false_eq_true, beq_self_eq_true, BEq.rfl, zCat1, zCat2, zCat3, zKdI, zKdL, zKdR, true_and, and_true, zSI, zSL, zSR, zu_at, and_self, and_false, false_and, lv_args, zKdZ, zKdO, zB01, zB11, Option.toList_none, Option.toList_some, List.nil_append, List.cons_append, true_or, or_true, zRow_rd, zu_rd, zo_lstore_n, zo_iconst, zo_istore, zi_0, zcl_0, zKn_0, (wsh_0 hW), (wsh_1 hW), (wsh_2 hW), (wsh_3 hW), (wrf_0 hW), (wrf_1 hW), (wrf_2 hW), (wrf_3 hW), (wrf_4 hW), Nat.add_left_cancel_iff, Nat.left_eq_add, Nat.add_eq_left, zCat2, zN10, zN01, not_true_eq_false, not_false_eq_true, false_implies, true_implies, implies_true, eq_self, nI_1, nI_40, nI_7, vz0, vz1, zb1_e0, zb1_n0]
    refine cl_ask48 (S := S) (odds := oOdds (lwP P m (nI t)) (mNd m) (pCh P) q S.1) hC (by rw [k1 _ _ (by have := (zWc_BW hW).1; unfold zWS; omega)]; exact hd) hq (fun d => ?_) (fun I2 L2 l1 l2 l3 l4 => hQ I2 L2 l1 ((zWS_FWL k1).trans l2) l3 l4)
    have := ask_hit d (mNd m) (pLw P m t S.1 2 q)
    rw [oDg, if_neg (by rw [hn]; decide)] at this
    exact this
  · have hn : mNd m = true := by simpa using hn
    refine cl_ask48 (S := S) (odds := oOdds (lwP P m (nI t)) (mNd m) (pCh P) q S.1) hC hd hq (fun d => ?_) hQ
    have := ask_hit d (mNd m) (pLw P m t S.1 2 q)
    rw [oDg, if_pos hn] at this
    exact this
  · rw [oAsk_0 h] at hQ
    exact hQ I L zKpt_rfl zKpt_rfl hC hd
set_option maxRecDepth 20000 in
theorem cl_goRound (hw : zOk w) (hC : zCw I W B T p P m t S.1) (hd : L B 15 = S.2) (hR : ROk P rt t) (hrt : zRtC I L B rt) (hQ : ∀ I' L', zKpt (zFB B) I I' → zKpt (zFWL W B) L L' → zCw I' W B T p P m t (oRound (lwP P m (nI t)) (mNd m) (mPr m) (pCh P) rt.1 rt.2.1 rt.2.2 (m2 m) t S).1 → L' B 15 = (oRound (lwP P m (nI t)) (mNd m) (mPr m) (pCh P) rt.1 rt.2.1 rt.2.2 (m2 m) t S).2 → Q none (SH, I', L', RF p s r)) : zXM w mX8_goRound rX8_goRound [.ref W] (SH, I, L, RF p s r) Q := by
  unfold zXM
  have hW := hC.hW
  have hB := wB hW
  have h9 := hC.t9
  have ht := hC.ht
  obtain ⟨r12, r13, r14⟩ := hrt
  obtain ⟨r8, rf, rp⟩ := hR
  by_cases h0 : rt.1 = 0
  · have e0 : I B 12 = 0 := by rw [r12, h0]; rfl
    have n0 : ((0 : Int32) < 0) = False := eq_false (by decide)
    refine zBlkR (M := mX8_goRound) (nL := 3) (rt := (Option.none : Option Jvm.ClassFile.FieldType)) (blk := bX8_goRound_0) (T := [(13, bX8_goRound_13)]) 1 hX8_goRound_0 (zChks_cons hX8_goRound_13 zChks_nil) rfl rfl rfl (Nat.le_of_ble_eq_true rfl) (Nat.le_of_ble_eq_true rfl) ?_
    simp only [bX8_goRound_0, bX8_goRound_13, zRun_cons, zRun_nil, zLk, zSto, zIns, zFil, zf0, zf1, zf2, zf3, List.filter_cons, List.filter_nil, Nat.reduceAdd, Nat.reduceEqDiff, Nat.reduceLT, Nat.reduceLeDiff, Nat.reduceBEq, Nat.reduceBNe, reduceIte, if_true, if_false, Bool.false_and, Bool.true_and, Bool.and_true, Bool.and_false, Bool.not_false, Bool.not_true, Bool.false_eq_true, beq_self_eq_true, BEq.rfl, zCat1, zCat2, zCat3, zKdI, zKdL, zKdR, true_and, and_true, zSI, zSL, zSR, zu_at, and_self, and_false, false_and, lv_args, zKdZ, zKdO, zB01, zB11, Option.toList_none, Option.toList_some, List.nil_append, List.cons_append, true_or, or_true, zRow_rd, zu_rd, zo_aload_n, zo_getfield, zo_istore_n, zo_iload_n, zo_if_gt, zo_return_, zo_isub, zKd_8_0, zKd_2_12, zKd_2_10, zKd_2_13, sh_37, rf_37_0, sh_10, sh_40, rf_40_0, sh_19, sh_28, zKn_s, zKn_0, zFind, (wsh_0 hW), (wsh_1 hW), (wsh_2 hW), (wsh_3 hW), (wrf_0 hW), (wrf_1 hW), (wrf_2 hW), (wrf_3 hW), (wrf_4 hW), Nat.add_left_cancel_iff, Nat.left_eq_add, Nat.add_eq_left, (fsh_0 hB), (fsh_1 hB), (fsh_2 hB), (fsh_3 hB), (fsh_4 hB), (fsh_5 hB), (fsh_6 hB), (fsh_7 hB), (fsh_8 hB), (frf_0 hB), (frf_1 hB), (frf_2 hB), (frf_3 hB), (frf_4 hB), (frf_5 hB), (frf_6 hB), (frf_7 hB), Nat.add_left_cancel_iff, Nat.left_eq_add, Nat.add_eq_left, e0, n0, zN10, zN01, not_true_eq_false, not_false_eq_true, false_implies, true_implies, implies_true, eq_self, nI_1, nI_40, nI_7, vz0, vz1, zb1_e0, zb1_n0]
    exact hQ I L zKpt_rfl zKpt_rfl (by rw [oRound, if_pos h0]; exact hC) (by rw [oRound, if_pos h0]; exact hd)
  have g0 : (0 < nI rt.1) = True := eq_true (by rw [show (0 : Int32) = nI 0 from rfl, zlt_nat (by omega) (by omega)]; omega)
  have x1 : nI t - nI rt.2.1 = nI (t - rt.2.1) := pk_sub rf
  refine zBlkR (M := mX8_goRound) (nL := 3) (rt := (Option.none : Option Jvm.ClassFile.FieldType)) (blk := bX8_goRound_0) (T := [(13, bX8_goRound_13)]) 1 hX8_goRound_0 (zChks_cons hX8_goRound_13 zChks_nil) rfl rfl rfl (Nat.le_of_ble_eq_true rfl) (Nat.le_of_ble_eq_true rfl) ?_
  simp only [bX8_goRound_0, bX8_goRound_13, zRun_cons, zRun_nil, zLk, zSto, zIns, zFil, zf0, zf1, zf2, zf3, List.filter_cons, List.filter_nil, Nat.reduceAdd, Nat.reduceEqDiff, Nat.reduceLT, Nat.reduceLeDiff, Nat.reduceBEq, Nat.reduceBNe, reduceIte, if_true, if_false, Bool.false_and, Bool.true_and, Bool.and_true, Bool.and_false, Bool.not_false, Bool.not_true, Bool.false_eq_true, beq_self_eq_true, BEq.rfl, zCat1, zCat2, zCat3, zKdI, zKdL, zKdR, true_and, and_true, zSI, zSL, zSR, zu_at, and_self, and_false, false_and, lv_args, zKdZ, zKdO, zB01, zB11, Option.toList_none, Option.toList_some, List.nil_append, List.cons_append, true_or, or_true, zRow_rd, zu_rd, zo_aload_n, zo_getfield, zo_istore_n, zo_iload_n, zo_if_gt, zo_return_, zo_isub, zKd_8_0, zKd_2_12, zKd_2_10, zKd_2_13, sh_37, rf_37_0, sh_10, sh_40, rf_40_0, sh_19, sh_28, zKn_s, zKn_0, zFind, (wsh_0 hW), (wsh_1 hW), (wsh_2 hW), (wsh_3 hW), (wrf_0 hW), (wrf_1 hW), (wrf_2 hW), (wrf_3 hW), (wrf_4 hW), Nat.add_left_cancel_iff, Nat.left_eq_add, Nat.add_eq_left, (fsh_0 hB), (fsh_1 hB), (fsh_2 hB), (fsh_3 hB), (fsh_4 hB), (fsh_5 hB), (fsh_6 hB), (fsh_7 hB), (fsh_8 hB), (frf_0 hB), (frf_1 hB), (frf_2 hB), (frf_3 hB), (frf_4 hB), (frf_5 hB), (frf_6 hB), (frf_7 hB), Nat.add_left_cancel_iff, Nat.left_eq_add, Nat.add_eq_left, r12, r13, ht, g0, x1, zN10, zN01, not_true_eq_false, not_false_eq_true, false_implies, true_implies, implies_true, eq_self, nI_1, nI_40, nI_7, vz0, vz1, zb1_e0, zb1_n0]
  refine z_cS0 (M' := mJ9_floorMod_7cf53) (R' := rJ9_floorMod_7cf53) [.int (nI (t - rt.2.1)), .int (nI rt.1)] [] eJ9_floorMod_7cf53 k8_177 (by decide +kernel : decode cX8_goRound 29 = .ok (.invokestatic 177, 3)) (Nat.le_of_ble_eq_true rfl) ⟨Nat.le_of_ble_eq_true rfl, Nat.le_of_ble_eq_true rfl, Nat.le_of_ble_eq_true rfl, Nat.le_of_ble_eq_true rfl, Nat.le_of_ble_eq_true rfl⟩ rfl rfl rfl ?_
  refine sp_floorMod (by omega) (by omega) (by omega) ?_
  have hlt : (t - rt.2.1) % rt.1 < rt.1 := Nat.mod_lt _ (by omega)
  generalize hk : (t - rt.2.1) % rt.1 = k at *
  have e1 := r14 k hlt
  have hq := rp k hlt
  refine zBlkR (M := mX8_goRound) (nL := 3) (rt := (Option.none : Option Jvm.ClassFile.FieldType)) (blk := bX8_goRound_32) (T := []) 0 hX8_goRound_32 zChks_nil rfl rfl rfl (Nat.le_of_ble_eq_true rfl) (Nat.le_of_ble_eq_true rfl) ?_
  simp only [bX8_goRound_32, zRun_cons, zRun_nil, zLk, zSto, zIns, zFil, zf0, zf1, zf2, zf3, List.filter_cons, List.filter_nil, Nat.reduceAdd, Nat.reduceEqDiff, Nat.reduceLT, Nat.reduceLeDiff, Nat.reduceBEq, Nat.reduceBNe, reduceIte, if_true, if_false, Bool.false_and, Bool.true_and, Bool.and_true, Bool.and_false, Bool.not_false, Bool.not_true, Bool.false_eq_true, beq_self_eq_true, BEq.rfl, zCat1, zCat2, zCat3, zKdI, zKdL, zKdR, true_and, and_true, zSI, zSL, zSR, zu_at, and_self, and_false, false_and, lv_args, zKdZ, zKdO, zB01, zB11, Option.toList_none, Option.toList_some, List.nil_append, List.cons_append, true_or, or_true, zRow_rd, zu_rd, zo_istore_n, zo_aload_n, zo_getfield, zo_iconst, zo_iload_n, zo_imul, zo_lshr, zo_l2i, zo_bipush, zo_iand, zi_4, zb_15, zKd_8_0, zKd_2_14, sh_37, rf_37_0, sh_10, sh_40, rf_40_0, sh_19, sh_28, zcl_4, zcl_15, zKn_0, (wsh_0 hW), (wsh_1 hW), (wsh_2 hW), (wsh_3 hW), (wrf_0 hW), (wrf_1 hW), (wrf_2 hW), (wrf_3 hW), (wrf_4 hW), Nat.add_left_cancel_iff, Nat.left_eq_add, Nat.add_eq_left, (fsh_0 hB), (fsh_1 hB), (fsh_2 hB), (fsh_3 hB), (fsh_4 hB), (fsh_5 hB), (fsh_6 hB), (fsh_7 hB), (fsh_8 hB), (frf_0 hB), (frf_1 hB), (frf_2 hB), (frf_3 hB), (frf_4 hB), (frf_5 hB), (frf_6 hB), (frf_7 hB), Nat.add_left_cancel_iff, Nat.left_eq_add, Nat.add_eq_left, e1, zCat2, zN10, zN01, not_true_eq_false, not_false_eq_true, false_implies, true_implies, implies_true, eq_self, nI_1, nI_40, nI_7, vz0, vz1, zb1_e0, zb1_n0]
  refine z_cV0 (M' := mX8_askAt) (R' := rX8_askAt) (i := W) [.int (nI (rt.2.2 k))] [] eX8_askAt k8_184 (by decide +kernel : decode cX8_goRound 49 = .ok (.invokevirtual 184, 3)) (Nat.le_of_ble_eq_true rfl) ⟨Nat.le_of_ble_eq_true rfl, Nat.le_of_ble_eq_true rfl, Nat.le_of_ble_eq_true rfl, Nat.le_of_ble_eq_true rfl, Nat.le_of_ble_eq_true rfl⟩ rfl rfl rfl (wsh_0 hW) ?_
  refine cl_askAt hw hC hd hq (fun I1 L1 k1 k2 k3 k4 => ?_)
  have e14 : L1 B 14 = L B 14 := k2 B 14 (by have := zWc_BW hW; unfold zFWL; omega)
  have m1 := k3.hM.2.1
  have x2 : nI rt.1 - 1 - nI k = nI (rt.1 - 1 - k) := by rw [show (1 : Int32) = nI 1 from rfl, pk_sub (by omega), pk_sub (by omega)]
  have e2 := r14 (rt.1 - 1 - k) (by omega)
  have hq2 := rp (rt.1 - 1 - k) (by omega)
  refine zBlkR (M := mX8_goRound) (nL := 3) (rt := (Option.none : Option Jvm.ClassFile.FieldType)) (blk := bX8_goRound_52) (T := [(85, bX8_goRound_85)]) 1 hX8_goRound_52 (zChks_cons hX8_goRound_85 zChks_nil) rfl rfl rfl (Nat.le_of_ble_eq_true rfl) (Nat.le_of_ble_eq_true rfl) ?_
  simp only [bX8_goRound_52, bX8_goRound_85, zRun_cons, zRun_nil, zLk, zSto, zIns, zFil, zf0, zf1, zf2, zf3, List.filter_cons, List.filter_nil, Nat.reduceAdd, Nat.reduceEqDiff, Nat.reduceLT, Nat.reduceLeDiff, Nat.reduceBEq, Nat.reduceBNe, reduceIte, if_true, if_false, Bool.false_and, Bool.true_and, Bool.and_true, Bool.and_false, Bool.not_false, Bool.not_true, Bool.false_eq_true, beq_self_eq_true, BEq.rfl, zCat1, zCat2, zCat3, zKdI, zKdL, zKdR, true_and, and_true, zSI, zSL, zSR, zu_at, and_self, and_false, false_and, lv_args, zKdZ, zKdO, zB01, zB11, Option.toList_none, Option.toList_some, List.nil_append, List.cons_append, true_or, or_true, zRow_rd, zu_rd, zo_aload_n, zo_getfield, zo_if_eq, zo_iconst, zo_iload_n, zo_isub, zo_imul, zo_lshr, zo_l2i, zo_bipush, zo_iand, zo_return_, zi_4, zi_1, zb_15, zKd_8_1, zKd_6_1, zKd_8_0, zKd_2_14, sh_37, rf_37_1, sh_8, sh_40, rf_40_1, sh_9, rf_37_0, sh_10, rf_40_0, sh_19, sh_28, zcl_4, zcl_1, zcl_15, zKn_s, zKn_0, zFind, (wsh_0 hW), (wsh_1 hW), (wsh_2 hW), (wsh_3 hW), (wrf_0 hW), (wrf_1 hW), (wrf_2 hW), (wrf_3 hW), (wrf_4 hW), Nat.add_left_cancel_iff, Nat.left_eq_add, Nat.add_eq_left, (fsh_0 hB), (fsh_1 hB), (fsh_2 hB), (fsh_3 hB), (fsh_4 hB), (fsh_5 hB), (fsh_6 hB), (fsh_7 hB), (fsh_8 hB), (frf_0 hB), (frf_1 hB), (frf_2 hB), (frf_3 hB), (frf_4 hB), (frf_5 hB), (frf_6 hB), (frf_7 hB), Nat.add_left_cancel_iff, Nat.left_eq_add, Nat.add_eq_left, m1, e14, x2, e2, zCat2, zN10, zN01, not_true_eq_false, not_false_eq_true, false_implies, true_implies, implies_true, eq_self, nI_1, nI_40, nI_7, vz0, vz1, zb1_e0, zb1_n0]
  refine ⟨fun h => ?_, fun h => ?_⟩
  · refine hQ I1 L1 k1 k2 ?_ ?_
    · rw [oRound, if_neg h0, if_neg (by rw [h]; decide), hk]; exact k3
    · rw [oRound, if_neg h0, if_neg (by rw [h]; decide), hk]; exact k4
  · have h2 : m2 m = true := by simpa using h
    refine z_cV0 (M' := mX8_askAt) (R' := rX8_askAt) (i := W) [.int (nI (rt.2.2 (rt.1 - 1 - k)))] [] eX8_askAt k8_184 (by decide +kernel : decode cX8_goRound 82 = .ok (.invokevirtual 184, 3)) (Nat.le_of_ble_eq_true rfl) ⟨Nat.le_of_ble_eq_true rfl, Nat.le_of_ble_eq_true rfl, Nat.le_of_ble_eq_true rfl, Nat.le_of_ble_eq_true rfl, Nat.le_of_ble_eq_true rfl⟩ rfl rfl rfl (wsh_0 hW) ?_
    refine cl_askAt hw k3 k4 hq2 (fun I2 L2 l1 l2 l3 l4 => ?_)
    refine zBlkR (M := mX8_goRound) (nL := 3) (rt := (Option.none : Option Jvm.ClassFile.FieldType)) (blk := bX8_goRound_85) (T := []) 0 hX8_goRound_85 zChks_nil rfl rfl rfl (Nat.le_of_ble_eq_true rfl) (Nat.le_of_ble_eq_true rfl) ?_
    simp only [bX8_goRound_85, zRun_cons, zRun_nil, zLk, zSto, zIns, zFil, zf0, zf1, zf2, zf3, List.filter_cons, List.filter_nil, Nat.reduceAdd, Nat.reduceEqDiff, Nat.reduceLT, Nat.reduceLeDiff, Nat.reduceBEq, Nat.reduceBNe, reduceIte, if_true, if_false, Bool.false_and, Bool.true_and, Bool.and_true, Bool.and_false, Bool.not_false, Bool.not_true, Bool.false_eq_true, beq_self_eq_true, BEq.rfl, zCat1, zCat2, zCat3, zKdI, zKdL, zKdR, true_and, and_true, zSI, zSL, zSR, zu_at, and_self, and_false, false_and, lv_args, zKdZ, zKdO, zB01, zB11, Option.toList_none, Option.toList_some, List.nil_append, List.cons_append, true_or, or_true, zRow_rd, zu_rd, zo_return_, zKn_0, zN10, zN01, not_true_eq_false, not_false_eq_true, false_implies, true_implies, implies_true, eq_self, nI_1, nI_40, nI_7, vz0, vz1, zb1_e0, zb1_n0]
    refine hQ I2 L2 (k1.trans l1) (k2.trans l2) ?_ ?_
    · rw [oRound, if_neg h0, if_pos h2, hk]; exact l3
    · rw [oRound, if_neg h0, if_pos h2, hk]; exact l4
end ZC70
