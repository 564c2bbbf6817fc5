/-! ===== THE CLASS: sitters come ===== -/
/-- longs: stack and worths of a walk -/
def zWS2 (W i _k : Nat) : Prop := i = W + 1 ∨ i = W + 2
def pWt (P : oPn) (m : oTm) (t : Nat) (V : Nat → Nat → Int32) : Nat → Int64 := oWthV (lwP P m (nI t)) (pTold P 0) (pR P 91) (pCh P) V
section ZC68
variable {w : zP} {Q : Option Value → zMem → Prop} {μ : zMem} {I J V V' : Nat → Nat → Int32} {L : Nat → Nat → Int64} {p s W B T t : Nat} {r : Option Nat} {P : oPn} {m : oTm} {c i k q wh : Nat}
theorem pWt_eq : pWt P m t V q = if pTold P 0 = true then (pLw P m t V 0 q).getD 0 else (pR P 91 q).toInt64 := rfl
set_option maxRecDepth 20000 in
theorem cl_weigh42 {x : Int64} (hC : zCw I W B T p P m t V) (hq : q < 5) (hQ : Q none (SH, I, zu L (W + 2) q (if x = jMin then 0 else x), RF p s r)) : zX w mX8_weigh rX8_weigh Q 0 0 42 [(0, Value.ref W), (1, Value.int (nI q))] [.long x] (SH, I, L, RF p s r) := by
  have hW := hC.hW
  have hv : vp_in (nI q) 5 := zvn (by omega) (by omega)
  obtain ⟨z1, h1⟩ : ∃ z, z = (-9223372036854775808 : Int) := ⟨_, rfl⟩
  rw [← zMin1 h1] at hQ
  refine zBlkR (M := mX8_weigh) (nL := 4) (rt := (Option.none : Option Jvm.ClassFile.FieldType)) (blk := bX8_weigh_42) (T := [(60, bX8_weigh_60), (61, bX8_weigh_61)]) 1 hX8_weigh_42 (zChks_cons hX8_weigh_60 (zChks_cons hX8_weigh_61 zChks_nil)) rfl rfl rfl (Nat.le_of_ble_eq_true rfl) (Nat.le_of_ble_eq_true rfl) ?_
  rw [show bX8_weigh_42 = [(.lstore_n 2, 1, 0, 0, 0), (.aload_n 0, 1, 0, 0, 0), (.getfield 15, 3, 8, 3, 0), (.iload_n 1, 1, 0, 0, 0), (.lload_n 2, 1, 0, 0, 0), (.ldc2_w 155, 3, 0, 0, z1), (.lcmp, 1, 0, 0, 0), (.ifCond .ne 7, 3, 60, 0, 0), (.lconst 0, 1, 0, 0, 0), (.goto 4, 3, 61, 0, 0)] from by rw [h1]; rfl]
  simp only [bX8_weigh_60, bX8_weigh_61, zRun_cons, zRun_nil, zLk, zSto, zIns, zFil, zf0, zf1, zf2, zf3, List.filter_cons, List.filter_nil, Nat.reduceAdd, Nat.reduceEqDiff, Nat.reduceLT, Nat.reduceLeDiff, Nat.reduceBEq, Nat.reduceBNe, reduceIte, if_true, if_false, Bool.false_and, Bool.true_and, Bool.and_true, Bool.and_false, Bool.not_false, Bool.not_true, Bool.false_eq_true, beq_self_eq_true, BEq.rfl, zCat1, zCat2, zCat3, zKdI, zKdL, zKdR, true_and, and_true, zSI, zSL, zSR, zu_at, and_self, and_false, false_and, lv_args, zKdZ, zKdO, zB01, zB11, Option.toList_none, Option.toList_some, List.nil_append, List.cons_append, true_or, or_true, zRow_rd, zu_rd, zo_lstore_n, zo_aload_n, zo_getfield, zo_iload_n, zo_lload_n, zo_ldc2_w, zo_lcmp, zo_if_ne, zo_lconst, zo_goto, zo_lastore, zo_return_, zl_0, zKd_8_3, sh_37, rf_37_3, sh_39, sh_40, rf_40_3, sh_42, zKn_s, zKn_0, zFind, (wsh_0 hW), (wsh_1 hW), (wsh_2 hW), (wsh_3 hW), (wrf_0 hW), (wrf_1 hW), (wrf_2 hW), (wrf_3 hW), (wrf_4 hW), Nat.add_left_cancel_iff, Nat.left_eq_add, Nat.add_eq_left, lc_eq, zCat2, hv, nI_clamp (n := q) (by omega), zN10, zN01, not_true_eq_false, not_false_eq_true, false_implies, true_implies, implies_true, eq_self, nI_1, nI_40, nI_7, vz0, vz1, zb1_e0, zb1_n0]
  refine ⟨fun h => ?_, fun h => ?_⟩
  · rw [if_neg h] at hQ; exact hQ
  · rw [if_pos h] at hQ; exact hQ
set_option maxRecDepth 20000 in
theorem cl_weigh (hw : zOk w) (hC : zCw I W B T p P m t V) (hq : q < pNp P) (hQ : ∀ L', zKpt (zWS2 W) L L' → (oCnt V (nI q) 1 (pCh P) ≠ 0 → L' (W + 2) q = pWt P m t V q) → (∀ j, j ≠ q → L' (W + 2) j = L (W + 2) j) → Q none (SH, I, L', RF p s r)) : zXM w mX8_weigh rX8_weigh [.ref W, .int (nI q)] (SH, I, L, RF p s r) Q := by
  unfold zXM
  have hW := hC.hW
  have hB := wB hW
  have hp := hC.hp
  have hnp := hC.np
  have hch := hC.ch
  have hv : vp_in (nI q) 5 := zvn (by omega) (by omega)
  have o6 := hC.hF.2.2.1 q (by omega)
  have c1 : oCnt V (nI q) 1 (pCh P) ≤ pCh P := zCnt_le _ _
  have vw := hC.vw hq
  refine zBlkR (M := mX8_weigh) (nL := 4) (rt := (Option.none : Option Jvm.ClassFile.FieldType)) (blk := bX8_weigh_0) (T := [(62, bX8_weigh_62)]) 1 hX8_weigh_0 (zChks_cons hX8_weigh_62 zChks_nil) rfl rfl rfl (Nat.le_of_ble_eq_true rfl) (Nat.le_of_ble_eq_true rfl) ?_
  simp only [bX8_weigh_0, bX8_weigh_62, zRun_cons, zRun_nil, zLk, zSto, zIns, zFil, zf0, zf1, zf2, zf3, List.filter_cons, List.filter_nil, Nat.reduceAdd, Nat.reduceEqDiff, Nat.reduceLT, Nat.reduceLeDiff, Nat.reduceBEq, Nat.reduceBNe, reduceIte, if_true, if_false, Bool.false_and, Bool.true_and, Bool.and_true, Bool.and_false, Bool.not_false, Bool.not_true, Bool.false_eq_true, beq_self_eq_true, BEq.rfl, zCat1, zCat2, zCat3, zKdI, zKdL, zKdR, true_and, and_true, zSI, zSL, zSR, zu_at, and_self, and_false, false_and, lv_args, zKdZ, zKdO, zB01, zB11, Option.toList_none, Option.toList_some, List.nil_append, List.cons_append, true_or, or_true, zRow_rd, zu_rd, zo_aload_n, zo_getfield, zo_iload_n, zo_iaload, zo_if_le, zo_iconst, zo_return_, zi_0, zKd_8_0, zKd_2_5, zKd_8_4, sh_37, rf_37_0, sh_10, sh_40, rf_40_0, sh_19, rf_10_5, sh_16, rf_19_5, sh_25, sh_28, rf_28_5, sh_34, rf_37_4, rf_40_4, zcl_0, zvi_0_5, zKn_s, zKn_0, zFind, (wsh_0 hW), (wsh_1 hW), (wsh_2 hW), (wsh_3 hW), (wrf_0 hW), (wrf_1 hW), (wrf_2 hW), (wrf_3 hW), (wrf_4 hW), Nat.add_left_cancel_iff, Nat.left_eq_add, Nat.add_eq_left, (fsh_0 hB), (fsh_1 hB), (fsh_2 hB), (fsh_3 hB), (fsh_4 hB), (fsh_5 hB), (fsh_6 hB), (fsh_7 hB), (fsh_8 hB), (frf_0 hB), (frf_1 hB), (frf_2 hB), (frf_3 hB), (frf_4 hB), (frf_5 hB), (frf_6 hB), (frf_7 hB), Nat.add_left_cancel_iff, Nat.left_eq_add, Nat.add_eq_left, hv, o6, nI_clamp (n := q) (by omega), show (nI (oCnt V (nI q) 1 (pCh P)) ≤ 0) = (oCnt V (nI q) 1 (pCh P) ≤ 0) from zle_nat (b := 0) (by omega) (by omega), zN10, zN01, not_true_eq_false, not_false_eq_true, false_implies, true_implies, implies_true, eq_self, nI_1, nI_40, nI_7, vz0, vz1, zb1_e0, zb1_n0]
  refine ⟨fun h => ?_, fun h => ?_⟩
  · exact hQ L zKpt_rfl (fun g => absurd (by omega) g) (fun _ _ => rfl)
  · refine z_cV0 (M' := mX4_hasLaw) (R' := rX4_hasLaw) (i := p) [.int 0] [] eX4_hasLaw k8_144 (by decide +kernel : decode cX8_weigh 17 = .ok (.invokevirtual 144, 3)) (Nat.le_of_ble_eq_true rfl) ⟨Nat.le_of_ble_eq_true rfl, Nat.le_of_ble_eq_true rfl, Nat.le_of_ble_eq_true rfl, Nat.le_of_ble_eq_true rfl, Nat.le_of_ble_eq_true rfl⟩ rfl rfl rfl (psh_0 hp) ?_
    refine cl_hasLaw (wh := 0) hp (by omega) ?_
    have e14 := (hC.hP.2.2.2.2.2.2.2 0 (by omega)).1
    have e14 : I (p + 14) 0 = if pTold P 0 = true then nI (pF P 0) else -1 := e14
    cases ht : pTold P 0 with
    | false =>
      rw [ht] at e14
      have e14 : I (p + 14) 0 = -1 := e14
      rw [e14, show (!decide ((-1 : Int32) = -1)) = false from rfl]
      have hu : ((pR P 91 q).toInt64 = -9223372036854775808) = False := eq_false (jB_min (jB_i _))
      refine zBlkR (M := mX8_weigh) (nL := 4) (rt := (Option.none : Option Jvm.ClassFile.FieldType)) (blk := bX8_weigh_20) (T := [(32, bX8_weigh_32), (60, bX8_weigh_60), (61, bX8_weigh_61)]) 2 hX8_weigh_20 (zChks_cons hX8_weigh_32 (zChks_cons hX8_weigh_60 (zChks_cons hX8_weigh_61 zChks_nil))) rfl rfl rfl (Nat.le_of_ble_eq_true rfl) (Nat.le_of_ble_eq_true rfl) ?_
      simp (implicitDefEqProofs := false) only [bX8_weigh_20, bX8_weigh_32, bX8_weigh_60, bX8_weigh_61, zRun_cons, zRun_nil, zLk, zSto, zIns, zFil, zf0, zf1, zf2, zf3, List.filter_cons, List.filter_nil, Nat.reduceAdd, Nat.reduceEqDiff, Nat.reduceLT, Nat.reduceLeDiff, Nat.reduceBEq, Nat.reduceBNe, reduceIte, if_true, if_false, Bool.false_and, Bool.true_and, Bool.and_true, Bool.and_false, Bool.not_false, Bool.not_true, Bool.false_eq_true, beq_self_eq_true, BEq.rfl, zCat1, zCat2, zCat3, zKdI, zKdL, zKdR, true_and, and_true, zSI, zSL, zSR, zu_at, and_self, and_false, false_and, lv_args, zKdZ, zKdO, zB01, zB11, Option.toList_none, Option.toList_some, List.nil_append, List.cons_append, true_or, or_true, zRow_rd, zu_rd, zo_if_eq, zo_aload_n, zo_iconst, zo_iload_n, zo_getfield, zo_iaload, zo_i2l, zo_lstore_n, zo_lload_n, zo_ldc2_w, zo_lcmp, zo_if_ne, zo_lconst, zo_goto, zo_lastore, zo_return_, zi_0, zL_m9223372036854775808, zl_0, zKd_8_4, zKd_4_2, zKd_8_3, zcl_0, sh_37, rf_37_4, sh_40, rf_40_4, sh_55, rf_55_2, sh_57, sh_71, rf_71_2, sh_73, rf_37_3, sh_39, rf_40_3, sh_42, zvi_0_5, zKn_s, zKn_0, zFind, (wsh_0 hW), (wsh_1 hW), (wsh_2 hW), (wsh_3 hW), (wrf_0 hW), (wrf_1 hW), (wrf_2 hW), (wrf_3 hW), (wrf_4 hW), Nat.add_left_cancel_iff, Nat.left_eq_add, Nat.add_eq_left, (psh_0 hp), (psh_1 hp), (psh_2 hp), (psh_3 hp), (psh_4 hp), (psh_5 hp), (psh_6 hp), (psh_7 hp), (psh_8 hp), (psh_9 hp), (psh_10 hp), (psh_11 hp), (psh_12 hp), (psh_13 hp), (psh_14 hp), (psh_15 hp), (prf_1 hp), (prf_2 hp), (prf_3 hp), (prf_4 hp), (prf_6 hp), (prf_7 hp), (prf_8 hp), (prf_10 hp), (prf_11 hp), (prf_12 hp), (prf_13 hp), (prf_15 hp), (prf_17 hp), (prf_18 hp), (prf_19 hp), Nat.add_left_cancel_iff, Nat.left_eq_add, Nat.add_eq_left, zb1_f, hv, vw, zCat2, lc_eq, hu, nI_clamp (n := q) (by omega), zN10, zN01, not_true_eq_false, not_false_eq_true, false_implies, true_implies, implies_true, eq_self, nI_1, nI_40, nI_7, vz0, vz1, zb1_e0, zb1_n0]
      refine hQ _ ?_ ?_ ?_
      · exact zKpt_rfl.u (Or.inr rfl)
      · intro _
        rw [zu_at, if_pos ⟨rfl, rfl⟩, pWt_eq, ht]
        rfl
      · intro j hj; rw [zu_at, if_neg (fun g => hj g.2)]
    | true =>
      rw [ht] at e14
      have n1 : (!decide (I (p + 14) 0 = -1)) = true := by
        rw [e14]
        obtain ⟨hF, hT, hFT, hT64, -, -⟩ := (hC.hO.2.2.2.2.2.2.1 0 (by omega)).2 ht
        have h0 : ¬ nI (pF P 0) < 0 := nI_nn (by omega)
        simp only [Bool.not_eq_true', decide_eq_false_iff_not, if_true]
        intro g; rw [g] at h0; exact h0 (by decide)
      rw [n1]
      refine zBlkR (M := mX8_weigh) (nL := 4) (rt := (Option.none : Option Jvm.ClassFile.FieldType)) (blk := bX8_weigh_20) (T := [(32, bX8_weigh_32), (60, bX8_weigh_60), (61, bX8_weigh_61)]) 2 hX8_weigh_20 (zChks_cons hX8_weigh_32 (zChks_cons hX8_weigh_60 (zChks_cons hX8_weigh_61 zChks_nil))) rfl rfl rfl (Nat.le_of_ble_eq_true rfl) (Nat.le_of_ble_eq_true rfl) ?_
      simp (implicitDefEqProofs := false) only [bX8_weigh_20, bX8_weigh_32, bX8_weigh_60, bX8_weigh_61, zRun_cons, zRun_nil, zLk, zSto, zIns, zFil, zf0, zf1, zf2, zf3, List.filter_cons, List.filter_nil, Nat.reduceAdd, Nat.reduceEqDiff, Nat.reduceLT, Nat.reduceLeDiff, Nat.reduceBEq, Nat.reduceBNe, reduceIte, if_true, if_false, Bool.false_and, Bool.true_and, Bool.and_true, Bool.and_false, Bool.not_false, Bool.not_true, Bool.false_eq_true, beq_self_eq_true, BEq.rfl, zCat1, zCat2, zCat3, zKdI, zKdL, zKdR, true_and, and_true, zSI, zSL, zSR, zu_at, and_self, and_false, false_and, lv_args, zKdZ, zKdO, zB01, zB11, Option.toList_none, Option.toList_some, List.nil_append, List.cons_append, true_or, or_true, zRow_rd, zu_rd, zo_if_eq, zo_aload_n, zo_iconst, zo_iload_n, zo_getfield, zo_iaload, zo_i2l, zo_lstore_n, zo_lload_n, zo_ldc2_w, zo_lcmp, zo_if_ne, zo_lconst, zo_goto, zo_lastore, zo_return_, zi_0, zL_m9223372036854775808, zl_0, zKd_8_4, zKd_4_2, zKd_8_3, zcl_0, sh_37, rf_37_4, sh_40, rf_40_4, sh_55, rf_55_2, sh_57, sh_71, rf_71_2, sh_73, rf_37_3, sh_39, rf_40_3, sh_42, zvi_0_5, zKn_s, zKn_0, zFind, (wsh_0 hW), (wsh_1 hW), (wsh_2 hW), (wsh_3 hW), (wrf_0 hW), (wrf_1 hW), (wrf_2 hW), (wrf_3 hW), (wrf_4 hW), Nat.add_left_cancel_iff, Nat.left_eq_add, Nat.add_eq_left, (psh_0 hp), (psh_1 hp), (psh_2 hp), (psh_3 hp), (psh_4 hp), (psh_5 hp), (psh_6 hp), (psh_7 hp), (psh_8 hp), (psh_9 hp), (psh_10 hp), (psh_11 hp), (psh_12 hp), (psh_13 hp), (psh_14 hp), (psh_15 hp), (prf_1 hp), (prf_2 hp), (prf_3 hp), (prf_4 hp), (prf_6 hp), (prf_7 hp), (prf_8 hp), (prf_10 hp), (prf_11 hp), (prf_12 hp), (prf_13 hp), (prf_15 hp), (prf_17 hp), (prf_18 hp), (prf_19 hp), Nat.add_left_cancel_iff, Nat.left_eq_add, Nat.add_eq_left, zb1_t, zN10, zN01, not_true_eq_false, not_false_eq_true, false_implies, true_implies, implies_true, eq_self, nI_1, nI_40, nI_7, vz0, vz1, zb1_e0, zb1_n0]
      refine z_cV0 (M' := mX8_valueOf) (R' := rX8_valueOf) (i := W) [.int 0, .int (nI q)] [] eX8_valueOf k8_148 (by decide +kernel : decode cX8_weigh 26 = .ok (.invokevirtual 148, 3)) (Nat.le_of_ble_eq_true rfl) ⟨Nat.le_of_ble_eq_true rfl, Nat.le_of_ble_eq_true rfl, Nat.le_of_ble_eq_true rfl, Nat.le_of_ble_eq_true rfl, Nat.le_of_ble_eq_true rfl⟩ rfl rfl rfl (wsh_0 hW) ?_
      refine cl_valueOf (wh := 0) hw hC (by omega) hq (fun L1 k1 => ?_)
      refine zBlkR (M := mX8_weigh) (nL := 4) (rt := (Option.none : Option Jvm.ClassFile.FieldType)) (blk := bX8_weigh_29) (T := []) 0 hX8_weigh_29 zChks_nil rfl rfl rfl (Nat.le_of_ble_eq_true rfl) (Nat.le_of_ble_eq_true rfl) ?_
      simp only [bX8_weigh_29, zRun_cons, zRun_nil, zLk, zSto, zIns, zFil, zf0, zf1, zf2, zf3, List.filter_cons, List.filter_nil, Nat.reduceAdd, Nat.reduceEqDiff, Nat.reduceLT, Nat.reduceLeDiff, Nat.reduceBEq, Nat.reduceBNe, reduceIte, if_true, if_false, Bool.false_and, Bool.true_and, Bool.and_true, Bool.and_false, Bool.not_false, Bool.not_true, Bool.false_eq_true, beq_self_eq_true, BEq.rfl, zCat1, zCat2, zCat3, zKdI, zKdL, zKdR, true_and, and_true, zSI, zSL, zSR, zu_at, and_self, and_false, false_and, lv_args, zKdZ, zKdO, zB01, zB11, Option.toList_none, Option.toList_some, List.nil_append, List.cons_append, true_or, or_true, zRow_rd, zu_rd, zo_goto, zKn_0, (wsh_0 hW), (wsh_1 hW), (wsh_2 hW), (wsh_3 hW), (wrf_0 hW), (wrf_1 hW), (wrf_2 hW), (wrf_3 hW), (wrf_4 hW), Nat.add_left_cancel_iff, Nat.left_eq_add, Nat.add_eq_left, zN10, zN01, not_true_eq_false, not_false_eq_true, false_implies, true_implies, implies_true, eq_self, nI_1, nI_40, nI_7, vz0, vz1, zb1_e0, zb1_n0]
      refine cl_weigh42 hC (by omega) (hQ _ ?_ ?_ ?_)
      · exact (k1.mono (fun _ _ g => Or.inl g)).u (Or.inr rfl)
      · intro _
        rw [zu_at, if_pos ⟨rfl, rfl⟩, pWt_eq, ht, if_pos rfl]
        cases hl : pLw P m t V 0 q with
        | none => rw [Option.getD_none, Option.getD_none, if_pos rfl]
        | some v => rw [Option.getD_some, Option.getD_some, if_neg (jB_min (pLw_b hl))]
      · intro j hj; rw [zu_at, if_neg (fun g => hj g.2), k1]
        unfold zWS; omega
def pOp (P : oPn) (m : oTm) (V : Nat → Nat → Int32) : Nat → Bool := oOpen V (mSh m) (pCh P)
set_option maxRecDepth 20000 in
theorem cl_dearest (hC : zCw I W B T p P m t V) {wt : Nat → Int64} (hwt : ∀ q, q < pNp P → oCnt V (nI q) 1 (pCh P) ≠ 0 → L (W + 2) q = wt q) (hQ : Q (some (.int (oBI (oBest (pOp P m V) wt (pNp P))))) (SH, I, L, RF p s r)) : zXM w mX8_dearestPlace rX8_dearestPlace [.ref W] (SH, I, L, RF p s r) Q := by
  unfold zXM
  have hW := hC.hW
  have hB := wB hW
  have hp := hC.hp
  have hnp := hC.np
  have hch := hC.ch
  have i0 := hC.i0
  have m7 := hC.hM.2.2.2.2.2.2.1
  refine zBlkR (M := mX8_dearestPlace) (nL := 4) (rt := (Option.some .int)) (blk := bX8_dearestPlace_0) (T := []) 0 hX8_dearestPlace_0 zChks_nil rfl rfl rfl (Nat.le_of_ble_eq_true rfl) (Nat.le_of_ble_eq_true rfl) ?_
  simp only [bX8_dearestPlace_0, zRun_cons, zRun_nil, zLk, zSto, zIns, zFil, zf0, zf1, zf2, zf3, List.filter_cons, List.filter_nil, Nat.reduceAdd, Nat.reduceEqDiff, Nat.reduceLT, Nat.reduceLeDiff, Nat.reduceBEq, Nat.reduceBNe, reduceIte, if_true, if_false, Bool.false_and, Bool.true_and, Bool.and_true, Bool.and_false, Bool.not_false, Bool.not_true, Bool.false_eq_true, beq_self_eq_true, BEq.rfl, zCat1, zCat2, zCat3, zKdI, zKdL, zKdR, true_and, and_true, zSI, zSL, zSR, zu_at, and_self, and_false, false_and, lv_args, zKdZ, zKdO, zB01, zB11, Option.toList_none, Option.toList_some, List.nil_append, List.cons_append, true_or, or_true, zRow_rd, zu_rd, zo_iconst, zo_istore_n, zi_m1, zi_0, zcl_0, zKn_0, zN10, zN01, not_true_eq_false, not_false_eq_true, false_implies, true_implies, implies_true, eq_self, nI_1, nI_40, nI_7, vz0, vz1, zb1_e0, zb1_n0]
  refine zLoop (n := pNp P) (P := fun q => zX w mX8_dearestPlace rX8_dearestPlace Q 0 0 4 [(0, Value.ref W), (1, Value.int (oBI (oBest (pOp P m V) wt q))), (2, Value.int (nI q))] [] (SH, I, L, RF p s r)) (fun q hq ih => ?_) 0 (Nat.zero_le _)
  by_cases hqq : q = pNp P
  · subst hqq
    refine zBlkR (M := mX8_dearestPlace) (nL := 4) (rt := (Option.some .int)) (blk := bX8_dearestPlace_4) (T := [(42, bX8_dearestPlace_42), (43, bX8_dearestPlace_43), (69, bX8_dearestPlace_69), (71, bX8_dearestPlace_71), (77, bX8_dearestPlace_77)]) 2 hX8_dearestPlace_4 (zChks_cons hX8_dearestPlace_42 (zChks_cons hX8_dearestPlace_43 (zChks_cons hX8_dearestPlace_69 (zChks_cons hX8_dearestPlace_71 (zChks_cons hX8_dearestPlace_77 zChks_nil))))) rfl rfl rfl (Nat.le_of_ble_eq_true rfl) (Nat.le_of_ble_eq_true rfl) ?_
    simp only [bX8_dearestPlace_4, bX8_dearestPlace_42, bX8_dearestPlace_43, bX8_dearestPlace_69, bX8_dearestPlace_71, bX8_dearestPlace_77, zRun_cons, zRun_nil, zLk, zSto, zIns, zFil, zf0, zf1, zf2, zf3, List.filter_cons, List.filter_nil, Nat.reduceAdd, Nat.reduceEqDiff, Nat.reduceLT, Nat.reduceLeDiff, Nat.reduceBEq, Nat.reduceBNe, reduceIte, if_true, if_false, Bool.false_and, Bool.true_and, Bool.and_true, Bool.and_false, Bool.not_false, Bool.not_true, Bool.false_eq_true, beq_self_eq_true, BEq.rfl, zCat1, zCat2, zCat3, zKdI, zKdL, zKdR, true_and, and_true, zSI, zSL, zSR, zu_at, and_self, and_false, false_and, lv_args, zKdZ, zKdO, zB01, zB11, Option.toList_none, Option.toList_some, List.nil_append, List.cons_append, true_or, or_true, zRow_rd, zu_rd, zo_iload_n, zo_aload_n, zo_getfield, zo_icmp_ge, zo_iaload, zo_if_le, zo_icmp_eq, zo_iconst, zo_goto, zo_istore_n, zo_if_eq, zo_laload, zo_lcmp, zo_iinc, zo_ireturn, zi_1, zi_0, zi_m1, zKd_8_4, zKd_4_0, zKd_8_0, zKd_2_5, zKd_8_1, zKd_6_7, zKd_8_3, sh_37, rf_37_4, sh_40, rf_40_4, sh_55, sh_71, rf_37_0, sh_10, rf_40_0, sh_19, rf_10_5, sh_16, rf_19_5, sh_25, sh_28, rf_28_5, sh_34, rf_37_1, sh_8, rf_40_1, sh_9, zcl_1, zcl_0, rf_37_3, sh_39, rf_40_3, sh_42, zvi_1_5, zvi_0_5, zRt, zKn_s, zKn_0, zFind, (wsh_0 hW), (wsh_1 hW), (wsh_2 hW), (wsh_3 hW), (wrf_0 hW), (wrf_1 hW), (wrf_2 hW), (wrf_3 hW), (wrf_4 hW), Nat.add_left_cancel_iff, Nat.left_eq_add, Nat.add_eq_left, (psh_0 hp), (psh_1 hp), (psh_2 hp), (psh_3 hp), (psh_4 hp), (psh_5 hp), (psh_6 hp), (psh_7 hp), (psh_8 hp), (psh_9 hp), (psh_10 hp), (psh_11 hp), (psh_12 hp), (psh_13 hp), (psh_14 hp), (psh_15 hp), (prf_1 hp), (prf_2 hp), (prf_3 hp), (prf_4 hp), (prf_6 hp), (prf_7 hp), (prf_8 hp), (prf_10 hp), (prf_11 hp), (prf_12 hp), (prf_13 hp), (prf_15 hp), (prf_17 hp), (prf_18 hp), (prf_19 hp), Nat.add_left_cancel_iff, Nat.left_eq_add, Nat.add_eq_left, i0, zle_nat (a := pNp P) (b := pNp P) (by omega) (by omega), Nat.le_refl, zN10, zN01, not_true_eq_false, not_false_eq_true, false_implies, true_implies, implies_true, eq_self, nI_1, nI_40, nI_7, vz0, vz1, zb1_e0, zb1_n0]
    exact hQ
  have hqn : q < pNp P := by omega
  have hv : vp_in (nI q) 5 := zvn (by omega) (by omega)
  have o6 := hC.hF.2.2.1 q (by omega)
  have c1 : oCnt V (nI q) 1 (pCh P) ≤ pCh P := zCnt_le _ _
  have ih := ih hqn
  have hx : (nI (pNp P) ≤ nI q) = False := eq_false (by rw [zle_nat (by omega) (by omega)]; omega)
  have hle : (nI (oCnt V (nI q) 1 (pCh P)) ≤ 0) = (oCnt V (nI q) 1 (pCh P) ≤ 0) := zle_nat (b := 0) (by omega) (by omega)
  have hopF : oCnt V (nI q) 1 (pCh P) ≤ 0 ∨ nI q = mSh m → pOp P m V q = false := by
    intro g
    rcases g with g | g
    · have : oCnt V (nI q) 1 (pCh P) = 0 := by omega
      simp [pOp, oOpen, this]
    · simp [pOp, oOpen, g]
  have hopT : ¬ oCnt V (nI q) 1 (pCh P) ≤ 0 → ¬ nI q = mSh m → pOp P m V q = true := by
    intro g1 g2
    have : oCnt V (nI q) 1 (pCh P) ≠ 0 := by omega
    simp [pOp, oOpen, this, g2]
  cases ho : oBest (pOp P m V) wt q with
  | none =>
    have hb : oBI (none : Option (Nat × Int64)) = -1 := rfl
    refine zBlkR (M := mX8_dearestPlace) (nL := 4) (rt := (Option.some .int)) (blk := bX8_dearestPlace_4) (T := [(42, bX8_dearestPlace_42), (43, bX8_dearestPlace_43), (69, bX8_dearestPlace_69), (71, bX8_dearestPlace_71), (77, bX8_dearestPlace_77)]) 2 hX8_dearestPlace_4 (zChks_cons hX8_dearestPlace_42 (zChks_cons hX8_dearestPlace_43 (zChks_cons hX8_dearestPlace_69 (zChks_cons hX8_dearestPlace_71 (zChks_cons hX8_dearestPlace_77 zChks_nil))))) rfl rfl rfl (Nat.le_of_ble_eq_true rfl) (Nat.le_of_ble_eq_true rfl) ?_
    simp only [bX8_dearestPlace_4, bX8_dearestPlace_42, bX8_dearestPlace_43, bX8_dearestPlace_69, bX8_dearestPlace_71, bX8_dearestPlace_77, zRun_cons, zRun_nil, zLk, zSto, zIns, zFil, zf0, zf1, zf2, zf3, List.filter_cons, List.filter_nil, Nat.reduceAdd, Nat.reduceEqDiff, Nat.reduceLT, Nat.reduceLeDiff, Nat.reduceBEq, Nat.reduceBNe, reduceIte, if_true, if_false, Bool.false_and, Bool.true_and, Bool.and_true, Bool.and_false, Bool.not_false, Bool.not_true, Bool.false_eq_true, beq_self_eq_true, BEq.rfl, zCat1, zCat2, zCat3, zKdI, zKdL, zKdR, true_and, and_true, zSI, zSL, zSR, zu_at, and_self, and_false, false_and, lv_args, zKdZ, zKdO, zB01, zB11, Option.toList_none, Option.toList_some, List.nil_append, List.cons_append, true_or, or_true, zRow_rd, zu_rd, zo_iload_n, zo_aload_n, zo_getfield, zo_icmp_ge, zo_iaload, zo_if_le, zo_icmp_eq, zo_iconst, zo_goto, zo_istore_n, zo_if_eq, zo_laload, zo_lcmp, zo_iinc, zo_ireturn, zi_1, zi_0, zi_m1, zKd_8_4, zKd_4_0, zKd_8_0, zKd_2_5, zKd_8_1, zKd_6_7, zKd_8_3, sh_37, rf_37_4, sh_40, rf_40_4, sh_55, sh_71, rf_37_0, sh_10, rf_40_0, sh_19, rf_10_5, sh_16, rf_19_5, sh_25, sh_28, rf_28_5, sh_34, rf_37_1, sh_8, rf_40_1, sh_9, zcl_1, zcl_0, rf_37_3, sh_39, rf_40_3, sh_42, zvi_1_5, zvi_0_5, zRt, zKn_s, zKn_0, zFind, (wsh_0 hW), (wsh_1 hW), (wsh_2 hW), (wsh_3 hW), (wrf_0 hW), (wrf_1 hW), (wrf_2 hW), (wrf_3 hW), (wrf_4 hW), Nat.add_left_cancel_iff, Nat.left_eq_add, Nat.add_eq_left, (fsh_0 hB), (fsh_1 hB), (fsh_2 hB), (fsh_3 hB), (fsh_4 hB), (fsh_5 hB), (fsh_6 hB), (fsh_7 hB), (fsh_8 hB), (frf_0 hB), (frf_1 hB), (frf_2 hB), (frf_3 hB), (frf_4 hB), (frf_5 hB), (frf_6 hB), (frf_7 hB), Nat.add_left_cancel_iff, Nat.left_eq_add, Nat.add_eq_left, (psh_0 hp), (psh_1 hp), (psh_2 hp), (psh_3 hp), (psh_4 hp), (psh_5 hp), (psh_6 hp), (psh_7 hp), (psh_8 hp), (psh_9 hp), (psh_10 hp), (psh_11 hp), (psh_12 hp), (psh_13 hp), (psh_14 hp), (psh_15 hp), (prf_1 hp), (prf_2 hp), (prf_3 hp), (prf_4 hp), (prf_6 hp), (prf_7 hp), (prf_8 hp), (prf_10 hp), (prf_11 hp), (prf_12 hp), (prf_13 hp), (prf_15 hp), (prf_17 hp), (prf_18 hp), (prf_19 hp), Nat.add_left_cancel_iff, Nat.left_eq_add, Nat.add_eq_left, i0, hx, hv, o6, m7, hb, zCat2, lc_le, nI_clamp (n := q) (by omega), hle, zN10, zN01, not_true_eq_false, not_false_eq_true, false_implies, true_implies, implies_true, eq_self, nI_1, nI_40, nI_7, vz0, vz1, zb1_e0, zb1_n0]
    refine ⟨fun h => ?_, fun h => ⟨fun h2 => ?_, fun h2 => ?_⟩⟩
    · rw [oBest_n (hopF (Or.inl h)), ho] at ih
      exact zX.sub' ih (by simp [oBI])
    · rw [oBest_n (hopF (Or.inr h2)), ho] at ih
      exact zX.sub' ih (by simp [oBI])
    · rw [oBest, if_pos (hopT h h2), ho] at ih
      exact zX.sub' ih (by simp [oBI])
  | some d =>
    obtain ⟨d1, d2, d3⟩ := oBest_lt ho
    have hd2 : oCnt V (nI d.1) 1 (pCh P) ≠ 0 := by
      intro g; simp [pOp, oOpen, g] at d2
    have hb : oBI (some d) = nI d.1 := rfl
    have hvd : vp_in (nI d.1) 5 := zvn (by omega) (by omega)
    have hn1 : (nI d.1 = -1) = False := eq_false (fun g => by
      have h0 : ¬ nI d.1 < 0 := nI_nn (by omega)
      rw [g] at h0; exact h0 (by decide))
    have ed := hwt d.1 (by omega) hd2
    rw [← d3] at ed
    refine zBlkR (M := mX8_dearestPlace) (nL := 4) (rt := (Option.some .int)) (blk := bX8_dearestPlace_4) (T := [(42, bX8_dearestPlace_42), (43, bX8_dearestPlace_43), (69, bX8_dearestPlace_69), (71, bX8_dearestPlace_71), (77, bX8_dearestPlace_77)]) 2 hX8_dearestPlace_4 (zChks_cons hX8_dearestPlace_42 (zChks_cons hX8_dearestPlace_43 (zChks_cons hX8_dearestPlace_69 (zChks_cons hX8_dearestPlace_71 (zChks_cons hX8_dearestPlace_77 zChks_nil))))) rfl rfl rfl (Nat.le_of_ble_eq_true rfl) (Nat.le_of_ble_eq_true rfl) ?_
    simp only [bX8_dearestPlace_4, bX8_dearestPlace_42, bX8_dearestPlace_43, bX8_dearestPlace_69, bX8_dearestPlace_71, bX8_dearestPlace_77, zRun_cons, zRun_nil, zLk, zSto, zIns, zFil, zf0, zf1, zf2, zf3, List.filter_cons, List.filter_nil, Nat.reduceAdd, Nat.reduceEqDiff, Nat.reduceLT, Nat.reduceLeDiff, Nat.reduceBEq, Nat.reduceBNe, reduceIte, if_true, if_false, Bool.false_and, Bool.true_and, Bool.and_true, Bool.and_false, Bool.not_false, Bool.not_true, Bool.false_eq_true, beq_self_eq_true, BEq.rfl, zCat1, zCat2, zCat3, zKdI, zKdL, zKdR, true_and, and_true, zSI, zSL, zSR, zu_at, and_self, and_false, false_and, lv_args, zKdZ, zKdO, zB01, zB11, Option.toList_none, Option.toList_some, List.nil_append, List.cons_append, true_or, or_true, zRow_rd, zu_rd, zo_iload_n, zo_aload_n, zo_getfield, zo_icmp_ge, zo_iaload, zo_if_le, zo_icmp_eq, zo_iconst, zo_goto, zo_istore_n, zo_if_eq, zo_laload, zo_lcmp, zo_iinc, zo_ireturn, zi_1, zi_0, zi_m1, zKd_8_4, zKd_4_0, zKd_8_0, zKd_2_5, zKd_8_1, zKd_6_7, zKd_8_3, sh_37, rf_37_4, sh_40, rf_40_4, sh_55, sh_71, rf_37_0, sh_10, rf_40_0, sh_19, rf_10_5, sh_16, rf_19_5, sh_25, sh_28, rf_28_5, sh_34, rf_37_1, sh_8, rf_40_1, sh_9, zcl_1, zcl_0, rf_37_3, sh_39, rf_40_3, sh_42, zvi_1_5, zvi_0_5, zRt, zKn_s, zKn_0, zFind, (wsh_0 hW), (wsh_1 hW), (wsh_2 hW), (wsh_3 hW), (wrf_0 hW), (wrf_1 hW), (wrf_2 hW), (wrf_3 hW), (wrf_4 hW), Nat.add_left_cancel_iff, Nat.left_eq_add, Nat.add_eq_left, (fsh_0 hB), (fsh_1 hB), (fsh_2 hB), (fsh_3 hB), (fsh_4 hB), (fsh_5 hB), (fsh_6 hB), (fsh_7 hB), (fsh_8 hB), (frf_0 hB), (frf_1 hB), (frf_2 hB), (frf_3 hB), (frf_4 hB), (frf_5 hB), (frf_6 hB), (frf_7 hB), Nat.add_left_cancel_iff, Nat.left_eq_add, Nat.add_eq_left, (psh_0 hp), (psh_1 hp), (psh_2 hp), (psh_3 hp), (psh_4 hp), (psh_5 hp), (psh_6 hp), (psh_7 hp), (psh_8 hp), (psh_9 hp), (psh_10 hp), (psh_11 hp), (psh_12 hp), (psh_13 hp), (psh_14 hp), (psh_15 hp), (prf_1 hp), (prf_2 hp), (prf_3 hp), (prf_4 hp), (prf_6 hp), (prf_7 hp), (prf_8 hp), (prf_10 hp), (prf_11 hp), (prf_12 hp), (prf_13 hp), (prf_15 hp), (prf_17 hp), (prf_18 hp), (prf_19 hp), Nat.add_left_cancel_iff, Nat.left_eq_add, Nat.add_eq_left, i0, hx, hv, hvd, o6, m7, hb, hn1, ed, zCat2, lc_le, nI_clamp (n := q) (by omega), nI_clamp (n := d.1) (by omega), hle, zN10, zN01, not_true_eq_false, not_false_eq_true, false_implies, true_implies, implies_true, eq_self, nI_1, nI_40, nI_7, vz0, vz1, zb1_e0, zb1_n0]
    refine ⟨fun h => ?_, fun h => ⟨fun h2 => ?_, fun h2 => ?_⟩⟩
    · rw [oBest_n (hopF (Or.inl h)), ho] at ih
      exact zX.sub' ih (by simp [oBI])
    · rw [oBest_n (hopF (Or.inr h2)), ho] at ih
      exact zX.sub' ih (by simp [oBI])
    · rw [hwt q hqn (by omega)]
      rw [oBest, if_pos (hopT h h2), ho] at ih
      simp only at ih
      refine ⟨fun g => ?_, fun g => ?_⟩
      · rw [if_neg (Int64.not_lt.mpr g)] at ih
        exact zX.sub' ih (by simp [oBI])
      · rw [if_pos (Int64.not_le.mp g)] at ih
        exact zX.sub' ih (by simp [oBI])
theorem oBL_cls {v : Int64} : (if (1 : Int64) < (if v < 95 then v else 95) then (if v < 95 then v else 95) else 1).toInt32 = oBL (some v) 8 1 95 := by
  have e1 : (1 : Int32).toInt64 = 1 := by decide
  have e2 : (95 : Int32).toInt64 = 95 := by decide
  have t1 : (1 : Int64).toInt = 1 := by decide
  have t95 : (95 : Int64).toInt = 95 := by decide
  simp only [oBL, e1, e2]
  by_cases h1 : v < 1
  · have h95 : v < 95 := by rw [Int64.lt_iff_toInt_lt] at h1 ⊢; omega
    have hn : ¬ (1 : Int64) < v := by rw [Int64.lt_iff_toInt_lt] at h1 ⊢; omega
    rw [if_pos h95, if_neg hn, if_pos h1]; rfl
  · by_cases h2 : 95 < v
    · have h95 : ¬ v < 95 := by rw [Int64.lt_iff_toInt_lt] at h2 ⊢; omega
      rw [if_neg h95, if_pos (by decide), if_neg h1, if_pos h2]; rfl
    · rw [if_neg h1, if_neg h2]
      by_cases h3 : v < 95
      · rw [if_pos h3]
        by_cases h4 : 1 < v
        · rw [if_pos h4]
        · rw [if_neg h4]
          have : v = 1 := by
            apply Int64.toInt_inj.mp
            rw [Int64.lt_iff_toInt_lt] at h1 h4
            omega
          rw [this]
      · rw [if_neg h3, if_pos (by decide)]
        have : v = 95 := by
          apply Int64.toInt_inj.mp
          rw [Int64.lt_iff_toInt_lt] at h2 h3
          omega
        rw [this]
set_option maxRecDepth 20000 in
theorem cl_stayAt (hw : zOk w) (hC : zCw I W B T p P m t V) (hq : q < pNp P) (hQ : ∀ L', zKpt (zWS W) L L' → Q (some (.int (oBL (pLw P m t V 1 q) 8 1 95))) (SH, I, L', RF p s r)) : zXM w mX8_stayAt rX8_stayAt [.ref W, .int (nI q)] (SH, I, L, RF p s r) Q := by
  unfold zXM
  have hW := hC.hW
  refine zBlkR (M := mX8_stayAt) (nL := 4) (rt := (Option.some .int)) (blk := bX8_stayAt_0) (T := []) 0 hX8_stayAt_0 zChks_nil rfl rfl rfl (Nat.le_of_ble_eq_true rfl) (Nat.le_of_ble_eq_true rfl) ?_
  simp only [bX8_stayAt_0, zRun_cons, zRun_nil, zLk, zSto, zIns, zFil, zf0, zf1, zf2, zf3, List.filter_cons, List.filter_nil, Nat.reduceAdd, Nat.reduceEqDiff, Nat.reduceLT, Nat.reduceLeDiff, Nat.reduceBEq, Nat.reduceBNe, reduceIte, if_true, if_false, Bool.false_and, Bool.true_and, Bool.and_true, Bool.and_false, Bool.not_false, Bool.not_true, Bool.false_eq_true, beq_self_eq_true, BEq.rfl, zCat1, zCat2, zCat3, zKdI, zKdL, zKdR, true_and, and_true, zSI, zSL, zSR, zu_at, and_self, and_false, false_and, lv_args, zKdZ, zKdO, zB01, zB11, Option.toList_none, Option.toList_some, List.nil_append, List.cons_append, true_or, or_true, zRow_rd, zu_rd, zo_aload_n, zo_iconst, zo_iload_n, zi_1, zcl_1, zKn_0, zN10, zN01, not_true_eq_false, not_false_eq_true, false_implies, true_implies, implies_true, eq_self, nI_1, nI_40, nI_7, vz0, vz1, zb1_e0, zb1_n0]
  refine z_cV0 (M' := mX8_valueOf) (R' := rX8_valueOf) (i := W) [.int 1, .int (nI q)] [] eX8_valueOf k8_148 (by decide +kernel : decode cX8_stayAt 3 = .ok (.invokevirtual 148, 3)) (Nat.le_of_ble_eq_true rfl) ⟨Nat.le_of_ble_eq_true rfl, Nat.le_of_ble_eq_true rfl, Nat.le_of_ble_eq_true rfl, Nat.le_of_ble_eq_true rfl, Nat.le_of_ble_eq_true rfl⟩ rfl rfl rfl (wsh_0 hW) ?_
  refine cl_valueOf (wh := 1) hw hC (by omega) hq (fun L1 k1 => ?_)
  have hQ := hQ L1 k1
  obtain ⟨z1, h1⟩ : ∃ z, z = (-9223372036854775808 : Int) := ⟨_, rfl⟩
  cases hl : pLw P m t V 1 q with
  | none =>
    rw [hl] at hQ
    rw [Option.getD_none, ← zMin1 h1]
    refine zBlkR (M := mX8_stayAt) (nL := 4) (rt := (Option.some .int)) (blk := bX8_stayAt_6) (T := [(20, bX8_stayAt_20), (32, bX8_stayAt_32)]) 1 hX8_stayAt_6 (zChks_cons hX8_stayAt_20 (zChks_cons hX8_stayAt_32 zChks_nil)) rfl rfl rfl (Nat.le_of_ble_eq_true rfl) (Nat.le_of_ble_eq_true rfl) ?_
    rw [show bX8_stayAt_6 = [(.lstore_n 2, 1, 0, 0, 0), (.lload_n 2, 1, 0, 0, 0), (.ldc2_w 155, 3, 0, 0, z1), (.lcmp, 1, 0, 0, 0), (.ifCond .ne 8, 3, 20, 0, 0), (.bipush 8, 2, 0, 0, 0), (.goto 15, 3, 32, 0, 0)] from by rw [h1]; rfl]
    simp only [bX8_stayAt_20, bX8_stayAt_32, zRun_cons, zRun_nil, zLk, zSto, zIns, zFil, zf0, zf1, zf2, zf3, List.filter_cons, List.filter_nil, Nat.reduceAdd, Nat.reduceEqDiff, Nat.reduceLT, Nat.reduceLeDiff, Nat.reduceBEq, Nat.reduceBNe, reduceIte, if_true, if_false, Bool.false_and, Bool.true_and, Bool.and_true, Bool.and_false, Bool.not_false, Bool.not_true, Bool.false_eq_true, beq_self_eq_true, BEq.rfl, zCat1, zCat2, zCat3, zKdI, zKdL, zKdR, true_and, and_true, zSI, zSL, zSR, zu_at, and_self, and_false, false_and, lv_args, zKdZ, zKdO, zB01, zB11, Option.toList_none, Option.toList_some, List.nil_append, List.cons_append, true_or, or_true, zRow_rd, zu_rd, zo_lstore_n, zo_lload_n, zo_ldc2_w, zo_lcmp, zo_if_ne, zo_bipush, zo_goto, zo_lconst, zo_ireturn, zb_8, zl_1, zL_95, zcl_8, zRt, zKn_s, zKn_0, zFind, lc_eq, zCat2, zN10, zN01, not_true_eq_false, not_false_eq_true, false_implies, true_implies, implies_true, eq_self, nI_1, nI_40, nI_7, vz0, vz1, zb1_e0, zb1_n0]
    exact hQ
  | some v =>
    rw [hl] at hQ
    rw [Option.getD_some]
    have hu : (v = Int64.ofInt z1) = False := eq_false (by rw [zMin1 h1]; exact jB_min (pLw_b hl))
    refine zBlkR (M := mX8_stayAt) (nL := 4) (rt := (Option.some .int)) (blk := bX8_stayAt_6) (T := [(20, bX8_stayAt_20), (32, bX8_stayAt_32)]) 1 hX8_stayAt_6 (zChks_cons hX8_stayAt_20 (zChks_cons hX8_stayAt_32 zChks_nil)) rfl rfl rfl (Nat.le_of_ble_eq_true rfl) (Nat.le_of_ble_eq_true rfl) ?_
    rw [show bX8_stayAt_6 = [(.lstore_n 2, 1, 0, 0, 0), (.lload_n 2, 1, 0, 0, 0), (.ldc2_w 155, 3, 0, 0, z1), (.lcmp, 1, 0, 0, 0), (.ifCond .ne 8, 3, 20, 0, 0), (.bipush 8, 2, 0, 0, 0), (.goto 15, 3, 32, 0, 0)] from by rw [h1]; rfl]
    simp only [bX8_stayAt_20, bX8_stayAt_32, zRun_cons, zRun_nil, zLk, zSto, zIns, zFil, zf0, zf1, zf2, zf3, List.filter_cons, List.filter_nil, Nat.reduceAdd, Nat.reduceEqDiff, Nat.reduceLT, Nat.reduceLeDiff, Nat.reduceBEq, Nat.reduceBNe, reduceIte, if_true, if_false, Bool.false_and, Bool.true_and, Bool.and_true, Bool.and_false, Bool.not_false, Bool.not_true, Bool.false_eq_true, beq_self_eq_true, BEq.rfl, zCat1, zCat2, zCat3, zKdI, zKdL, zKdR, true_and, and_true, zSI, zSL, zSR, zu_at, and_self, and_false, false_and, lv_args, zKdZ, zKdO, zB01, zB11, Option.toList_none, Option.toList_some, List.nil_append, List.cons_append, true_or, or_true, zRow_rd, zu_rd, zo_lstore_n, zo_lload_n, zo_ldc2_w, zo_lcmp, zo_if_ne, zo_bipush, zo_goto, zo_lconst, zo_ireturn, zb_8, zl_1, zL_95, zcl_8, zRt, zKn_s, zKn_0, zFind, lc_eq, zCat2, hu, zN10, zN01, not_true_eq_false, not_false_eq_true, false_implies, true_implies, implies_true, eq_self, nI_1, nI_40, nI_7, vz0, vz1, zb1_e0, zb1_n0]
    refine z_cS0 (M' := mJ9_min_f86c9) (R' := rJ9_min_f86c9) [.long 95, .long v] [.long 1] eJ9_min_f86c9 k8_162 (by decide +kernel : decode cX8_stayAt 25 = .ok (.invokestatic 162, 3)) (Nat.le_of_ble_eq_true rfl) ⟨Nat.le_of_ble_eq_true rfl, Nat.le_of_ble_eq_true rfl, Nat.le_of_ble_eq_true rfl, Nat.le_of_ble_eq_true rfl, Nat.le_of_ble_eq_true rfl⟩ rfl rfl rfl ?_
    refine sp_minL ?_
    refine z_cS0 (M' := mJ9_max_f86c9) (R' := rJ9_max_f86c9) [.long 1, .long (if v < 95 then v else 95)] [] eJ9_max_f86c9 k8_168 (by decide +kernel : decode cX8_stayAt 28 = .ok (.invokestatic 168, 3)) (Nat.le_of_ble_eq_true rfl) ⟨Nat.le_of_ble_eq_true rfl, Nat.le_of_ble_eq_true rfl, Nat.le_of_ble_eq_true rfl, Nat.le_of_ble_eq_true rfl, Nat.le_of_ble_eq_true rfl⟩ rfl rfl rfl ?_
    refine sp_maxL ?_
    refine zBlkR (M := mX8_stayAt) (nL := 4) (rt := (Option.some .int)) (blk := bX8_stayAt_31) (T := []) 0 hX8_stayAt_31 zChks_nil rfl rfl rfl (Nat.le_of_ble_eq_true rfl) (Nat.le_of_ble_eq_true rfl) ?_
    simp only [bX8_stayAt_31, zRun_cons, zRun_nil, zLk, zSto, zIns, zFil, zf0, zf1, zf2, zf3, List.filter_cons, List.filter_nil, Nat.reduceAdd, Nat.reduceEqDiff, Nat.reduceLT, Nat.reduceLeDiff, Nat.reduceBEq, Nat.reduceBNe, reduceIte, if_true, if_false, Bool.false_and, Bool.true_and, Bool.and_true, Bool.and_false, Bool.not_false, Bool.not_true, Bool.false_eq_true, beq_self_eq_true, BEq.rfl, zCat1, zCat2, zCat3, zKdI, zKdL, zKdR, true_and, and_true, zSI, zSL, zSR, zu_at, and_self, and_false, false_and, lv_args, zKdZ, zKdO, zB01, zB11, Option.toList_none, Option.toList_some, List.nil_append, List.cons_append, true_or, or_true, zRow_rd, zu_rd, zo_l2i, zo_ireturn, zRt, zKn_0, zCat2, zN10, zN01, not_true_eq_false, not_false_eq_true, false_implies, true_implies, implies_true, eq_self, nI_1, nI_40, nI_7, vz0, vz1, zb1_e0, zb1_n0]
    rw [oBL_cls]
    exact hQ
end ZC68
