section
/-! ===== CALLS: second ===== -/
section ZA76
variable {w : zP} {Q : Option Value → zMem → Prop} {μ : zMem} {I J V V' : Nat → Nat → Int32} {L : Nat → Nat → Int64} {p s B T t kc : Nat} {r : Option Nat} {P : oPn} {m m' : oTm} {c i k q wh ch n : Nat} {x till br wt : Int32} {S : oS} {rt rr : oRt} {d : Int64}
set_option maxRecDepth 20000 in
theorem cl_second (hw : zOk w) (hC : zKl I L p P V d t kc rt) (hQ : ∀ I' L', zKpt SCt I I' → zKpt SCtL L L' → Q (some (.int (aSecond P V d t rt x))) (SH, I', L', RF p s r)) : zXM w mX9_second rX9_second [.ref 0, .int x] (SH, I, L, RF p s r) Q := by
  unfold zXM
  have hp := hC.1
  have h9 := hC.2.2.2.2.2.2.2.1
  have r8 := hC.2.2.2.2.2.2.1.1
  have e12 := hC.2.2.2.2.1.2.2.2.1.1
  refine zBlkR (M := mX9_second) (nL := 3) (rt := (Option.some .int)) (blk := bX9_second_0) (T := []) 0 hX9_second_0 zChks_nil rfl rfl rfl (Nat.le_of_ble_eq_true rfl) (Nat.le_of_ble_eq_true rfl) ?_
  simp only [bX9_second_0, zRun_cons, zRun_nil, zLk, zSto, zIns, zFil, zf0, zf1, zf2, zf3, List.filter_cons, List.filter_nil, Nat.reduceAdd, Nat.reduceEqDiff, Nat.reduceLT, Nat.reduceLeDiff, Nat.reduceBEq, Nat.reduceBNe, reduceIte, if_true, if_false, Bool.false_and, Bool.true_and, Bool.and_true, Bool.and_false, Bool.not_false, Bool.not_true, Bool.false_eq_true, beq_self_eq_true, BEq.rfl, zCat1, zCat2, zCat3, zKdI, zKdL, zKdR, true_and, and_true, zSI, zSL, zSR, zu_at, and_self, and_false, false_and, lv_args, zKdZ, zKdO, zB01, zB11, Option.toList_none, Option.toList_some, List.nil_append, List.cons_append, true_or, or_true, zRow_rd, zu_rd, zo_aload_n, zo_iload_n, zKn_0, zN10, zN01, not_true_eq_false, not_false_eq_true, false_implies, true_implies, implies_true, eq_self, nI_1, nI_40, nI_7, vz0, vz1, zb1_e0, zb1_n0]
  refine z_cV0 (M' := mX9_hasRun) (R' := rX9_hasRun) (i := 0) [.int x] [] eX9_hasRun k9_217 (by decide +kernel : decode cX9_second 2 = .ok (.invokevirtual 217, 3)) (Nat.le_of_ble_eq_true rfl) ⟨Nat.le_of_ble_eq_true rfl, Nat.le_of_ble_eq_true rfl, Nat.le_of_ble_eq_true rfl, Nat.le_of_ble_eq_true rfl, Nat.le_of_ble_eq_true rfl⟩ rfl rfl rfl sh_0 ?_
  refine cl_hasRun hC.2.2.2.2.1.2.1 h9 ?_
  unfold aSecond at hQ
  have bad : ¬ (pRun t x = true ∧ rt.1 ≠ 0) → Q (some (.int (-2147483648))) (SH, I, L, RF p s r) := by
    intro h
    rw [if_neg h] at hQ
    exact hQ I L zKpt_rfl zKpt_rfl
  cases hr : pRun t x with
  | false =>
    refine zBlkR (M := mX9_second) (nL := 3) (rt := (Option.some .int)) (blk := bX9_second_5) (T := [(18, bX9_second_18), (21, bX9_second_21)]) 1 hX9_second_5 (zChks_cons hX9_second_18 (zChks_cons hX9_second_21 zChks_nil)) rfl rfl rfl (Nat.le_of_ble_eq_true rfl) (Nat.le_of_ble_eq_true rfl) ?_
    simp (implicitDefEqProofs := false) only [bX9_second_5, bX9_second_18, bX9_second_21, zRun_cons, zRun_nil, zLk, zSto, zIns, zFil, zf0, zf1, zf2, zf3, List.filter_cons, List.filter_nil, Nat.reduceAdd, Nat.reduceEqDiff, Nat.reduceLT, Nat.reduceLeDiff, Nat.reduceBEq, Nat.reduceBNe, reduceIte, if_true, if_false, Bool.false_and, Bool.true_and, Bool.and_true, Bool.and_false, Bool.not_false, Bool.not_true, Bool.false_eq_true, beq_self_eq_true, BEq.rfl, zCat1, zCat2, zCat3, zKdI, zKdL, zKdR, true_and, and_true, zSI, zSL, zSR, zu_at, and_self, and_false, false_and, lv_args, zKdZ, zKdO, zB01, zB11, Option.toList_none, Option.toList_some, List.nil_append, List.cons_append, true_or, or_true, zRow_rd, zu_rd, zo_if_eq, zo_aload_n, zo_getfield, zo_if_ne, zo_ldc, zo_ireturn, zi_m2147483648, zKd_9_4, zKd_2_12, sh_0, rf_0_4, sh_10, sh_19, sh_28, zRt, zKn_s, zKn_0, zFind, zb1_f, zN10, zN01, not_true_eq_false, not_false_eq_true, false_implies, true_implies, implies_true, eq_self, nI_1, nI_40, nI_7, vz0, vz1, zb1_e0, zb1_n0]
    exact bad (by rw [hr]; simp)
  | true =>
    refine zBlkR (M := mX9_second) (nL := 3) (rt := (Option.some .int)) (blk := bX9_second_5) (T := [(18, bX9_second_18), (21, bX9_second_21)]) 1 hX9_second_5 (zChks_cons hX9_second_18 (zChks_cons hX9_second_21 zChks_nil)) rfl rfl rfl (Nat.le_of_ble_eq_true rfl) (Nat.le_of_ble_eq_true rfl) ?_
    simp (implicitDefEqProofs := false) only [bX9_second_5, bX9_second_18, bX9_second_21, zRun_cons, zRun_nil, zLk, zSto, zIns, zFil, zf0, zf1, zf2, zf3, List.filter_cons, List.filter_nil, Nat.reduceAdd, Nat.reduceEqDiff, Nat.reduceLT, Nat.reduceLeDiff, Nat.reduceBEq, Nat.reduceBNe, reduceIte, if_true, if_false, Bool.false_and, Bool.true_and, Bool.and_true, Bool.and_false, Bool.not_false, Bool.not_true, Bool.false_eq_true, beq_self_eq_true, BEq.rfl, zCat1, zCat2, zCat3, zKdI, zKdL, zKdR, true_and, and_true, zSI, zSL, zSR, zu_at, and_self, and_false, false_and, lv_args, zKdZ, zKdO, zB01, zB11, Option.toList_none, Option.toList_some, List.nil_append, List.cons_append, true_or, or_true, zRow_rd, zu_rd, zo_if_eq, zo_aload_n, zo_getfield, zo_if_ne, zo_ldc, zo_ireturn, zi_m2147483648, zKd_9_4, zKd_2_12, sh_0, rf_0_4, sh_10, sh_19, sh_28, zRt, zKn_s, zKn_0, zFind, zb1_t, e12, show (nI rt.1 = 0) = (rt.1 = 0) from zeq_nat (b := 0) (by omega) (by omega), zN10, zN01, not_true_eq_false, not_false_eq_true, false_implies, true_implies, implies_true, eq_self, nI_1, nI_40, nI_7, vz0, vz1, zb1_e0, zb1_n0]
    refine ⟨fun h0 => ?_, fun h0 => bad (fun g => g.2 h0)⟩
    rw [if_pos ⟨hr, h0⟩] at hQ
    obtain ⟨n, e, hn⟩ := pRun_t hr h9
    subst e
    rw [nI_clamp (by omega)] at hQ
    unfold oBalG at hQ
    refine z_cV0 (M' := mX9_prepare) (R' := rX9_prepare) (i := 0) [] [] eX9_prepare k9_233 (by decide +kernel : decode cX9_second 22 = .ok (.invokevirtual 233, 3)) (Nat.le_of_ble_eq_true rfl) ⟨Nat.le_of_ble_eq_true rfl, Nat.le_of_ble_eq_true rfl, Nat.le_of_ble_eq_true rfl, Nat.le_of_ble_eq_true rfl, Nat.le_of_ble_eq_true rfl⟩ rfl rfl rfl sh_0 ?_
    refine cl_prepare hC (fun I1 L1 k1 k2 hT => ?_)
    refine zBlkR (M := mX9_second) (nL := 3) (rt := (Option.some .int)) (blk := bX9_second_25) (T := []) 0 hX9_second_25 zChks_nil rfl rfl rfl (Nat.le_of_ble_eq_true rfl) (Nat.le_of_ble_eq_true rfl) ?_
    simp only [bX9_second_25, zRun_cons, zRun_nil, zLk, zSto, zIns, zFil, zf0, zf1, zf2, zf3, List.filter_cons, List.filter_nil, Nat.reduceAdd, Nat.reduceEqDiff, Nat.reduceLT, Nat.reduceLeDiff, Nat.reduceBEq, Nat.reduceBNe, reduceIte, if_true, if_false, Bool.false_and, Bool.true_and, Bool.and_true, Bool.and_false, Bool.not_false, Bool.not_true, Bool.false_eq_true, beq_self_eq_true, BEq.rfl, zCat1, zCat2, zCat3, zKdI, zKdL, zKdR, true_and, and_true, zSI, zSL, zSR, zu_at, and_self, and_false, false_and, lv_args, zKdZ, zKdO, zB01, zB11, Option.toList_none, Option.toList_some, List.nil_append, List.cons_append, true_or, or_true, zRow_rd, zu_rd, zo_aload_n, zo_iload_n, zKn_0, zN10, zN01, not_true_eq_false, not_false_eq_true, false_implies, true_implies, implies_true, eq_self, nI_1, nI_40, nI_7, vz0, vz1, zb1_e0, zb1_n0]
    refine z_cV0 (M' := mX9_balanceAfter) (R' := rX9_balanceAfter) (i := 0) [.int (nI n)] [] eX9_balanceAfter k9_236 (by decide +kernel : decode cX9_second 27 = .ok (.invokevirtual 236, 3)) (Nat.le_of_ble_eq_true rfl) ⟨Nat.le_of_ble_eq_true rfl, Nat.le_of_ble_eq_true rfl, Nat.le_of_ble_eq_true rfl, Nat.le_of_ble_eq_true rfl, Nat.le_of_ble_eq_true rfl⟩ rfl rfl rfl sh_0 ?_
    refine cl_balanceAfter hw hT hn (fun I2 L2 k3 k4 => ?_)
    rw [oGsb_m1 hn]
    generalize oBal P (oGs P (mTold P) rt t n (V, d)).1 = A at hQ ⊢
    have hC2 := zKl_t (k1.trans k3) (k2.trans k4) hC
    refine zBlkR (M := mX9_second) (nL := 3) (rt := (Option.some .int)) (blk := bX9_second_30) (T := []) 0 hX9_second_30 zChks_nil rfl rfl rfl (Nat.le_of_ble_eq_true rfl) (Nat.le_of_ble_eq_true rfl) ?_
    simp only [bX9_second_30, zRun_cons, zRun_nil, zLk, zSto, zIns, zFil, zf0, zf1, zf2, zf3, List.filter_cons, List.filter_nil, Nat.reduceAdd, Nat.reduceEqDiff, Nat.reduceLT, Nat.reduceLeDiff, Nat.reduceBEq, Nat.reduceBNe, reduceIte, if_true, if_false, Bool.false_and, Bool.true_and, Bool.and_true, Bool.and_false, Bool.not_false, Bool.not_true, Bool.false_eq_true, beq_self_eq_true, BEq.rfl, zCat1, zCat2, zCat3, zKdI, zKdL, zKdR, true_and, and_true, zSI, zSL, zSR, zu_at, and_self, and_false, false_and, lv_args, zKdZ, zKdO, zB01, zB11, Option.toList_none, Option.toList_some, List.nil_append, List.cons_append, true_or, or_true, zRow_rd, zu_rd, zo_istore_n, zo_aload_n, zKn_0, zN10, zN01, not_true_eq_false, not_false_eq_true, false_implies, true_implies, implies_true, eq_self, nI_1, nI_40, nI_7, vz0, vz1, zb1_e0, zb1_n0]
    refine z_cV0 (M' := mX9_prepare) (R' := rX9_prepare) (i := 0) [] [] eX9_prepare k9_233 (by decide +kernel : decode cX9_second 32 = .ok (.invokevirtual 233, 3)) (Nat.le_of_ble_eq_true rfl) ⟨Nat.le_of_ble_eq_true rfl, Nat.le_of_ble_eq_true rfl, Nat.le_of_ble_eq_true rfl, Nat.le_of_ble_eq_true rfl, Nat.le_of_ble_eq_true rfl⟩ rfl rfl rfl sh_0 ?_
    refine cl_prepare hC2 (fun I3 L3 k5 k6 hT2 => ?_)
    refine zBlkR (M := mX9_second) (nL := 3) (rt := (Option.some .int)) (blk := bX9_second_35) (T := []) 0 hX9_second_35 zChks_nil rfl rfl rfl (Nat.le_of_ble_eq_true rfl) (Nat.le_of_ble_eq_true rfl) ?_
    simp only [bX9_second_35, zRun_cons, zRun_nil, zLk, zSto, zIns, zFil, zf0, zf1, zf2, zf3, List.filter_cons, List.filter_nil, Nat.reduceAdd, Nat.reduceEqDiff, Nat.reduceLT, Nat.reduceLeDiff, Nat.reduceBEq, Nat.reduceBNe, reduceIte, if_true, if_false, Bool.false_and, Bool.true_and, Bool.and_true, Bool.and_false, Bool.not_false, Bool.not_true, Bool.false_eq_true, beq_self_eq_true, BEq.rfl, zCat1, zCat2, zCat3, zKdI, zKdL, zKdR, true_and, and_true, zSI, zSL, zSR, zu_at, and_self, and_false, false_and, lv_args, zKdZ, zKdO, zB01, zB11, Option.toList_none, Option.toList_some, List.nil_append, List.cons_append, true_or, or_true, zRow_rd, zu_rd, zo_aload_n, zo_getfield, zo_iconst, zo_putfield, zo_putfield_2, zo_putfield_3, zo_iload_n, zi_1, zKd_9_3, zKd_6_1, zTy_6_1, sh_0, rf_0_3, sh_9, zcl_1, sh_8, zPutC, zKn_0, zN10, zN01, not_true_eq_false, not_false_eq_true, false_implies, true_implies, implies_true, eq_self, nI_1, nI_40, nI_7, vz0, vz1, zb1_e0, zb1_n0]
    have hT3 : zTr (zu I3 9 1 1) L3 p P (m2nd P) V d t rt (-1) := by
      have hM := hT2.1.2.2.2.2.2.1
      refine zTr_m hT2 (fun i j hi => by rw [zu_at, if_neg (fun g => hi g.1)]) ?_ (by rw [zu_at, if_neg (by decide)]; exact hT2.2.2.2.1)
      unfold zClsM at hM ⊢
      simp [zu_at, mTold, m2nd, zb1] at hM ⊢
      exact ⟨hM.1, hM.2.2⟩
    refine z_cV0 (M' := mX9_balanceAfter) (R' := rX9_balanceAfter) (i := 0) [.int (nI n)] [] eX9_balanceAfter k9_236 (by decide +kernel : decode cX9_second 45 = .ok (.invokevirtual 236, 3)) (Nat.le_of_ble_eq_true rfl) ⟨Nat.le_of_ble_eq_true rfl, Nat.le_of_ble_eq_true rfl, Nat.le_of_ble_eq_true rfl, Nat.le_of_ble_eq_true rfl, Nat.le_of_ble_eq_true rfl⟩ rfl rfl rfl sh_0 ?_
    refine cl_balanceAfter hw hT3 hn (fun I4 L4 k7 k8 => ?_)
    rw [oGsb_m1 hn]
    generalize oBal P (oGs P (m2nd P) rt t n (V, d)).1 = C at hQ ⊢
    have kk := (((k1.trans k3).trans (k5.u (i := 9) (k := 1) (v := 1) (by unfold SCt; omega))).trans k7)
    have kl := ((k2.trans k4).trans k6).trans k8
    have e2 : I4 (p + 11) 2 = pR P 102 6 := (zKl_t kk kl hC).2.2.2.1.2.2.2.2.2.1.2.2.1
    refine zBlkR (M := mX9_second) (nL := 3) (rt := (Option.some .int)) (blk := bX9_second_48) (T := []) 0 hX9_second_48 zChks_nil rfl rfl rfl (Nat.le_of_ble_eq_true rfl) (Nat.le_of_ble_eq_true rfl) ?_
    simp (implicitDefEqProofs := false) only [bX9_second_48, zRun_cons, zRun_nil, zLk, zSto, zIns, zFil, zf0, zf1, zf2, zf3, List.filter_cons, List.filter_nil, Nat.reduceAdd, Nat.reduceEqDiff, Nat.reduceLT, Nat.reduceLeDiff, Nat.reduceBEq, Nat.reduceBNe, reduceIte, if_true, if_false, Bool.false_and, Bool.true_and, Bool.and_true, Bool.and_false, Bool.not_false, Bool.not_true, Bool.false_eq_true, beq_self_eq_true, BEq.rfl, zCat1, zCat2, zCat3, zKdI, zKdL, zKdR, true_and, and_true, zSI, zSL, zSR, zu_at, and_self, and_false, false_and, lv_args, zKdZ, zKdO, zB01, zB11, Option.toList_none, Option.toList_some, List.nil_append, List.cons_append, true_or, or_true, zRow_rd, zu_rd, zo_iload_n, zo_isub, zo_aload_n, zo_getfield, zo_iconst, zo_iaload, zo_ireturn, zi_2, zKd_9_12, zKd_4_13, sh_0, rf_0_12, sh_55, rf_55_13, sh_66, sh_71, rf_71_13, sh_82, zcl_2, zvi_2_7, zRt, zKn_0, (psh_0 hp), (psh_1 hp), (psh_2 hp), (psh_3 hp), (psh_4 hp), (psh_5 hp), (psh_6 hp), (psh_7 hp), (psh_8 hp), (psh_9 hp), (psh_10 hp), (psh_11 hp), (psh_12 hp), (psh_13 hp), (psh_14 hp), (psh_15 hp), (prf_1 hp), (prf_2 hp), (prf_3 hp), (prf_4 hp), (prf_6 hp), (prf_7 hp), (prf_8 hp), (prf_10 hp), (prf_11 hp), (prf_12 hp), (prf_13 hp), (prf_15 hp), (prf_17 hp), (prf_18 hp), (prf_19 hp), Nat.add_left_cancel_iff, Nat.left_eq_add, Nat.add_eq_left, e2, zvi_2_7, zN10, zN01, not_true_eq_false, not_false_eq_true, false_implies, true_implies, implies_true, eq_self, nI_1, nI_40, nI_7, vz0, vz1, zb1_e0, zb1_n0]
    exact hQ I4 L4 kk kl
set_option maxRecDepth 20000 in
theorem mo_second (hR : zRl I L P V d t kc rt) (hQ : ∀ I' L', zKpt SRt I I' → zKpt SRtL L L' → Q (some (.int (aSecond P V d t rt x))) (SH, I', L', RF p s r)) : zXM w mX10_second rX10_second [.ref 87, .int x] (SH, I, L, RF p s r) Q := by
  unfold zXM
  refine zBlkR (M := mX10_second) (nL := 3) (rt := (Option.some .int)) (blk := bX10_second_0) (T := []) 0 hX10_second_0 zChks_nil rfl rfl rfl (Nat.le_of_ble_eq_true rfl) (Nat.le_of_ble_eq_true rfl) ?_
  simp only [bX10_second_0, zRun_cons, zRun_nil, zLk, zSto, zIns, zFil, zf0, zf1, zf2, zf3, List.filter_cons, List.filter_nil, Nat.reduceAdd, Nat.reduceEqDiff, Nat.reduceLT, Nat.reduceLeDiff, Nat.reduceBEq, Nat.reduceBNe, reduceIte, if_true, if_false, Bool.false_and, Bool.true_and, Bool.and_true, Bool.and_false, Bool.not_false, Bool.not_true, Bool.false_eq_true, beq_self_eq_true, BEq.rfl, zCat1, zCat2, zCat3, zKdI, zKdL, zKdR, true_and, and_true, zSI, zSL, zSR, zu_at, and_self, and_false, false_and, lv_args, zKdZ, zKdO, zB01, zB11, Option.toList_none, Option.toList_some, List.nil_append, List.cons_append, true_or, or_true, zRow_rd, zu_rd, zo_aload_n, zo_iconst, zo_putfield, zo_putfield_2, zo_putfield_3, zo_iload_n, zi_0, zKd_10_2, zTy_10_2, zcl_0, sh_87, zPutC, zKn_0, zN10, zN01, not_true_eq_false, not_false_eq_true, false_implies, true_implies, implies_true, eq_self, nI_1, nI_40, nI_7, vz0, vz1, zb1_e0, zb1_n0]
  have h0 : zKpt SRt I (zu I 87 2 0) := zKpt_rfl.u (by unfold SRt; omega)
  have hR := zRl_t h0 zKpt_rfl hR
  have h9 := hR.2.2.2.2.2.2.2.1
  have r8 := hR.2.2.2.2.2.2.1.1
  have hpa : ∀ c, c < 40 → V 5 c = 0 ∨ V 5 c = 1 := fun c hc => oOk_pa hR.2.2.2.2.2.1 hc
  generalize zu I 87 2 0 = I0 at *
  have e64 := hR.2.2.2.2.1.2.2.2.1
  refine z_cV0 (M' := mX10_isRun) (R' := rX10_isRun) (i := 87) [.int x] [] eX10_isRun k10_530 (by decide +kernel : decode cX10_second 7 = .ok (.invokevirtual 530, 3)) (Nat.le_of_ble_eq_true rfl) ⟨Nat.le_of_ble_eq_true rfl, Nat.le_of_ble_eq_true rfl, Nat.le_of_ble_eq_true rfl, Nat.le_of_ble_eq_true rfl, Nat.le_of_ble_eq_true rfl⟩ rfl rfl rfl sh_87 ?_
  refine mo_isRun hR.2.2.2.2.1.2.1 h9 ?_
  unfold aSecond at hQ
  have bad : ¬ (pRun t x = true ∧ rt.1 ≠ 0) → Q (some (.int (-2147483648))) (SH, I0, L, RF p s r) := by
    intro h
    rw [if_neg h] at hQ
    exact hQ I0 L h0 zKpt_rfl
  cases hr : pRun t x with
  | false =>
    refine zBlkR (M := mX10_second) (nL := 3) (rt := (Option.some .int)) (blk := bX10_second_10) (T := [(20, bX10_second_20), (24, bX10_second_24)]) 1 hX10_second_10 (zChks_cons hX10_second_20 (zChks_cons hX10_second_24 zChks_nil)) rfl rfl rfl (Nat.le_of_ble_eq_true rfl) (Nat.le_of_ble_eq_true rfl) ?_
    simp (implicitDefEqProofs := false) only [bX10_second_10, bX10_second_20, bX10_second_24, zRun_cons, zRun_nil, zLk, zSto, zIns, zFil, zf0, zf1, zf2, zf3, List.filter_cons, List.filter_nil, Nat.reduceAdd, Nat.reduceEqDiff, Nat.reduceLT, Nat.reduceLeDiff, Nat.reduceBEq, Nat.reduceBNe, reduceIte, if_true, if_false, Bool.false_and, Bool.true_and, Bool.and_true, Bool.and_false, Bool.not_false, Bool.not_true, Bool.false_eq_true, beq_self_eq_true, BEq.rfl, zCat1, zCat2, zCat3, zKdI, zKdL, zKdR, true_and, and_true, zSI, zSL, zSR, zu_at, and_self, and_false, false_and, lv_args, zKdZ, zKdO, zB01, zB11, Option.toList_none, Option.toList_some, List.nil_append, List.cons_append, true_or, or_true, zRow_rd, zu_rd, zo_if_eq, zo_aload_n, zo_getfield, zo_if_ne, zo_ldc_w, zo_ireturn, zi_m2147483648, zKd_10_64, sh_87, zRt, zKn_s, zKn_0, zFind, zb1_f, zN10, zN01, not_true_eq_false, not_false_eq_true, false_implies, true_implies, implies_true, eq_self, nI_1, nI_40, nI_7, vz0, vz1, zb1_e0, zb1_n0]
    exact bad (by rw [hr]; simp)
  | true =>
    refine zBlkR (M := mX10_second) (nL := 3) (rt := (Option.some .int)) (blk := bX10_second_10) (T := [(20, bX10_second_20), (24, bX10_second_24)]) 1 hX10_second_10 (zChks_cons hX10_second_20 (zChks_cons hX10_second_24 zChks_nil)) rfl rfl rfl (Nat.le_of_ble_eq_true rfl) (Nat.le_of_ble_eq_true rfl) ?_
    simp (implicitDefEqProofs := false) only [bX10_second_10, bX10_second_20, bX10_second_24, zRun_cons, zRun_nil, zLk, zSto, zIns, zFil, zf0, zf1, zf2, zf3, List.filter_cons, List.filter_nil, Nat.reduceAdd, Nat.reduceEqDiff, Nat.reduceLT, Nat.reduceLeDiff, Nat.reduceBEq, Nat.reduceBNe, reduceIte, if_true, if_false, Bool.false_and, Bool.true_and, Bool.and_true, Bool.and_false, Bool.not_false, Bool.not_true, Bool.false_eq_true, beq_self_eq_true, BEq.rfl, zCat1, zCat2, zCat3, zKdI, zKdL, zKdR, true_and, and_true, zSI, zSL, zSR, zu_at, and_self, and_false, false_and, lv_args, zKdZ, zKdO, zB01, zB11, Option.toList_none, Option.toList_some, List.nil_append, List.cons_append, true_or, or_true, zRow_rd, zu_rd, zo_if_eq, zo_aload_n, zo_getfield, zo_if_ne, zo_ldc_w, zo_ireturn, zi_m2147483648, zKd_10_64, sh_87, zRt, zKn_s, zKn_0, zFind, zb1_t, e64, show (nI rt.1 = 0) = (rt.1 = 0) from zeq_nat (b := 0) (by omega) (by omega), zN10, zN01, not_true_eq_false, not_false_eq_true, false_implies, true_implies, implies_true, eq_self, nI_1, nI_40, nI_7, vz0, vz1, zb1_e0, zb1_n0]
    refine ⟨fun h0' => ?_, fun h0' => bad (fun g => g.2 h0')⟩
    rw [if_pos ⟨hr, h0'⟩] at hQ
    obtain ⟨n, e, hn⟩ := pRun_t hr h9
    subst e
    rw [nI_clamp (by omega)] at hQ
    unfold oBalG at hQ
    refine z_cV0 (M' := mX10_plainRun) (R' := rX10_plainRun) (i := 87) [] [] eX10_plainRun k10_513 (by decide +kernel : decode cX10_second 25 = .ok (.invokevirtual 513, 3)) (Nat.le_of_ble_eq_true rfl) ⟨Nat.le_of_ble_eq_true rfl, Nat.le_of_ble_eq_true rfl, Nat.le_of_ble_eq_true rfl, Nat.le_of_ble_eq_true rfl, Nat.le_of_ble_eq_true rfl⟩ rfl rfl rfl sh_87 ?_
    refine mo_plainRun hR (fun I1 k1 hM => ?_)
    have hR1 := zRl_t k1 zKpt_rfl hR
    refine zBlkR (M := mX10_second) (nL := 3) (rt := (Option.some .int)) (blk := bX10_second_28) (T := []) 0 hX10_second_28 zChks_nil rfl rfl rfl (Nat.le_of_ble_eq_true rfl) (Nat.le_of_ble_eq_true rfl) ?_
    simp only [bX10_second_28, zRun_cons, zRun_nil, zLk, zSto, zIns, zFil, zf0, zf1, zf2, zf3, List.filter_cons, List.filter_nil, Nat.reduceAdd, Nat.reduceEqDiff, Nat.reduceLT, Nat.reduceLeDiff, Nat.reduceBEq, Nat.reduceBNe, reduceIte, if_true, if_false, Bool.false_and, Bool.true_and, Bool.and_true, Bool.and_false, Bool.not_false, Bool.not_true, Bool.false_eq_true, beq_self_eq_true, BEq.rfl, zCat1, zCat2, zCat3, zKdI, zKdL, zKdR, true_and, and_true, zSI, zSL, zSR, zu_at, and_self, and_false, false_and, lv_args, zKdZ, zKdO, zB01, zB11, Option.toList_none, Option.toList_some, List.nil_append, List.cons_append, true_or, or_true, zRow_rd, zu_rd, zo_aload_n, zKn_0, zN10, zN01, not_true_eq_false, not_false_eq_true, false_implies, true_implies, implies_true, eq_self, nI_1, nI_40, nI_7, vz0, vz1, zb1_e0, zb1_n0]
    refine z_cV0 (M' := mX10_layRun) (R' := rX10_layRun) (i := 87) [] [] eX10_layRun k10_534 (by decide +kernel : decode cX10_second 29 = .ok (.invokevirtual 534, 3)) (Nat.le_of_ble_eq_true rfl) ⟨Nat.le_of_ble_eq_true rfl, Nat.le_of_ble_eq_true rfl, Nat.le_of_ble_eq_true rfl, Nat.le_of_ble_eq_true rfl, Nat.le_of_ble_eq_true rfl⟩ rfl rfl rfl sh_87 ?_
    refine mo_layRun hR1.2.2.2.2.1.1 hR1.2.2.2.2.1.2.2.2.2.2.2 hpa (fun I2 L2 k2 k3 v2 d2 => ?_)
    refine zBlkR (M := mX10_second) (nL := 3) (rt := (Option.some .int)) (blk := bX10_second_32) (T := []) 0 hX10_second_32 zChks_nil rfl rfl rfl (Nat.le_of_ble_eq_true rfl) (Nat.le_of_ble_eq_true rfl) ?_
    simp only [bX10_second_32, zRun_cons, zRun_nil, zLk, zSto, zIns, zFil, zf0, zf1, zf2, zf3, List.filter_cons, List.filter_nil, Nat.reduceAdd, Nat.reduceEqDiff, Nat.reduceLT, Nat.reduceLeDiff, Nat.reduceBEq, Nat.reduceBNe, reduceIte, if_true, if_false, Bool.false_and, Bool.true_and, Bool.and_true, Bool.and_false, Bool.not_false, Bool.not_true, Bool.false_eq_true, beq_self_eq_true, BEq.rfl, zCat1, zCat2, zCat3, zKdI, zKdL, zKdR, true_and, and_true, zSI, zSL, zSR, zu_at, and_self, and_false, false_and, lv_args, zKdZ, zKdO, zB01, zB11, Option.toList_none, Option.toList_some, List.nil_append, List.cons_append, true_or, or_true, zRow_rd, zu_rd, zo_aload_n, zo_iload_n, zKn_0, zN10, zN01, not_true_eq_false, not_false_eq_true, false_implies, true_implies, implies_true, eq_self, nI_1, nI_40, nI_7, vz0, vz1, zb1_e0, zb1_n0]
    refine z_cV0 (M' := mX10_runs) (R' := rX10_runs) (i := 87) [.int (nI n)] [] eX10_runs k10_537 (by decide +kernel : decode cX10_second 34 = .ok (.invokevirtual 537, 3)) (Nat.le_of_ble_eq_true rfl) ⟨Nat.le_of_ble_eq_true rfl, Nat.le_of_ble_eq_true rfl, Nat.le_of_ble_eq_true rfl, Nat.le_of_ble_eq_true rfl, Nat.le_of_ble_eq_true rfl⟩ rfl rfl rfl sh_87 ?_
    refine mo_runs (m := mTold P) (rt := rt) (S := (V, d)) hn (by rw [zFR_87 k2 (by omega)]; exact hR1.2.2.2.2.1.2.1) hR.1 hR.2.2.2.2.2.2.1 (zRefP_R k2 hR1.2.2.1) (zRefM_R k2 hM) v2 d2 hR.2.2.2.2.2.1 (fun I3 L3 l1 l2 _ _ => ?_)
    generalize oBal P (oGs P (mTold P) rt t n (V, d)).1 = A at hQ ⊢
    refine zBlkR (M := mX10_second) (nL := 3) (rt := (Option.some .int)) (blk := bX10_second_37) (T := []) 0 hX10_second_37 zChks_nil rfl rfl rfl (Nat.le_of_ble_eq_true rfl) (Nat.le_of_ble_eq_true rfl) ?_
    simp only [bX10_second_37, zRun_cons, zRun_nil, zLk, zSto, zIns, zFil, zf0, zf1, zf2, zf3, List.filter_cons, List.filter_nil, Nat.reduceAdd, Nat.reduceEqDiff, Nat.reduceLT, Nat.reduceLeDiff, Nat.reduceBEq, Nat.reduceBNe, reduceIte, if_true, if_false, Bool.false_and, Bool.true_and, Bool.and_true, Bool.and_false, Bool.not_false, Bool.not_true, Bool.false_eq_true, beq_self_eq_true, BEq.rfl, zCat1, zCat2, zCat3, zKdI, zKdL, zKdR, true_and, and_true, zSI, zSL, zSR, zu_at, and_self, and_false, false_and, lv_args, zKdZ, zKdO, zB01, zB11, Option.toList_none, Option.toList_some, List.nil_append, List.cons_append, true_or, or_true, zRow_rd, zu_rd, zo_istore_n, zo_aload_n, zo_iconst, zo_putfield, zo_putfield_2, zo_putfield_3, zi_1, zKd_10_74, zTy_10_74, zcl_1, sh_87, zPutC, zKn_0, zN10, zN01, not_true_eq_false, not_false_eq_true, false_implies, true_implies, implies_true, eq_self, nI_1, nI_40, nI_7, vz0, vz1, zb1_e0, zb1_n0]
    have kA := (zFR1_SRt k2).trans (zFR1_SRt l1)
    have kB := (zFRL1_SRt k3).trans (zFRL1_SRt l2)
    have j0 : zKpt SRt I3 (zu I3 87 74 1) := zKpt_rfl.u (by unfold SRt; omega)
    have hRj := zRl_t j0 zKpt_rfl (zRl_t kA kB hR1)
    have hM3 := zRefM_R l1 (zRefM_R k2 hM)
    have hMj : zRefM (zu I3 87 74 1) (m2nd P) rt := by
      unfold zRefM at hM3 ⊢
      simp [zu_at, m2nd, mTold, zb1] at hM3 ⊢
      exact ⟨hM3.1, hM3.2.1, hM3.2.2.1, hM3.2.2.2.1, hM3.2.2.2.2.1, hM3.2.2.2.2.2.1, hM3.2.2.2.2.2.2.1, hM3.2.2.2.2.2.2.2.2⟩
    generalize zu I3 87 74 1 = J0 at *
    refine z_cV0 (M' := mX10_layRun) (R' := rX10_layRun) (i := 87) [] [] eX10_layRun k10_534 (by decide +kernel : decode cX10_second 44 = .ok (.invokevirtual 534, 3)) (Nat.le_of_ble_eq_true rfl) ⟨Nat.le_of_ble_eq_true rfl, Nat.le_of_ble_eq_true rfl, Nat.le_of_ble_eq_true rfl, Nat.le_of_ble_eq_true rfl, Nat.le_of_ble_eq_true rfl⟩ rfl rfl rfl sh_87 ?_
    refine mo_layRun hRj.2.2.2.2.1.1 hRj.2.2.2.2.1.2.2.2.2.2.2 hpa (fun I4 L4 k4 k5 v4 d4 => ?_)
    refine zBlkR (M := mX10_second) (nL := 3) (rt := (Option.some .int)) (blk := bX10_second_47) (T := []) 0 hX10_second_47 zChks_nil rfl rfl rfl (Nat.le_of_ble_eq_true rfl) (Nat.le_of_ble_eq_true rfl) ?_
    simp only [bX10_second_47, zRun_cons, zRun_nil, zLk, zSto, zIns, zFil, zf0, zf1, zf2, zf3, List.filter_cons, List.filter_nil, Nat.reduceAdd, Nat.reduceEqDiff, Nat.reduceLT, Nat.reduceLeDiff, Nat.reduceBEq, Nat.reduceBNe, reduceIte, if_true, if_false, Bool.false_and, Bool.true_and, Bool.and_true, Bool.and_false, Bool.not_false, Bool.not_true, Bool.false_eq_true, beq_self_eq_true, BEq.rfl, zCat1, zCat2, zCat3, zKdI, zKdL, zKdR, true_and, and_true, zSI, zSL, zSR, zu_at, and_self, and_false, false_and, lv_args, zKdZ, zKdO, zB01, zB11, Option.toList_none, Option.toList_some, List.nil_append, List.cons_append, true_or, or_true, zRow_rd, zu_rd, zo_aload_n, zo_iload_n, zKn_0, zN10, zN01, not_true_eq_false, not_false_eq_true, false_implies, true_implies, implies_true, eq_self, nI_1, nI_40, nI_7, vz0, vz1, zb1_e0, zb1_n0]
    refine z_cV0 (M' := mX10_runs) (R' := rX10_runs) (i := 87) [.int (nI n)] [] eX10_runs k10_537 (by decide +kernel : decode cX10_second 49 = .ok (.invokevirtual 537, 3)) (Nat.le_of_ble_eq_true rfl) ⟨Nat.le_of_ble_eq_true rfl, Nat.le_of_ble_eq_true rfl, Nat.le_of_ble_eq_true rfl, Nat.le_of_ble_eq_true rfl, Nat.le_of_ble_eq_true rfl⟩ rfl rfl rfl sh_87 ?_
    refine mo_runs (m := m2nd P) (rt := rt) (S := (V, d)) hn (by rw [zFR_87 k4 (by omega)]; exact hRj.2.2.2.2.1.2.1) hR.1 hR.2.2.2.2.2.2.1 (zRefP_R k4 hRj.2.2.1) (zRefM_R k4 hMj) v4 d4 hR.2.2.2.2.2.1 (fun I5 L5 l3 l4 _ _ => ?_)
    generalize oBal P (oGs P (m2nd P) rt t n (V, d)).1 = C at hQ ⊢
    have kC := (zFR1_SRt k4).trans (zFR1_SRt l3)
    have e6 : I5 102 6 = pR P 102 6 := by rw [(zRefP_t kC hRj.2.2.1).1 102 (by omega) (by omega)]
    refine zBlkR (M := mX10_second) (nL := 3) (rt := (Option.some .int)) (blk := bX10_second_52) (T := []) 0 hX10_second_52 zChks_nil rfl rfl rfl (Nat.le_of_ble_eq_true rfl) (Nat.le_of_ble_eq_true rfl) ?_
    simp (implicitDefEqProofs := false) only [bX10_second_52, zRun_cons, zRun_nil, zLk, zSto, zIns, zFil, zf0, zf1, zf2, zf3, List.filter_cons, List.filter_nil, Nat.reduceAdd, Nat.reduceEqDiff, Nat.reduceLT, Nat.reduceLeDiff, Nat.reduceBEq, Nat.reduceBNe, reduceIte, if_true, if_false, Bool.false_and, Bool.true_and, Bool.and_true, Bool.and_false, Bool.not_false, Bool.not_true, Bool.false_eq_true, beq_self_eq_true, BEq.rfl, zCat1, zCat2, zCat3, zKdI, zKdL, zKdR, true_and, and_true, zSI, zSL, zSR, zu_at, and_self, and_false, false_and, lv_args, zKdZ, zKdO, zB01, zB11, Option.toList_none, Option.toList_some, List.nil_append, List.cons_append, true_or, or_true, zRow_rd, zu_rd, zo_iload_n, zo_isub, zo_aload_n, zo_getfield, zo_bipush, zo_iaload, zo_ireturn, zb_6, zKd_10_36, sh_87, rf_87_36, sh_102, zcl_6, zvi_6_32, zRt, zKn_0, e6, zvi_6_32, zN10, zN01, not_true_eq_false, not_false_eq_true, false_implies, true_implies, implies_true, eq_self, nI_1, nI_40, nI_7, vz0, vz1, zb1_e0, zb1_n0]
    exact hQ I5 L5 ((((h0.trans k1).trans kA).trans j0).trans kC) (kB.trans ((zFRL1_SRt k5).trans (zFRL1_SRt l4)))
end ZA76
end
