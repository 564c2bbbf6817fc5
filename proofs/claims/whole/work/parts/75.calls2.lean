/-! ===== CALLS: best, second ===== -/
section ZA75
variable {w : zP} {Q : Option Value → zMem → Prop} {μ : zMem} {I J V V' : Nat → Nat → Int32} {L : Nat → Nat → Int64} {p s B T t kc : Nat} {r : Option Nat} {P : oPn} {m m' : oTm} {c i k q wh ch n : Nat} {x till br wt : Int32} {S : oS} {rt rr : oRt} {d : Int64}
/-- other terms in a trial -/
theorem zTr_m (hT : zTr I L p P m V d t rt br) (h : ∀ i k, i ≠ 9 → J i k = I i k) (hM : zClsM (J 9) m') (hb : J 9 2 = till) : zTr J L p P m' V d t rt till := by
  obtain ⟨⟨a1, a2, a3, a4, a5, a6, a7, a8, a9⟩, b1, b2, b3, b4⟩ := hT
  have hr : ∀ i, i ≠ 9 → J i = I i := fun i hi => funext fun k => h i k hi
  have hp := zPc_gt a2
  refine ⟨⟨a1, a2, a3, a4, zClsP_row (fun j => hr _ (by omega)) a5, hM, zFC_row (fun j hj => hr _ (by omega)) a7, by rw [hr 19 (by omega), a8], a9⟩, ?_, b2, hb, b4⟩
  unfold zRtC
  rw [hr 19 (by omega)]
  exact b1
set_option maxRecDepth 20000 in
theorem cl_best (hw : zOk w) (hC : zKl I L p P V d t kc rt) (hQ : ∀ I' L', zKpt SCt I I' → zKpt SCtL L L' → Q (some (.int (aBest P V d t rt x wt))) (SH, I', L', RF p s r)) : zXM w mX9_best rX9_best [.ref 0, .int x, .int wt] (SH, I, L, RF p s r) Q := by
  unfold zXM
  have h9 := hC.2.2.2.2.2.2.2.1
  refine zBlkR (M := mX9_best) (nL := 7) (rt := (Option.some .int)) (blk := bX9_best_0) (T := []) 0 hX9_best_0 zChks_nil rfl rfl rfl (Nat.le_of_ble_eq_true rfl) (Nat.le_of_ble_eq_true rfl) ?_
  simp only [bX9_best_0, zRun_cons, zRun_nil, zLk, zSto, zIns, zFil, zf0, zf1, zf2, zf3, List.filter_cons, List.filter_nil, Nat.reduceAdd, Nat.reduceEqDiff, Nat.reduceLT, Nat.reduceLeDiff, Nat.reduceBEq, Nat.reduceBNe, reduceIte, if_true, if_false, Bool.false_and, Bool.true_and, Bool.and_true, Bool.and_false, Bool.not_false, Bool.not_true, Bool.false_eq_true, beq_self_eq_true, BEq.rfl, zCat1, zCat2, zCat3, zKdI, zKdL, zKdR, true_and, and_true, zSI, zSL, zSR, zu_at, and_self, and_false, false_and, lv_args, zKdZ, zKdO, zB01, zB11, Option.toList_none, Option.toList_some, List.nil_append, List.cons_append, true_or, or_true, zRow_rd, zu_rd, zo_aload_n, zo_iload_n, zKn_0, zN10, zN01, not_true_eq_false, not_false_eq_true, false_implies, true_implies, implies_true, eq_self, nI_1, nI_40, nI_7, vz0, vz1, zb1_e0, zb1_n0]
  refine z_cV0 (M' := mX9_hasRun) (R' := rX9_hasRun) (i := 0) [.int x] [] eX9_hasRun k9_217 (by decide +kernel : decode cX9_best 2 = .ok (.invokevirtual 217, 3)) (Nat.le_of_ble_eq_true rfl) ⟨Nat.le_of_ble_eq_true rfl, Nat.le_of_ble_eq_true rfl, Nat.le_of_ble_eq_true rfl, Nat.le_of_ble_eq_true rfl, Nat.le_of_ble_eq_true rfl⟩ rfl rfl rfl sh_0 ?_
  refine cl_hasRun hC.2.2.2.2.1.2.1 h9 ?_
  unfold aBest at hQ
  have bad : ¬ (pRun t x = true ∧ oIn wt 2 = true) → Q (some (.int (-2147483648))) (SH, I, L, RF p s r) := by
    intro h
    rw [if_neg h] at hQ
    exact hQ I L zKpt_rfl zKpt_rfl
  cases hr : pRun t x with
  | false =>
    refine zBlkR (M := mX9_best) (nL := 7) (rt := (Option.some .int)) (blk := bX9_best_5) (T := [(17, bX9_best_17), (20, bX9_best_20)]) 1 hX9_best_5 (zChks_cons hX9_best_17 (zChks_cons hX9_best_20 zChks_nil)) rfl rfl rfl (Nat.le_of_ble_eq_true rfl) (Nat.le_of_ble_eq_true rfl) ?_
    simp (implicitDefEqProofs := false) only [bX9_best_5, bX9_best_17, bX9_best_20, zRun_cons, zRun_nil, zLk, zSto, zIns, zFil, zf0, zf1, zf2, zf3, List.filter_cons, List.filter_nil, Nat.reduceAdd, Nat.reduceEqDiff, Nat.reduceLT, Nat.reduceLeDiff, Nat.reduceBEq, Nat.reduceBNe, reduceIte, if_true, if_false, Bool.false_and, Bool.true_and, Bool.and_true, Bool.and_false, Bool.not_false, Bool.not_true, Bool.false_eq_true, beq_self_eq_true, BEq.rfl, zCat1, zCat2, zCat3, zKdI, zKdL, zKdR, true_and, and_true, zSI, zSL, zSR, zu_at, and_self, and_false, false_and, lv_args, zKdZ, zKdO, zB01, zB11, Option.toList_none, Option.toList_some, List.nil_append, List.cons_append, true_or, or_true, zRow_rd, zu_rd, zo_if_eq, zo_iload_n, zo_if_lt, zo_iconst, zo_icmp_le, zo_ldc, zo_ireturn, zo_istore_n, zo_istore, zi_1, zi_m2147483648, zi_0, zcl_1, zcl_0, zRt, zKn_s, zKn_0, zFind, zb1_f, zN10, zN01, not_true_eq_false, not_false_eq_true, false_implies, true_implies, implies_true, eq_self, nI_1, nI_40, nI_7, vz0, vz1, zb1_e0, zb1_n0]
    exact bad (by rw [hr]; simp)
  | true =>
    refine zBlkR (M := mX9_best) (nL := 7) (rt := (Option.some .int)) (blk := bX9_best_5) (T := [(17, bX9_best_17), (20, bX9_best_20)]) 1 hX9_best_5 (zChks_cons hX9_best_17 (zChks_cons hX9_best_20 zChks_nil)) rfl rfl rfl (Nat.le_of_ble_eq_true rfl) (Nat.le_of_ble_eq_true rfl) ?_
    simp (implicitDefEqProofs := false) only [bX9_best_5, bX9_best_17, bX9_best_20, zRun_cons, zRun_nil, zLk, zSto, zIns, zFil, zf0, zf1, zf2, zf3, List.filter_cons, List.filter_nil, Nat.reduceAdd, Nat.reduceEqDiff, Nat.reduceLT, Nat.reduceLeDiff, Nat.reduceBEq, Nat.reduceBNe, reduceIte, if_true, if_false, Bool.false_and, Bool.true_and, Bool.and_true, Bool.and_false, Bool.not_false, Bool.not_true, Bool.false_eq_true, beq_self_eq_true, BEq.rfl, zCat1, zCat2, zCat3, zKdI, zKdL, zKdR, true_and, and_true, zSI, zSL, zSR, zu_at, and_self, and_false, false_and, lv_args, zKdZ, zKdO, zB01, zB11, Option.toList_none, Option.toList_some, List.nil_append, List.cons_append, true_or, or_true, zRow_rd, zu_rd, zo_if_eq, zo_iload_n, zo_if_lt, zo_iconst, zo_icmp_le, zo_ldc, zo_ireturn, zo_istore_n, zo_istore, zi_1, zi_m2147483648, zi_0, zcl_1, zcl_0, zRt, zKn_s, zKn_0, zFind, zb1_t, zN10, zN01, not_true_eq_false, not_false_eq_true, false_implies, true_implies, implies_true, eq_self, nI_1, nI_40, nI_7, vz0, vz1, zb1_e0, zb1_n0]
    refine ⟨fun h => bad (by rw [oIn2.mp (Or.inl h)]; simp), fun h => ⟨fun h2 => ?_, fun h2 => bad (by rw [oIn2.mp (Or.inr h2)]; simp)⟩⟩
    have hin : oIn wt 2 = true := by
      cases hi : oIn wt 2 with
      | true => rfl
      | false => exact absurd (oIn2.mpr hi) (fun q => q.elim h (fun g => g h2))
    rw [if_pos ⟨hr, hin⟩] at hQ
    obtain ⟨n, e, hn⟩ := pRun_t hr h9
    subst e
    rw [nI_clamp (by omega)] at hQ
    generalize hf : (fun k => oBalG P (mPri P k) rt t n (V, d)) = f at hQ
    refine zLoop (n := 21) (P := fun k => ∀ J K, zKpt SCt I J → zKpt SCtL L K → zX w mX9_best rX9_best Q 0 0 29 [(0, Value.ref 0), (1, Value.int (nI n)), (2, Value.int wt), (3, Value.int (oArg f k).2), (4, Value.int (nI (oArg f k).1)), (5, Value.int (nI k))] [] (SH, J, K, RF p s r)) (fun k hk ih => ?_) 0 (Nat.zero_le _) I L zKpt_rfl zKpt_rfl
    intro J K hJ hK
    by_cases hk21 : k = 21
    · subst hk21
      refine zBlkR (M := mX9_best) (nL := 7) (rt := (Option.some .int)) (blk := bX9_best_29) (T := [(75, bX9_best_75), (84, bX9_best_84), (85, bX9_best_85)]) 2 hX9_best_29 (zChks_cons hX9_best_75 (zChks_cons hX9_best_84 (zChks_cons hX9_best_85 zChks_nil))) rfl rfl rfl (Nat.le_of_ble_eq_true rfl) (Nat.le_of_ble_eq_true rfl) ?_
      simp only [bX9_best_29, bX9_best_75, bX9_best_84, bX9_best_85, zRun_cons, zRun_nil, zLk, zSto, zIns, zFil, zf0, zf1, zf2, zf3, List.filter_cons, List.filter_nil, Nat.reduceAdd, Nat.reduceEqDiff, Nat.reduceLT, Nat.reduceLeDiff, Nat.reduceBEq, Nat.reduceBNe, reduceIte, if_true, if_false, Bool.false_and, Bool.true_and, Bool.and_true, Bool.and_false, Bool.not_false, Bool.not_true, Bool.false_eq_true, beq_self_eq_true, BEq.rfl, zCat1, zCat2, zCat3, zKdI, zKdL, zKdR, true_and, and_true, zSI, zSL, zSR, zu_at, and_self, and_false, false_and, lv_args, zKdZ, zKdO, zB01, zB11, Option.toList_none, Option.toList_some, List.nil_append, List.cons_append, true_or, or_true, zRow_rd, zu_rd, zo_iload, zo_bipush, zo_icmp_gt, zo_aload_n, zo_iload_n, zo_if_ne, zo_goto, zo_ireturn, zb_20, zcl_20, zRt, zKn_s, zKn_0, zFind, show ((20 : Int32) < nI 21) = True from eq_true (by decide), zN10, zN01, not_true_eq_false, not_false_eq_true, false_implies, true_implies, implies_true, eq_self, nI_1, nI_40, nI_7, vz0, vz1, zb1_e0, zb1_n0]
      refine ⟨fun h => ?_, fun h => ?_⟩
      · have hQ := hQ J K hJ hK; rw [if_neg h] at hQ; exact hQ
      · have hQ := hQ J K hJ hK; rw [if_pos h] at hQ; exact hQ
    · have hx : ((20 : Int32) < nI k) = False := eq_false (by rw [show (20 : Int32) = nI 20 from rfl, zlt_nat (by omega) (by omega)]; omega)
      have hCJ := zKl_t hJ hK hC
      refine zBlkR (M := mX9_best) (nL := 7) (rt := (Option.some .int)) (blk := bX9_best_29) (T := [(75, bX9_best_75), (84, bX9_best_84), (85, bX9_best_85)]) 2 hX9_best_29 (zChks_cons hX9_best_75 (zChks_cons hX9_best_84 (zChks_cons hX9_best_85 zChks_nil))) rfl rfl rfl (Nat.le_of_ble_eq_true rfl) (Nat.le_of_ble_eq_true rfl) ?_
      simp only [bX9_best_29, bX9_best_75, bX9_best_84, bX9_best_85, zRun_cons, zRun_nil, zLk, zSto, zIns, zFil, zf0, zf1, zf2, zf3, List.filter_cons, List.filter_nil, Nat.reduceAdd, Nat.reduceEqDiff, Nat.reduceLT, Nat.reduceLeDiff, Nat.reduceBEq, Nat.reduceBNe, reduceIte, if_true, if_false, Bool.false_and, Bool.true_and, Bool.and_true, Bool.and_false, Bool.not_false, Bool.not_true, Bool.false_eq_true, beq_self_eq_true, BEq.rfl, zCat1, zCat2, zCat3, zKdI, zKdL, zKdR, true_and, and_true, zSI, zSL, zSR, zu_at, and_self, and_false, false_and, lv_args, zKdZ, zKdO, zB01, zB11, Option.toList_none, Option.toList_some, List.nil_append, List.cons_append, true_or, or_true, zRow_rd, zu_rd, zo_iload, zo_bipush, zo_icmp_gt, zo_aload_n, zo_iload_n, zo_if_ne, zo_goto, zo_ireturn, zb_20, zcl_20, zRt, zKn_s, zKn_0, zFind, hx, zN10, zN01, not_true_eq_false, not_false_eq_true, false_implies, true_implies, implies_true, eq_self, nI_1, nI_40, nI_7, vz0, vz1, zb1_e0, zb1_n0]
      refine z_cV0 (M' := mX9_prepare) (R' := rX9_prepare) (i := 0) [] [] eX9_prepare k9_233 (by decide +kernel : decode cX9_best 37 = .ok (.invokevirtual 233, 3)) (Nat.le_of_ble_eq_true rfl) ⟨Nat.le_of_ble_eq_true rfl, Nat.le_of_ble_eq_true rfl, Nat.le_of_ble_eq_true rfl, Nat.le_of_ble_eq_true rfl, Nat.le_of_ble_eq_true rfl⟩ rfl rfl rfl sh_0 ?_
      refine cl_prepare hCJ (fun I1 L1 k1 k2 hT => ?_)
      refine zBlkR (M := mX9_best) (nL := 7) (rt := (Option.some .int)) (blk := bX9_best_40) (T := []) 0 hX9_best_40 zChks_nil rfl rfl rfl (Nat.le_of_ble_eq_true rfl) (Nat.le_of_ble_eq_true rfl) ?_
      simp only [bX9_best_40, zRun_cons, zRun_nil, zLk, zSto, zIns, zFil, zf0, zf1, zf2, zf3, List.filter_cons, List.filter_nil, Nat.reduceAdd, Nat.reduceEqDiff, Nat.reduceLT, Nat.reduceLeDiff, Nat.reduceBEq, Nat.reduceBNe, reduceIte, if_true, if_false, Bool.false_and, Bool.true_and, Bool.and_true, Bool.and_false, Bool.not_false, Bool.not_true, Bool.false_eq_true, beq_self_eq_true, BEq.rfl, zCat1, zCat2, zCat3, zKdI, zKdL, zKdR, true_and, and_true, zSI, zSL, zSR, zu_at, and_self, and_false, false_and, lv_args, zKdZ, zKdO, zB01, zB11, Option.toList_none, Option.toList_some, List.nil_append, List.cons_append, true_or, or_true, zRow_rd, zu_rd, zo_aload_n, zo_getfield, zo_iload, zo_putfield, zo_putfield_2, zo_putfield_3, zo_iload_n, zKd_9_3, zKd_6_0, zTy_6_0, sh_0, rf_0_3, sh_9, sh_8, zPutC, zKn_0, zN10, zN01, not_true_eq_false, not_false_eq_true, false_implies, true_implies, implies_true, eq_self, nI_1, nI_40, nI_7, vz0, vz1, zb1_e0, zb1_n0]
      have hT2 : zTr (zu I1 9 0 (nI k)) L1 p P (mPri P k) V d t rt (-1) := by
        have hM := hT.1.2.2.2.2.2.1
        refine zTr_m hT (fun i j hi => by rw [zu_at, if_neg (fun g => hi g.1)]) ?_ (by rw [zu_at, if_neg (by decide)]; exact hT.2.2.2.1)
        unfold zClsM at hM ⊢
        simp [zu_at, mTold, mPri] at hM ⊢
        exact hM.2
      refine z_cV0 (M' := mX9_balanceAfter) (R' := rX9_balanceAfter) (i := 0) [.int (nI n)] [] eX9_balanceAfter k9_236 (by decide +kernel : decode cX9_best 51 = .ok (.invokevirtual 236, 3)) (Nat.le_of_ble_eq_true rfl) ⟨Nat.le_of_ble_eq_true rfl, Nat.le_of_ble_eq_true rfl, Nat.le_of_ble_eq_true rfl, Nat.le_of_ble_eq_true rfl, Nat.le_of_ble_eq_true rfl⟩ rfl rfl rfl sh_0 ?_
      refine cl_balanceAfter hw hT2 hn (fun I2 L2 k3 k4 => ?_)
      rw [oGsb_m1 hn]
      have hfk : oBal P (oGs P (mPri P k) rt t n (V, d)).1 = f k := by rw [← hf]; rfl
      rw [hfk]
      have ih := ih (by omega) I2 L2 ((hJ.trans (k1.u (by unfold SCt; omega))).trans k3) ((hK.trans k2).trans k4)
      rw [oArg] at ih
      refine zBlkR (M := mX9_best) (nL := 7) (rt := (Option.some .int)) (blk := bX9_best_54) (T := [(69, bX9_best_69)]) 1 hX9_best_54 (zChks_cons hX9_best_69 zChks_nil) rfl rfl rfl (Nat.le_of_ble_eq_true rfl) (Nat.le_of_ble_eq_true rfl) ?_
      simp only [bX9_best_54, bX9_best_69, zRun_cons, zRun_nil, zLk, zSto, zIns, zFil, zf0, zf1, zf2, zf3, List.filter_cons, List.filter_nil, Nat.reduceAdd, Nat.reduceEqDiff, Nat.reduceLT, Nat.reduceLeDiff, Nat.reduceBEq, Nat.reduceBNe, reduceIte, if_true, if_false, Bool.false_and, Bool.true_and, Bool.and_true, Bool.and_false, Bool.not_false, Bool.not_true, Bool.false_eq_true, beq_self_eq_true, BEq.rfl, zCat1, zCat2, zCat3, zKdI, zKdL, zKdR, true_and, and_true, zSI, zSL, zSR, zu_at, and_self, and_false, false_and, lv_args, zKdZ, zKdO, zB01, zB11, Option.toList_none, Option.toList_some, List.nil_append, List.cons_append, true_or, or_true, zRow_rd, zu_rd, zo_istore, zo_iload, zo_iload_n, zo_icmp_le, zo_istore_n, zo_iinc, zo_goto, zi_1, zKn_s, zKn_0, zFind, zN10, zN01, not_true_eq_false, not_false_eq_true, false_implies, true_implies, implies_true, eq_self, nI_1, nI_40, nI_7, vz0, vz1, zb1_e0, zb1_n0]
      refine ⟨fun h => ?_, fun h => ?_⟩
      · rw [if_neg (Int32.not_lt.mpr h)] at ih
        exact zX.sub' ih (by simp)
      · rw [if_pos (Int32.not_le.mp h)] at ih
        exact zX.sub' ih (by simp)
set_option maxRecDepth 20000 in
theorem mo_best (hR : zRl I L P V d t kc rt) (hQ : ∀ I' L', zKpt SRt I I' → zKpt SRtL L L' → Q (some (.int (aBest P V d t rt x wt))) (SH, I', L', RF p s r)) : zXM w mX10_best rX10_best [.ref 87, .int x, .int wt] (SH, I, L, RF p s r) Q := by
  unfold zXM
  refine zBlkR (M := mX10_best) (nL := 7) (rt := (Option.some .int)) (blk := bX10_best_0) (T := []) 0 hX10_best_0 zChks_nil rfl rfl rfl (Nat.le_of_ble_eq_true rfl) (Nat.le_of_ble_eq_true rfl) ?_
  simp only [bX10_best_0, zRun_cons, zRun_nil, zLk, zSto, zIns, zFil, zf0, zf1, zf2, zf3, List.filter_cons, List.filter_nil, Nat.reduceAdd, Nat.reduceEqDiff, Nat.reduceLT, Nat.reduceLeDiff, Nat.reduceBEq, Nat.reduceBNe, reduceIte, if_true, if_false, Bool.false_and, Bool.true_and, Bool.and_true, Bool.and_false, Bool.not_false, Bool.not_true, Bool.false_eq_true, beq_self_eq_true, BEq.rfl, zCat1, zCat2, zCat3, zKdI, zKdL, zKdR, true_and, and_true, zSI, zSL, zSR, zu_at, and_self, and_false, false_and, lv_args, zKdZ, zKdO, zB01, zB11, Option.toList_none, Option.toList_some, List.nil_append, List.cons_append, true_or, or_true, zRow_rd, zu_rd, zo_aload_n, zo_iconst, zo_putfield, zo_putfield_2, zo_putfield_3, zo_iload_n, zi_0, zKd_10_2, zTy_10_2, zcl_0, sh_87, zPutC, zKn_0, zN10, zN01, not_true_eq_false, not_false_eq_true, false_implies, true_implies, implies_true, eq_self, nI_1, nI_40, nI_7, vz0, vz1, zb1_e0, zb1_n0]
  have h0 : zKpt SRt I (zu I 87 2 0) := zKpt_rfl.u (by unfold SRt; omega)
  have hR := zRl_t h0 zKpt_rfl hR
  have h9 := hR.2.2.2.2.2.2.2.1
  have hpa : ∀ c, c < 40 → V 5 c = 0 ∨ V 5 c = 1 := fun c hc => oOk_pa hR.2.2.2.2.2.1 hc
  generalize zu I 87 2 0 = I0 at *
  refine z_cV0 (M' := mX10_isRun) (R' := rX10_isRun) (i := 87) [.int x] [] eX10_isRun k10_530 (by decide +kernel : decode cX10_best 7 = .ok (.invokevirtual 530, 3)) (Nat.le_of_ble_eq_true rfl) ⟨Nat.le_of_ble_eq_true rfl, Nat.le_of_ble_eq_true rfl, Nat.le_of_ble_eq_true rfl, Nat.le_of_ble_eq_true rfl, Nat.le_of_ble_eq_true rfl⟩ rfl rfl rfl sh_87 ?_
  refine mo_isRun hR.2.2.2.2.1.2.1 h9 ?_
  unfold aBest at hQ
  have bad : ¬ (pRun t x = true ∧ oIn wt 2 = true) → Q (some (.int (-2147483648))) (SH, I0, L, RF p s r) := by
    intro h
    rw [if_neg h] at hQ
    exact hQ I0 L h0 zKpt_rfl
  cases hr : pRun t x with
  | false =>
    refine zBlkR (M := mX10_best) (nL := 7) (rt := (Option.some .int)) (blk := bX10_best_10) (T := [(22, bX10_best_22)]) 1 hX10_best_10 (zChks_cons hX10_best_22 zChks_nil) rfl rfl rfl (Nat.le_of_ble_eq_true rfl) (Nat.le_of_ble_eq_true rfl) ?_
    simp (implicitDefEqProofs := false) only [bX10_best_10, bX10_best_22, zRun_cons, zRun_nil, zLk, zSto, zIns, zFil, zf0, zf1, zf2, zf3, List.filter_cons, List.filter_nil, Nat.reduceAdd, Nat.reduceEqDiff, Nat.reduceLT, Nat.reduceLeDiff, Nat.reduceBEq, Nat.reduceBNe, reduceIte, if_true, if_false, Bool.false_and, Bool.true_and, Bool.and_true, Bool.and_false, Bool.not_false, Bool.not_true, Bool.false_eq_true, beq_self_eq_true, BEq.rfl, zCat1, zCat2, zCat3, zKdI, zKdL, zKdR, true_and, and_true, zSI, zSL, zSR, zu_at, and_self, and_false, false_and, lv_args, zKdZ, zKdO, zB01, zB11, Option.toList_none, Option.toList_some, List.nil_append, List.cons_append, true_or, or_true, zRow_rd, zu_rd, zo_if_eq, zo_iload_n, zo_iconst, zo_ldc_w, zo_ireturn, zi_0, zi_1, zi_m2147483648, zcl_0, zcl_1, zRt, zKn_s, zKn_0, zFind, zb1_f, zN10, zN01, not_true_eq_false, not_false_eq_true, false_implies, true_implies, implies_true, eq_self, nI_1, nI_40, nI_7, vz0, vz1, zb1_e0, zb1_n0]
    exact bad (by rw [hr]; simp)
  | true =>
    refine zBlkR (M := mX10_best) (nL := 7) (rt := (Option.some .int)) (blk := bX10_best_10) (T := [(22, bX10_best_22)]) 1 hX10_best_10 (zChks_cons hX10_best_22 zChks_nil) rfl rfl rfl (Nat.le_of_ble_eq_true rfl) (Nat.le_of_ble_eq_true rfl) ?_
    simp (implicitDefEqProofs := false) only [bX10_best_10, bX10_best_22, zRun_cons, zRun_nil, zLk, zSto, zIns, zFil, zf0, zf1, zf2, zf3, List.filter_cons, List.filter_nil, Nat.reduceAdd, Nat.reduceEqDiff, Nat.reduceLT, Nat.reduceLeDiff, Nat.reduceBEq, Nat.reduceBNe, reduceIte, if_true, if_false, Bool.false_and, Bool.true_and, Bool.and_true, Bool.and_false, Bool.not_false, Bool.not_true, Bool.false_eq_true, beq_self_eq_true, BEq.rfl, zCat1, zCat2, zCat3, zKdI, zKdL, zKdR, true_and, and_true, zSI, zSL, zSR, zu_at, and_self, and_false, false_and, lv_args, zKdZ, zKdO, zB01, zB11, Option.toList_none, Option.toList_some, List.nil_append, List.cons_append, true_or, or_true, zRow_rd, zu_rd, zo_if_eq, zo_iload_n, zo_iconst, zo_ldc_w, zo_ireturn, zi_0, zi_1, zi_m2147483648, zcl_0, zcl_1, zRt, zKn_s, zKn_0, zFind, zb1_t, zN10, zN01, not_true_eq_false, not_false_eq_true, false_implies, true_implies, implies_true, eq_self, nI_1, nI_40, nI_7, vz0, vz1, zb1_e0, zb1_n0]
    refine z_cS0 (M' := mX10_isIn) (R' := rX10_isIn) [.int wt, .int 0, .int 1] [] eX10_isIn k10_223 (by decide +kernel : decode cX10_best 16 = .ok (.invokestatic 223, 3)) (Nat.le_of_ble_eq_true rfl) ⟨Nat.le_of_ble_eq_true rfl, Nat.le_of_ble_eq_true rfl, Nat.le_of_ble_eq_true rfl, Nat.le_of_ble_eq_true rfl, Nat.le_of_ble_eq_true rfl⟩ rfl rfl rfl ?_
    refine mo_isIn ?_
    rw [show (1 : Int32) = nI 1 from rfl, oIn_isIn (by omega)]
    cases hin : oIn wt (1 + 1) with
    | false =>
      refine zBlkR (M := mX10_best) (nL := 7) (rt := (Option.some .int)) (blk := bX10_best_19) (T := [(26, bX10_best_26)]) 1 hX10_best_19 (zChks_cons hX10_best_26 zChks_nil) rfl rfl rfl (Nat.le_of_ble_eq_true rfl) (Nat.le_of_ble_eq_true rfl) ?_
      simp (implicitDefEqProofs := false) only [bX10_best_19, bX10_best_26, zRun_cons, zRun_nil, zLk, zSto, zIns, zFil, zf0, zf1, zf2, zf3, List.filter_cons, List.filter_nil, Nat.reduceAdd, Nat.reduceEqDiff, Nat.reduceLT, Nat.reduceLeDiff, Nat.reduceBEq, Nat.reduceBNe, reduceIte, if_true, if_false, Bool.false_and, Bool.true_and, Bool.and_true, Bool.and_false, Bool.not_false, Bool.not_true, Bool.false_eq_true, beq_self_eq_true, BEq.rfl, zCat1, zCat2, zCat3, zKdI, zKdL, zKdR, true_and, and_true, zSI, zSL, zSR, zu_at, and_self, and_false, false_and, lv_args, zKdZ, zKdO, zB01, zB11, Option.toList_none, Option.toList_some, List.nil_append, List.cons_append, true_or, or_true, zRow_rd, zu_rd, zo_if_ne, zo_ldc_w, zo_ireturn, zo_aload_n, zi_m2147483648, zRt, zKn_s, zKn_0, zFind, zb1_f, zN10, zN01, not_true_eq_false, not_false_eq_true, false_implies, true_implies, implies_true, eq_self, nI_1, nI_40, nI_7, vz0, vz1, zb1_e0, zb1_n0]
      exact bad (by rw [show oIn wt 2 = false from hin]; simp)
    | true =>
      rw [if_pos ⟨hr, hin⟩] at hQ
      obtain ⟨n, e, hn⟩ := pRun_t hr h9
      subst e
      rw [nI_clamp (by omega)] at hQ
      generalize hf : (fun k => oBalG P (mPri P k) rt t n (V, d)) = f at hQ
      refine zBlkR (M := mX10_best) (nL := 7) (rt := (Option.some .int)) (blk := bX10_best_19) (T := [(26, bX10_best_26)]) 1 hX10_best_19 (zChks_cons hX10_best_26 zChks_nil) rfl rfl rfl (Nat.le_of_ble_eq_true rfl) (Nat.le_of_ble_eq_true rfl) ?_
      simp (implicitDefEqProofs := false) only [bX10_best_19, bX10_best_26, zRun_cons, zRun_nil, zLk, zSto, zIns, zFil, zf0, zf1, zf2, zf3, List.filter_cons, List.filter_nil, Nat.reduceAdd, Nat.reduceEqDiff, Nat.reduceLT, Nat.reduceLeDiff, Nat.reduceBEq, Nat.reduceBNe, reduceIte, if_true, if_false, Bool.false_and, Bool.true_and, Bool.and_true, Bool.and_false, Bool.not_false, Bool.not_true, Bool.false_eq_true, beq_self_eq_true, BEq.rfl, zCat1, zCat2, zCat3, zKdI, zKdL, zKdR, true_and, and_true, zSI, zSL, zSR, zu_at, and_self, and_false, false_and, lv_args, zKdZ, zKdO, zB01, zB11, Option.toList_none, Option.toList_some, List.nil_append, List.cons_append, true_or, or_true, zRow_rd, zu_rd, zo_if_ne, zo_ldc_w, zo_ireturn, zo_aload_n, zi_m2147483648, zRt, zKn_s, zKn_0, zFind, zb1_t, zN10, zN01, not_true_eq_false, not_false_eq_true, false_implies, true_implies, implies_true, eq_self, nI_1, nI_40, nI_7, vz0, vz1, zb1_e0, zb1_n0]
      refine z_cV0 (M' := mX10_plainRun) (R' := rX10_plainRun) (i := 87) [] [] eX10_plainRun k10_513 (by decide +kernel : decode cX10_best 27 = .ok (.invokevirtual 513, 3)) (Nat.le_of_ble_eq_true rfl) ⟨Nat.le_of_ble_eq_true rfl, Nat.le_of_ble_eq_true rfl, Nat.le_of_ble_eq_true rfl, Nat.le_of_ble_eq_true rfl, Nat.le_of_ble_eq_true rfl⟩ rfl rfl rfl sh_87 ?_
      refine mo_plainRun hR (fun I1 k1 hM => ?_)
      have hR1 := zRl_t k1 zKpt_rfl hR
      refine zBlkR (M := mX10_best) (nL := 7) (rt := (Option.some .int)) (blk := bX10_best_30) (T := []) 0 hX10_best_30 zChks_nil rfl rfl rfl (Nat.le_of_ble_eq_true rfl) (Nat.le_of_ble_eq_true rfl) ?_
      simp only [bX10_best_30, zRun_cons, zRun_nil, zLk, zSto, zIns, zFil, zf0, zf1, zf2, zf3, List.filter_cons, List.filter_nil, Nat.reduceAdd, Nat.reduceEqDiff, Nat.reduceLT, Nat.reduceLeDiff, Nat.reduceBEq, Nat.reduceBNe, reduceIte, if_true, if_false, Bool.false_and, Bool.true_and, Bool.and_true, Bool.and_false, Bool.not_false, Bool.not_true, Bool.false_eq_true, beq_self_eq_true, BEq.rfl, zCat1, zCat2, zCat3, zKdI, zKdL, zKdR, true_and, and_true, zSI, zSL, zSR, zu_at, and_self, and_false, false_and, lv_args, zKdZ, zKdO, zB01, zB11, Option.toList_none, Option.toList_some, List.nil_append, List.cons_append, true_or, or_true, zRow_rd, zu_rd, zo_iconst, zo_istore_n, zo_istore, zi_m1, zi_0, zcl_0, zKn_0, zN10, zN01, not_true_eq_false, not_false_eq_true, false_implies, true_implies, implies_true, eq_self, nI_1, nI_40, nI_7, vz0, vz1, zb1_e0, zb1_n0]
      refine zLoop (n := 21) (P := fun k => ∀ J K, zKpt SRt I J → zKpt SRtL L K → zRl J K P V d t kc rt → (∃ y, zRefM J (y, -1, -1, false, false, false, false, false) rt) → zX w mX10_best rX10_best Q 0 0 38 [(0, Value.ref 87), (1, Value.int (nI n)), (2, Value.int wt), (3, Value.int (oRef f k).1), (4, Value.int (oRef f k).2), (5, Value.int (nI k))] [] (SH, J, K, RF p s r)) (fun k hk ih => ?_) 0 (Nat.zero_le _) I1 L (h0.trans k1) zKpt_rfl hR1 ⟨_, hM⟩
      intro J K hJ hK hRJ hMJ
      by_cases hk21 : k = 21
      · subst hk21
        have e1 : (oRef f 21).1 = nI (oArg f 21).1 := rfl
        have e2 : (oRef f 21).2 = (oArg f 21).2 := rfl
        refine zBlkR (M := mX10_best) (nL := 7) (rt := (Option.some .int)) (blk := bX10_best_38) (T := [(89, bX10_best_89), (97, bX10_best_97), (99, bX10_best_99)]) 2 hX10_best_38 (zChks_cons hX10_best_89 (zChks_cons hX10_best_97 (zChks_cons hX10_best_99 zChks_nil))) rfl rfl rfl (Nat.le_of_ble_eq_true rfl) (Nat.le_of_ble_eq_true rfl) ?_
        simp only [bX10_best_38, bX10_best_89, bX10_best_97, bX10_best_99, zRun_cons, zRun_nil, zLk, zSto, zIns, zFil, zf0, zf1, zf2, zf3, List.filter_cons, List.filter_nil, Nat.reduceAdd, Nat.reduceEqDiff, Nat.reduceLT, Nat.reduceLeDiff, Nat.reduceBEq, Nat.reduceBNe, reduceIte, if_true, if_false, Bool.false_and, Bool.true_and, Bool.and_true, Bool.and_false, Bool.not_false, Bool.not_true, Bool.false_eq_true, beq_self_eq_true, BEq.rfl, zCat1, zCat2, zCat3, zKdI, zKdL, zKdR, true_and, and_true, zSI, zSL, zSR, zu_at, and_self, and_false, false_and, lv_args, zKdZ, zKdO, zB01, zB11, Option.toList_none, Option.toList_some, List.nil_append, List.cons_append, true_or, or_true, zRow_rd, zu_rd, zo_iload, zo_bipush, zo_icmp_ge, zo_aload_n, zo_putfield, zo_putfield_2, zo_putfield_3, zo_iload_n, zo_if_ne, zo_goto, zo_ireturn, zb_21, zKd_10_67, zTy_10_67, zcl_21, sh_87, zRt, zPutC, zKn_s, zKn_0, zFind, e1, e2, show ((21 : Int32) ≤ nI 21) = True from eq_true (by decide), zN10, zN01, not_true_eq_false, not_false_eq_true, false_implies, true_implies, implies_true, eq_self, nI_1, nI_40, nI_7, vz0, vz1, zb1_e0, zb1_n0]
        refine ⟨fun h => ?_, fun h => ?_⟩
        · have hQ := hQ J K hJ hK; rw [if_neg h] at hQ; exact hQ
        · have hQ := hQ J K hJ hK; rw [if_pos h] at hQ; exact hQ
      · have hx : ((21 : Int32) ≤ nI k) = False := eq_false (by rw [show (21 : Int32) = nI 21 from rfl, zle_nat (by omega) (by omega)]; omega)
        obtain ⟨y, hMJ⟩ := hMJ
        refine zBlkR (M := mX10_best) (nL := 7) (rt := (Option.some .int)) (blk := bX10_best_38) (T := [(89, bX10_best_89), (97, bX10_best_97), (99, bX10_best_99)]) 2 hX10_best_38 (zChks_cons hX10_best_89 (zChks_cons hX10_best_97 (zChks_cons hX10_best_99 zChks_nil))) rfl rfl rfl (Nat.le_of_ble_eq_true rfl) (Nat.le_of_ble_eq_true rfl) ?_
        simp only [bX10_best_38, bX10_best_89, bX10_best_97, bX10_best_99, zRun_cons, zRun_nil, zLk, zSto, zIns, zFil, zf0, zf1, zf2, zf3, List.filter_cons, List.filter_nil, Nat.reduceAdd, Nat.reduceEqDiff, Nat.reduceLT, Nat.reduceLeDiff, Nat.reduceBEq, Nat.reduceBNe, reduceIte, if_true, if_false, Bool.false_and, Bool.true_and, Bool.and_true, Bool.and_false, Bool.not_false, Bool.not_true, Bool.false_eq_true, beq_self_eq_true, BEq.rfl, zCat1, zCat2, zCat3, zKdI, zKdL, zKdR, true_and, and_true, zSI, zSL, zSR, zu_at, and_self, and_false, false_and, lv_args, zKdZ, zKdO, zB01, zB11, Option.toList_none, Option.toList_some, List.nil_append, List.cons_append, true_or, or_true, zRow_rd, zu_rd, zo_iload, zo_bipush, zo_icmp_ge, zo_aload_n, zo_putfield, zo_putfield_2, zo_putfield_3, zo_iload_n, zo_if_ne, zo_goto, zo_ireturn, zb_21, zKd_10_67, zTy_10_67, zcl_21, sh_87, zRt, zPutC, zKn_s, zKn_0, zFind, hx, zN10, zN01, not_true_eq_false, not_false_eq_true, false_implies, true_implies, implies_true, eq_self, nI_1, nI_40, nI_7, vz0, vz1, zb1_e0, zb1_n0]
        have j0 : zKpt SRt J (zu J 87 67 (nI k)) := zKpt_rfl.u (by unfold SRt; omega)
        have hRj := zRl_t j0 zKpt_rfl hRJ
        have hMj : zRefM (zu J 87 67 (nI k)) (mPri P k) rt := by
          unfold zRefM at hMJ ⊢
          simp [zu_at, mPri] at hMJ ⊢
          exact hMJ.2
        generalize zu J 87 67 (nI k) = J0 at *
        refine z_cV0 (M' := mX10_layRun) (R' := rX10_layRun) (i := 87) [] [] eX10_layRun k10_534 (by decide +kernel : decode cX10_best 52 = .ok (.invokevirtual 534, 3)) (Nat.le_of_ble_eq_true rfl) ⟨Nat.le_of_ble_eq_true rfl, Nat.le_of_ble_eq_true rfl, Nat.le_of_ble_eq_true rfl, Nat.le_of_ble_eq_true rfl, Nat.le_of_ble_eq_true rfl⟩ rfl rfl rfl sh_87 ?_
        refine mo_layRun hRj.2.2.2.2.1.1 hRj.2.2.2.2.1.2.2.2.2.2.2 hpa (fun I2 L2 k2 k3 v2 d2 => ?_)
        refine zBlkR (M := mX10_best) (nL := 7) (rt := (Option.some .int)) (blk := bX10_best_55) (T := []) 0 hX10_best_55 zChks_nil rfl rfl rfl (Nat.le_of_ble_eq_true rfl) (Nat.le_of_ble_eq_true rfl) ?_
        simp only [bX10_best_55, zRun_cons, zRun_nil, zLk, zSto, zIns, zFil, zf0, zf1, zf2, zf3, List.filter_cons, List.filter_nil, Nat.reduceAdd, Nat.reduceEqDiff, Nat.reduceLT, Nat.reduceLeDiff, Nat.reduceBEq, Nat.reduceBNe, reduceIte, if_true, if_false, Bool.false_and, Bool.true_and, Bool.and_true, Bool.and_false, Bool.not_false, Bool.not_true, Bool.false_eq_true, beq_self_eq_true, BEq.rfl, zCat1, zCat2, zCat3, zKdI, zKdL, zKdR, true_and, and_true, zSI, zSL, zSR, zu_at, and_self, and_false, false_and, lv_args, zKdZ, zKdO, zB01, zB11, Option.toList_none, Option.toList_some, List.nil_append, List.cons_append, true_or, or_true, zRow_rd, zu_rd, zo_aload_n, zo_iload_n, zKn_0, zN10, zN01, not_true_eq_false, not_false_eq_true, false_implies, true_implies, implies_true, eq_self, nI_1, nI_40, nI_7, vz0, vz1, zb1_e0, zb1_n0]
        refine z_cV0 (M' := mX10_runs) (R' := rX10_runs) (i := 87) [.int (nI n)] [] eX10_runs k10_537 (by decide +kernel : decode cX10_best 57 = .ok (.invokevirtual 537, 3)) (Nat.le_of_ble_eq_true rfl) ⟨Nat.le_of_ble_eq_true rfl, Nat.le_of_ble_eq_true rfl, Nat.le_of_ble_eq_true rfl, Nat.le_of_ble_eq_true rfl, Nat.le_of_ble_eq_true rfl⟩ rfl rfl rfl sh_87 ?_
        refine mo_runs (m := mPri P k) (rt := rt) (S := (V, d)) hn (by rw [zFR_87 k2 (by omega)]; exact hRj.2.2.2.2.1.2.1) hR.1 hR.2.2.2.2.2.2.1 (zRefP_R k2 hRj.2.2.1) (zRefM_R k2 hMj) v2 d2 hR.2.2.2.2.2.1 (fun I3 L3 l1 l2 _ _ => ?_)
        have hfk : oBal P (oGs P (mPri P k) rt t n (V, d)).1 = f k := by rw [← hf]; rfl
        rw [hfk]
        have kk := (zFR1_SRt k2).trans (zFR1_SRt l1)
        have kl := (zFRL1_SRt k3).trans (zFRL1_SRt l2)
        have ih := ih (by omega) I3 L3 ((hJ.trans j0).trans kk) (hK.trans kl) (zRl_t kk kl hRj) ⟨_, zRefM_R l1 (zRefM_R k2 hMj)⟩
        rw [oRef_s (by omega)] at ih
        refine zBlkR (M := mX10_best) (nL := 7) (rt := (Option.some .int)) (blk := bX10_best_60) (T := [(76, bX10_best_76), (83, bX10_best_83)]) 1 hX10_best_60 (zChks_cons hX10_best_76 (zChks_cons hX10_best_83 zChks_nil)) rfl rfl rfl (Nat.le_of_ble_eq_true rfl) (Nat.le_of_ble_eq_true rfl) ?_
        simp only [bX10_best_60, bX10_best_76, bX10_best_83, zRun_cons, zRun_nil, zLk, zSto, zIns, zFil, zf0, zf1, zf2, zf3, List.filter_cons, List.filter_nil, Nat.reduceAdd, Nat.reduceEqDiff, Nat.reduceLT, Nat.reduceLeDiff, Nat.reduceBEq, Nat.reduceBNe, reduceIte, if_true, if_false, Bool.false_and, Bool.true_and, Bool.and_true, Bool.and_false, Bool.not_false, Bool.not_true, Bool.false_eq_true, beq_self_eq_true, BEq.rfl, zCat1, zCat2, zCat3, zKdI, zKdL, zKdR, true_and, and_true, zSI, zSL, zSR, zu_at, and_self, and_false, false_and, lv_args, zKdZ, zKdO, zB01, zB11, Option.toList_none, Option.toList_some, List.nil_append, List.cons_append, true_or, or_true, zRow_rd, zu_rd, zo_istore, zo_iload_n, zo_if_lt, zo_iload, zo_icmp_gt, zo_goto, zo_istore_n, zo_iinc, zi_1, zKn_s, zKn_0, zFind, zN10, zN01, not_true_eq_false, not_false_eq_true, false_implies, true_implies, implies_true, eq_self, nI_1, nI_40, nI_7, vz0, vz1, zb1_e0, zb1_n0]
        refine ⟨fun h => ?_, fun h => ⟨fun h2 => ?_, fun h2 => ?_⟩⟩
        · rw [if_pos (Or.inl h)] at ih
          exact zX.sub' ih (by simp)
        · rw [if_pos (Or.inr h2)] at ih
          exact zX.sub' ih (by simp)
        · rw [if_neg (fun q => q.elim h h2)] at ih
          exact zX.sub' ih (by simp)
end ZA75
