/-! ===== THE CLASS: more of a front ===== -/
section ZF65
variable {w : zP} {Q : Option Value → zMem → Prop} {μ : zMem} {I V : Nat → Nat → Int32} {L : Nat → Nat → Int64} {p s : Nat} {r : Option Nat} {B c ch np q0 : Nat} {wm x till : Int32} {d : Int64}
set_option maxRecDepth 20000 in
theorem cl_following (hQ : Q (some (.long (oNext d))) μ) : zXM w mX2_following rX2_following [.long d] μ Q := by
  have key : ∀ x, x = oNext d → Q (some (.long x)) μ := fun x hx => by rw [hx]; exact hQ
  unfold zXM
  obtain ⟨z1, h1⟩ : ∃ z, z = (1103515245 : Int) := ⟨_, rfl⟩
  refine zBlkR (M := mX2_following) (nL := 2) (rt := (Option.some .long)) (blk := bX2_following_0) (T := []) 0 hX2_following_0 zChks_nil rfl rfl rfl (Nat.le_of_ble_eq_true rfl) (Nat.le_of_ble_eq_true rfl) ?_
  rw [show bX2_following_0 = [(.lload_n 0, 1, 0, 0, 0), (.ldc2_w 78, 3, 0, 0, z1), (.lmul, 1, 0, 0, 0), (.ldc2_w 80, 3, 0, 0, 12345), (.ladd, 1, 0, 0, 0), (.ldc2_w 82, 3, 0, 0, 2147483647), (.land, 1, 0, 0, 0), (.lreturn, 1, 0, 0, 0)] from by rw [h1]; rfl]
  simp only [zRun_cons, zRun_nil, zLk, zSto, zIns, zFil, zf0, zf1, zf2, zf3, List.filter_cons, List.filter_nil, Nat.reduceAdd, Nat.reduceEqDiff, Nat.reduceLT, Nat.reduceLeDiff, Nat.reduceBEq, Nat.reduceBNe, reduceIte, if_true, if_false, Bool.false_and, Bool.true_and, Bool.and_true, Bool.and_false, Bool.not_false, Bool.not_true, Bool.false_eq_true, beq_self_eq_true, BEq.rfl, zCat1, zCat2, zCat3, zKdI, zKdL, zKdR, true_and, and_true, zSI, zSL, zSR, zu_at, and_self, and_false, false_and, lv_args, zKdZ, zKdO, zB01, zB11, Option.toList_none, Option.toList_some, List.nil_append, List.cons_append, true_or, or_true, zRow_rd, zu_rd, zo_lload_n, zo_ldc2_w, zo_lmul, zo_ladd, zo_land, zo_lreturn, zL_12345, zL_2147483647, zKn_0, zCat2, zN10, zN01, not_true_eq_false, not_false_eq_true, false_implies, true_implies, implies_true, eq_self, nI_1, nI_40, nI_7, vz0, vz1, zb1_e0, zb1_n0]
  refine key _ ?_
  rw [h1]
  unfold oNext
  rfl
set_option maxRecDepth 20000 in
theorem cl_numberOf (hQ : Q (some (.long (d >>> ((16 : Int32).toInt64 &&& 63)))) μ) : zXM w mX2_numberOf rX2_numberOf [.long d] μ Q := by
  unfold zXM
  refine zBlkR (M := mX2_numberOf) (nL := 2) (rt := (Option.some .long)) (blk := bX2_numberOf_0) (T := []) 0 hX2_numberOf_0 zChks_nil rfl rfl rfl (Nat.le_of_ble_eq_true rfl) (Nat.le_of_ble_eq_true rfl) ?_
  simp only [bX2_numberOf_0, zRun_cons, zRun_nil, zLk, zSto, zIns, zFil, zf0, zf1, zf2, zf3, List.filter_cons, List.filter_nil, Nat.reduceAdd, Nat.reduceEqDiff, Nat.reduceLT, Nat.reduceLeDiff, Nat.reduceBEq, Nat.reduceBNe, reduceIte, if_true, if_false, Bool.false_and, Bool.true_and, Bool.and_true, Bool.and_false, Bool.not_false, Bool.not_true, Bool.false_eq_true, beq_self_eq_true, BEq.rfl, zCat1, zCat2, zCat3, zKdI, zKdL, zKdR, true_and, and_true, zSI, zSL, zSR, zu_at, and_self, and_false, false_and, lv_args, zKdZ, zKdO, zB01, zB11, Option.toList_none, Option.toList_some, List.nil_append, List.cons_append, true_or, or_true, zRow_rd, zu_rd, zo_lload_n, zo_bipush, zo_lshr, zo_lreturn, zb_16, zcl_16, zKn_0, zCat2, zN10, zN01, not_true_eq_false, not_false_eq_true, false_implies, true_implies, implies_true, eq_self, nI_1, nI_40, nI_7, vz0, vz1, zb1_e0, zb1_n0]
  exact hQ
set_option maxRecDepth 20000 in
theorem cl_balance (hB : zBc B) (hF : zFC B I ch V) (hQ : Q (some (.int (V 8 0 - x * V 8 5))) (SH, I, L, RF p s r)) : zXM w mX2_balance rX2_balance [.ref B, .int x] (SH, I, L, RF p s r) Q := by
  unfold zXM
  refine zBlkR (M := mX2_balance) (nL := 2) (rt := (Option.some .int)) (blk := bX2_balance_0) (T := []) 0 hX2_balance_0 zChks_nil rfl rfl rfl (Nat.le_of_ble_eq_true rfl) (Nat.le_of_ble_eq_true rfl) ?_
  simp only [bX2_balance_0, zRun_cons, zRun_nil, zLk, zSto, zIns, zFil, zf0, zf1, zf2, zf3, List.filter_cons, List.filter_nil, Nat.reduceAdd, Nat.reduceEqDiff, Nat.reduceLT, Nat.reduceLeDiff, Nat.reduceBEq, Nat.reduceBNe, reduceIte, if_true, if_false, Bool.false_and, Bool.true_and, Bool.and_true, Bool.and_false, Bool.not_false, Bool.not_true, Bool.false_eq_true, beq_self_eq_true, BEq.rfl, zCat1, zCat2, zCat3, zKdI, zKdL, zKdR, true_and, and_true, zSI, zSL, zSR, zu_at, and_self, and_false, false_and, lv_args, zKdZ, zKdO, zB01, zB11, Option.toList_none, Option.toList_some, List.nil_append, List.cons_append, true_or, or_true, zRow_rd, zu_rd, zo_aload_n, zo_getfield, zo_iconst, zo_iaload, zo_iload_n, zo_imul, zo_isub, zo_ireturn, zi_0, zi_5, zKd_2_7, sh_10, rf_10_7, sh_18, sh_19, rf_19_7, sh_27, sh_28, rf_28_7, sh_36, zcl_0, zcl_5, zvi_0_7, zvi_5_7, zRt, zKn_0, (fsh_0 hB), (fsh_1 hB), (fsh_2 hB), (fsh_3 hB), (fsh_4 hB), (fsh_5 hB), (fsh_6 hB), (fsh_7 hB), (fsh_8 hB), (frf_0 hB), (frf_1 hB), (frf_2 hB), (frf_3 hB), (frf_4 hB), (frf_5 hB), (frf_6 hB), (frf_7 hB), Nat.add_left_cancel_iff, Nat.left_eq_add, Nat.add_eq_left, zvi_0_7, zvi_5_7, hF.v8 (c := 0) (by omega), hF.v8 (c := 5) (by omega), zN10, zN01, not_true_eq_false, not_false_eq_true, false_implies, true_implies, implies_true, eq_self, nI_1, nI_40, nI_7, vz0, vz1, zb1_e0, zb1_n0]
  exact hQ
set_option maxRecDepth 20000 in
/-- a chair that is out is lost; of the other chairs nothing is asked -/
theorem zXM_lose (hB : zBc B) (hc : c < ch) (hch : ch ≤ 40) (hnp : np ≤ 5) (hF : zFC B I ch V) (hq : ∃ q, q < np ∧ V 2 c = nI q) (h1 : V 1 c = 1) (h4 : V 4 c = -1) (h5 : V 5 c = 0) (hQ : ∀ I', zKpt (zFB B) I I' → zFC B I' ch (oLose c V) → Q none (SH, I', L, RF p s r)) : zXM w mX2_lose rX2_lose [.ref B, .int (nI c)] (SH, I, L, RF p s r) Q := by
  unfold zXM
  have hc4 : c < 40 := by omega
  have hv : vp_in (nI c) 40 := zvn (by omega) (by omega)
  obtain ⟨q0, h0, e2⟩ := hq
  have h05 : q0 < 5 := by omega
  have hv0 : vp_in (nI q0) 5 := zvn (by omega) (by omega)
  have hF1 := hF.v1 hc4
  rw [h1] at hF1
  have n12 : ((1 : Int32) = 2) = False := eq_false (by decide)
  refine zBlkR (M := mX2_lose) (nL := 2) (rt := (Option.none : Option Jvm.ClassFile.FieldType)) (blk := bX2_lose_0) (T := []) 0 hX2_lose_0 zChks_nil rfl rfl rfl (Nat.le_of_ble_eq_true rfl) (Nat.le_of_ble_eq_true rfl) ?_
  simp only [bX2_lose_0, zRun_cons, zRun_nil, zLk, zSto, zIns, zFil, zf0, zf1, zf2, zf3, List.filter_cons, List.filter_nil, Nat.reduceAdd, Nat.reduceEqDiff, Nat.reduceLT, Nat.reduceLeDiff, Nat.reduceBEq, Nat.reduceBNe, reduceIte, if_true, if_false, Bool.false_and, Bool.true_and, Bool.and_true, Bool.and_false, Bool.not_false, Bool.not_true, Bool.false_eq_true, beq_self_eq_true, BEq.rfl, zCat1, zCat2, zCat3, zKdI, zKdL, zKdR, true_and, and_true, zSI, zSL, zSR, zu_at, and_self, and_false, false_and, lv_args, zKdZ, zKdO, zB01, zB11, Option.toList_none, Option.toList_some, List.nil_append, List.cons_append, true_or, or_true, zRow_rd, zu_rd, zo_aload_n, zo_iload_n, zKn_0, zN10, zN01, not_true_eq_false, not_false_eq_true, false_implies, true_implies, implies_true, eq_self, nI_1, nI_40, nI_7, vz0, vz1, zb1_e0, zb1_n0]
  refine z_cV0 (M' := mX2_unseat) (R' := rX2_unseat) (i := B) [.int (nI c)] [] eX2_unseat k2_96 (by decide +kernel : decode cX2_lose 2 = .ok (.invokevirtual 96, 3)) (Nat.le_of_ble_eq_true rfl) ⟨Nat.le_of_ble_eq_true rfl, Nat.le_of_ble_eq_true rfl, Nat.le_of_ble_eq_true rfl, Nat.le_of_ble_eq_true rfl, Nat.le_of_ble_eq_true rfl⟩ rfl rfl rfl (fsh_0 hB) ?_
  unfold zXM
  refine zBlkR (M := mX2_unseat) (nL := 2) (rt := (Option.none : Option Jvm.ClassFile.FieldType)) (blk := bX2_unseat_0) (T := [(90, bX2_unseat_90)]) 1 hX2_unseat_0 (zChks_cons hX2_unseat_90 zChks_nil) rfl rfl rfl (Nat.le_of_ble_eq_true rfl) (Nat.le_of_ble_eq_true rfl) ?_
  simp only [bX2_unseat_0, bX2_unseat_90, zRun_cons, zRun_nil, zLk, zSto, zIns, zFil, zf0, zf1, zf2, zf3, List.filter_cons, List.filter_nil, Nat.reduceAdd, Nat.reduceEqDiff, Nat.reduceLT, Nat.reduceLeDiff, Nat.reduceBEq, Nat.reduceBNe, reduceIte, if_true, if_false, Bool.false_and, Bool.true_and, Bool.and_true, Bool.and_false, Bool.not_false, Bool.not_true, Bool.false_eq_true, beq_self_eq_true, BEq.rfl, zCat1, zCat2, zCat3, zKdI, zKdL, zKdR, true_and, and_true, zSI, zSL, zSR, zu_at, and_self, and_false, false_and, lv_args, zKdZ, zKdO, zB01, zB11, Option.toList_none, Option.toList_some, List.nil_append, List.cons_append, true_or, or_true, zRow_rd, zu_rd, zo_aload_n, zo_getfield, zo_iload_n, zo_iaload, zo_iconst, zo_icmp_ne, zo_return_, zi_2, zKd_2_0, zKd_2_1, sh_10, rf_10_0, sh_11, sh_19, rf_19_0, sh_20, sh_28, rf_28_0, sh_29, zcl_2, rf_10_1, sh_12, rf_19_1, sh_21, rf_28_1, sh_30, zvi_2_40, zKn_s, zKn_0, zFind, (fsh_0 hB), (fsh_1 hB), (fsh_2 hB), (fsh_3 hB), (fsh_4 hB), (fsh_5 hB), (fsh_6 hB), (fsh_7 hB), (fsh_8 hB), (frf_0 hB), (frf_1 hB), (frf_2 hB), (frf_3 hB), (frf_4 hB), (frf_5 hB), (frf_6 hB), (frf_7 hB), Nat.add_left_cancel_iff, Nat.left_eq_add, Nat.add_eq_left, hv, hF1, n12, nI_clamp (n := c) (by omega), zN10, zN01, not_true_eq_false, not_false_eq_true, false_implies, true_implies, implies_true, eq_self, nI_1, nI_40, nI_7, vz0, vz1, zb1_e0, zb1_n0]
  refine zBlkR (M := mX2_lose) (nL := 2) (rt := (Option.none : Option Jvm.ClassFile.FieldType)) (blk := bX2_lose_5) (T := [(66, bX2_lose_66)]) 1 hX2_lose_5 (zChks_cons hX2_lose_66 zChks_nil) rfl rfl rfl (Nat.le_of_ble_eq_true rfl) (Nat.le_of_ble_eq_true rfl) ?_
  simp only [bX2_lose_5, bX2_lose_66, zRun_cons, zRun_nil, zLk, zSto, zIns, zFil, zf0, zf1, zf2, zf3, List.filter_cons, List.filter_nil, Nat.reduceAdd, Nat.reduceEqDiff, Nat.reduceLT, Nat.reduceLeDiff, Nat.reduceBEq, Nat.reduceBNe, reduceIte, if_true, if_false, Bool.false_and, Bool.true_and, Bool.and_true, Bool.and_false, Bool.not_false, Bool.not_true, Bool.false_eq_true, beq_self_eq_true, BEq.rfl, zCat1, zCat2, zCat3, zKdI, zKdL, zKdR, true_and, and_true, zSI, zSL, zSR, zu_at, and_self, and_false, false_and, lv_args, zKdZ, zKdO, zB01, zB11, Option.toList_none, Option.toList_some, List.nil_append, List.cons_append, true_or, or_true, zRow_rd, zu_rd, zo_aload_n, zo_getfield, zo_iload_n, zo_iaload, zo_iconst, zo_icmp_ne, zo_return_, zi_1, zKd_2_0, zKd_2_1, sh_10, rf_10_0, sh_11, sh_19, rf_19_0, sh_20, sh_28, rf_28_0, sh_29, zcl_1, rf_10_1, sh_12, rf_19_1, sh_21, rf_28_1, sh_30, zvi_1_40, zKn_s, zKn_0, zFind, (fsh_0 hB), (fsh_1 hB), (fsh_2 hB), (fsh_3 hB), (fsh_4 hB), (fsh_5 hB), (fsh_6 hB), (fsh_7 hB), (fsh_8 hB), (frf_0 hB), (frf_1 hB), (frf_2 hB), (frf_3 hB), (frf_4 hB), (frf_5 hB), (frf_6 hB), (frf_7 hB), Nat.add_left_cancel_iff, Nat.left_eq_add, Nat.add_eq_left, hv, hF1, e2, nI_clamp (n := c) (by omega), hF.v2 hc4, zN10, zN01, not_true_eq_false, not_false_eq_true, false_implies, true_implies, implies_true, eq_self, nI_1, nI_40, nI_7, vz0, vz1, zb1_e0, zb1_n0]
  refine z_cS0 (M' := mX2_isPlace) (R' := rX2_isPlace) [.int (nI q0)] [] eX2_isPlace k2_92 (by decide +kernel : decode cX2_lose 21 = .ok (.invokestatic 92, 3)) (Nat.le_of_ble_eq_true rfl) ⟨Nat.le_of_ble_eq_true rfl, Nat.le_of_ble_eq_true rfl, Nat.le_of_ble_eq_true rfl, Nat.le_of_ble_eq_true rfl, Nat.le_of_ble_eq_true rfl⟩ rfl rfl rfl ?_
  refine cl_isPlace h05 ?_
  refine zBlkR (M := mX2_lose) (nL := 2) (rt := (Option.none : Option Jvm.ClassFile.FieldType)) (blk := bX2_lose_24) (T := [(66, bX2_lose_66)]) 1 hX2_lose_24 (zChks_cons hX2_lose_66 zChks_nil) rfl rfl rfl (Nat.le_of_ble_eq_true rfl) (Nat.le_of_ble_eq_true rfl) ?_
  simp only [bX2_lose_24, bX2_lose_66, zRun_cons, zRun_nil, zLk, zSto, zIns, zFil, zf0, zf1, zf2, zf3, List.filter_cons, List.filter_nil, Nat.reduceAdd, Nat.reduceEqDiff, Nat.reduceLT, Nat.reduceLeDiff, Nat.reduceBEq, Nat.reduceBNe, reduceIte, if_true, if_false, Bool.false_and, Bool.true_and, Bool.and_true, Bool.and_false, Bool.not_false, Bool.not_true, Bool.false_eq_true, beq_self_eq_true, BEq.rfl, zCat1, zCat2, zCat3, zKdI, zKdL, zKdR, true_and, and_true, zSI, zSL, zSR, zu_at, and_self, and_false, false_and, lv_args, zKdZ, zKdO, zB01, zB11, Option.toList_none, Option.toList_some, List.nil_append, List.cons_append, true_or, or_true, zRow_rd, zu_rd, zo_if_eq, zo_aload_n, zo_getfield, zo_iload_n, zo_iaload, zo_dup2, zo_dup2_2, zo_iconst, zo_isub, zo_iastore, zo_iadd, zo_return_, zi_1, zi_3, zi_m1, zi_5, zKd_2_5, zKd_2_1, zKd_2_0, zKd_2_7, sh_10, rf_10_5, sh_16, sh_19, rf_19_5, sh_25, sh_28, rf_28_5, sh_34, rf_10_1, sh_12, rf_19_1, sh_21, rf_28_1, sh_30, zcl_1, rf_10_0, sh_11, rf_19_0, sh_20, rf_28_0, sh_29, zcl_3, rf_10_7, sh_18, rf_19_7, sh_27, rf_28_7, sh_36, zcl_5, zvi_1_5, zvi_1_7, zvi_1_40, zvi_3_5, zvi_3_7, zvi_3_40, zvi_5_7, zvi_5_40, zKn_s, zKn_0, zFind, (fsh_0 hB), (fsh_1 hB), (fsh_2 hB), (fsh_3 hB), (fsh_4 hB), (fsh_5 hB), (fsh_6 hB), (fsh_7 hB), (fsh_8 hB), (frf_0 hB), (frf_1 hB), (frf_2 hB), (frf_3 hB), (frf_4 hB), (frf_5 hB), (frf_6 hB), (frf_7 hB), Nat.add_left_cancel_iff, Nat.left_eq_add, Nat.add_eq_left, hv, hv0, e2, nI_clamp (n := c) (by omega), nI_clamp (n := q0) (by omega), hF.v2 hc4, zN10, zN01, not_true_eq_false, not_false_eq_true, false_implies, true_implies, implies_true, eq_self, nI_1, nI_40, nI_7, vz0, vz1, zb1_e0, zb1_n0]
  have hV' : oLose c V = zu (zu (zu V 1 c 3) 2 c (-1)) 8 5 (V 8 5 + 1) := by
    funext i d
    simp only [zu_at, oLose_at, oOff_at, h1]
    grind
  have g1 : ∀ d, d ≠ c → oLose c V 1 d = V 1 d := fun d hd => by rw [hV']; simp [zu_at, hd]
  have g2 : ∀ d, d ≠ c → oLose c V 2 d = V 2 d := fun d hd => by rw [hV']; simp [zu_at, hd]
  have g3 : oLose c V 1 c = 3 := by rw [hV']; simp [zu_at]
  refine hQ _ ?_ ⟨?_, ?_, fun q hq => ?_, fun q hq => ?_, ?_⟩
  · refine (((zKpt_rfl.u ?_).u ?_).u ?_).u ?_ <;> unfold zFB <;> omega
  · rw [vC_u8 (by omega), vCu2 hc4, vCu1 hc4, vCu6, hF.1, hV', hF.v8 (c := 5) (by omega)]
  · simp [zu_at]; exact hF.2.1
  · simp [zu_at]; exact cnt_dn hF.2.2.1 h05 (mv_out hc h05 h1 e2 g1 g2 (by rw [g3]; decide)) q hq
  · simp [zu_at]; exact cnt_no hF.2.2.2.1 (mv_same hc (by rw [h1]; decide) (by rw [g3]; decide) g1 g2) q hq
  · simp [zu_at]; rw [st_same hc (by rw [h1]; decide) (by rw [g3]; decide) g1]; exact hF.2.2.2.2
set_option maxRecDepth 20000 in
theorem cl_bringAll (hB : zBc B) (hch : ch ≤ 40) (hnp : np ≤ 5) (hF : zFC B I ch V) (hok : oOk ch np wm V) (hQ : ∀ I', zKpt (zFB B) I I' → zFC B I' ch (zIter oStack ch V) → Q none (SH, I', L, RF p s r)) : zXM w mX2_bringAll rX2_bringAll [.ref B] (SH, I, L, RF p s r) Q := by
  unfold zXM
  refine zBlkR (M := mX2_bringAll) (nL := 2) (rt := (Option.none : Option Jvm.ClassFile.FieldType)) (blk := bX2_bringAll_0) (T := []) 0 hX2_bringAll_0 zChks_nil rfl rfl rfl (Nat.le_of_ble_eq_true rfl) (Nat.le_of_ble_eq_true rfl) ?_
  simp only [bX2_bringAll_0, zRun_cons, zRun_nil, zLk, zSto, zIns, zFil, zf0, zf1, zf2, zf3, List.filter_cons, List.filter_nil, Nat.reduceAdd, Nat.reduceEqDiff, Nat.reduceLT, Nat.reduceLeDiff, Nat.reduceBEq, Nat.reduceBNe, reduceIte, if_true, if_false, Bool.false_and, Bool.true_and, Bool.and_true, Bool.and_false, Bool.not_false, Bool.not_true, Bool.false_eq_true, beq_self_eq_true, BEq.rfl, zCat1, zCat2, zCat3, zKdI, zKdL, zKdR, true_and, and_true, zSI, zSL, zSR, zu_at, and_self, and_false, false_and, lv_args, zKdZ, zKdO, zB01, zB11, Option.toList_none, Option.toList_some, List.nil_append, List.cons_append, true_or, or_true, zRow_rd, zu_rd, zo_iconst, zo_istore_n, zi_0, zcl_0, zKn_0, zN10, zN01, not_true_eq_false, not_false_eq_true, false_implies, true_implies, implies_true, eq_self, nI_1, nI_40, nI_7, vz0, vz1, zb1_e0, zb1_n0]
  refine zLoop (n := ch) (P := fun c => ∀ J, zKpt (zFB B) I J → zFC B J ch (zIter oStack c V) → zX w mX2_bringAll rX2_bringAll Q 0 0 2 [(0, Value.ref B), (1, Value.int (nI c))] [] (SH, J, L, RF p s r)) (fun c hc ih => ?_) 0 (Nat.zero_le _) I zKpt_rfl hF
  intro J hJ hFJ
  refine zBlkR (M := mX2_bringAll) (nL := 2) (rt := (Option.none : Option Jvm.ClassFile.FieldType)) (blk := bX2_bringAll_2) (T := [(21, bX2_bringAll_21)]) 1 hX2_bringAll_2 (zChks_cons hX2_bringAll_21 zChks_nil) rfl rfl rfl (Nat.le_of_ble_eq_true rfl) (Nat.le_of_ble_eq_true rfl) ?_
  simp only [bX2_bringAll_2, bX2_bringAll_21, zRun_cons, zRun_nil, zLk, zSto, zIns, zFil, zf0, zf1, zf2, zf3, List.filter_cons, List.filter_nil, Nat.reduceAdd, Nat.reduceEqDiff, Nat.reduceLT, Nat.reduceLeDiff, Nat.reduceBEq, Nat.reduceBNe, reduceIte, if_true, if_false, Bool.false_and, Bool.true_and, Bool.and_true, Bool.and_false, Bool.not_false, Bool.not_true, Bool.false_eq_true, beq_self_eq_true, BEq.rfl, zCat1, zCat2, zCat3, zKdI, zKdL, zKdR, true_and, and_true, zSI, zSL, zSR, zu_at, and_self, and_false, false_and, lv_args, zKdZ, zKdO, zB01, zB11, Option.toList_none, Option.toList_some, List.nil_append, List.cons_append, true_or, or_true, zRow_rd, zu_rd, zo_iload_n, zo_aload_n, zo_getfield, zo_icmp_ge, zo_return_, zKd_2_8, sh_10, sh_19, sh_28, zKn_s, zKn_0, zFind, (fsh_0 hB), (fsh_1 hB), (fsh_2 hB), (fsh_3 hB), (fsh_4 hB), (fsh_5 hB), (fsh_6 hB), (fsh_7 hB), (fsh_8 hB), (frf_0 hB), (frf_1 hB), (frf_2 hB), (frf_3 hB), (frf_4 hB), (frf_5 hB), (frf_6 hB), (frf_7 hB), Nat.add_left_cancel_iff, Nat.left_eq_add, Nat.add_eq_left, hFJ.2.1, zle_nat (a := ch) (b := c) (by omega) (by omega), zN10, zN01, not_true_eq_false, not_false_eq_true, false_implies, true_implies, implies_true, eq_self, nI_1, nI_40, nI_7, vz0, vz1, zb1_e0, zb1_n0]
  refine ⟨fun h => ?_, fun h => ?_⟩
  · have : c = ch := by omega
    subst this
    exact hQ J hJ hFJ
  · refine z_cV0 (M' := mX2_setStacked) (R' := rX2_setStacked) (i := B) [.int (nI c)] [] eX2_setStacked k2_88 (by decide +kernel : decode cX2_bringAll 12 = .ok (.invokevirtual 88, 3)) (Nat.le_of_ble_eq_true rfl) ⟨Nat.le_of_ble_eq_true rfl, Nat.le_of_ble_eq_true rfl, Nat.le_of_ble_eq_true rfl, Nat.le_of_ble_eq_true rfl, Nat.le_of_ble_eq_true rfl⟩ rfl rfl rfl (fsh_0 hB) ?_
    refine cl_setStacked hB (by omega) hch hnp hFJ (zIter_ok (fun _ _ h => oOk_stack h) c V hok) (fun I1 k1 f1 => ?_)
    refine zBlkR (M := mX2_bringAll) (nL := 2) (rt := (Option.none : Option Jvm.ClassFile.FieldType)) (blk := bX2_bringAll_15) (T := []) 0 hX2_bringAll_15 zChks_nil rfl rfl rfl (Nat.le_of_ble_eq_true rfl) (Nat.le_of_ble_eq_true rfl) ?_
    simp only [bX2_bringAll_15, zRun_cons, zRun_nil, zLk, zSto, zIns, zFil, zf0, zf1, zf2, zf3, List.filter_cons, List.filter_nil, Nat.reduceAdd, Nat.reduceEqDiff, Nat.reduceLT, Nat.reduceLeDiff, Nat.reduceBEq, Nat.reduceBNe, reduceIte, if_true, if_false, Bool.false_and, Bool.true_and, Bool.and_true, Bool.and_false, Bool.not_false, Bool.not_true, Bool.false_eq_true, beq_self_eq_true, BEq.rfl, zCat1, zCat2, zCat3, zKdI, zKdL, zKdR, true_and, and_true, zSI, zSL, zSR, zu_at, and_self, and_false, false_and, lv_args, zKdZ, zKdO, zB01, zB11, Option.toList_none, Option.toList_some, List.nil_append, List.cons_append, true_or, or_true, zRow_rd, zu_rd, zo_iinc, zo_goto, zi_1, zKn_0, zN10, zN01, not_true_eq_false, not_false_eq_true, false_implies, true_implies, implies_true, eq_self, nI_1, nI_40, nI_7, vz0, vz1, zb1_e0, zb1_n0]
    exact ih (by omega) I1 (hJ.trans k1) f1
theorem oLoseAt {c : Nat} : (if V 2 c = nI q0 then oLs c V else V) = oTide (fun y => y == nI q0) c V := by
  unfold oLs oTide
  by_cases h1 : V 2 c = nI q0 <;> by_cases h2 : V 1 c = 1 ∨ V 1 c = 2 <;> simp [h1, h2]
set_option maxRecDepth 20000 in
theorem cl_loseAll (hB : zBc B) (hch : ch ≤ 40) (hnp : np ≤ 5) (hF : zFC B I ch V) (hok : oOk ch np wm V) (hQ : ∀ I', zKpt (zFB B) I I' → zFC B I' ch (zIter (oTide (fun y => y == nI q0)) ch V) → Q none (SH, I', L, RF p s r)) : zXM w mX2_loseAll rX2_loseAll [.ref B, .int (nI q0)] (SH, I, L, RF p s r) Q := by
  unfold zXM
  refine zBlkR (M := mX2_loseAll) (nL := 3) (rt := (Option.none : Option Jvm.ClassFile.FieldType)) (blk := bX2_loseAll_0) (T := []) 0 hX2_loseAll_0 zChks_nil rfl rfl rfl (Nat.le_of_ble_eq_true rfl) (Nat.le_of_ble_eq_true rfl) ?_
  simp only [bX2_loseAll_0, zRun_cons, zRun_nil, zLk, zSto, zIns, zFil, zf0, zf1, zf2, zf3, List.filter_cons, List.filter_nil, Nat.reduceAdd, Nat.reduceEqDiff, Nat.reduceLT, Nat.reduceLeDiff, Nat.reduceBEq, Nat.reduceBNe, reduceIte, if_true, if_false, Bool.false_and, Bool.true_and, Bool.and_true, Bool.and_false, Bool.not_false, Bool.not_true, Bool.false_eq_true, beq_self_eq_true, BEq.rfl, zCat1, zCat2, zCat3, zKdI, zKdL, zKdR, true_and, and_true, zSI, zSL, zSR, zu_at, and_self, and_false, false_and, lv_args, zKdZ, zKdO, zB01, zB11, Option.toList_none, Option.toList_some, List.nil_append, List.cons_append, true_or, or_true, zRow_rd, zu_rd, zo_iconst, zo_istore_n, zi_0, zcl_0, zKn_0, zN10, zN01, not_true_eq_false, not_false_eq_true, false_implies, true_implies, implies_true, eq_self, nI_1, nI_40, nI_7, vz0, vz1, zb1_e0, zb1_n0]
  refine zLoop (n := ch) (P := fun c => ∀ J, zKpt (zFB B) I J → zFC B J ch (zIter (oTide (fun y => y == nI q0)) c V) → zX w mX2_loseAll rX2_loseAll Q 0 0 2 [(0, Value.ref B), (1, Value.int (nI q0)), (2, Value.int (nI c))] [] (SH, J, L, RF p s r)) (fun c hc ih => ?_) 0 (Nat.zero_le _) I zKpt_rfl hF
  intro J hJ hFJ
  have hok2 : oOk ch np wm (zIter (oTide (fun y => y == nI q0)) c V) := zIter_lt (N := ch) (fun c a h1 h => oOk_tide (by omega) h) c V hc hok
  generalize hW : zIter (oTide (fun y => y == nI q0)) c V = W at *
  have ihW : zIter (oTide (fun y => y == nI q0)) (c + 1) V = oTide (fun y => y == nI q0) c W := by rw [zIter, hW]
  rw [ihW, ← oLoseAt] at ih
  by_cases hcc : c = ch
  · subst hcc
    refine zBlkR (M := mX2_loseAll) (nL := 3) (rt := (Option.none : Option Jvm.ClassFile.FieldType)) (blk := bX2_loseAll_2) (T := [(25, bX2_loseAll_25), (31, bX2_loseAll_31)]) 1 hX2_loseAll_2 (zChks_cons hX2_loseAll_25 (zChks_cons hX2_loseAll_31 zChks_nil)) rfl rfl rfl (Nat.le_of_ble_eq_true rfl) (Nat.le_of_ble_eq_true rfl) ?_
    simp only [bX2_loseAll_2, bX2_loseAll_25, bX2_loseAll_31, zRun_cons, zRun_nil, zLk, zSto, zIns, zFil, zf0, zf1, zf2, zf3, List.filter_cons, List.filter_nil, Nat.reduceAdd, Nat.reduceEqDiff, Nat.reduceLT, Nat.reduceLeDiff, Nat.reduceBEq, Nat.reduceBNe, reduceIte, if_true, if_false, Bool.false_and, Bool.true_and, Bool.and_true, Bool.and_false, Bool.not_false, Bool.not_true, Bool.false_eq_true, beq_self_eq_true, BEq.rfl, zCat1, zCat2, zCat3, zKdI, zKdL, zKdR, true_and, and_true, zSI, zSL, zSR, zu_at, and_self, and_false, false_and, lv_args, zKdZ, zKdO, zB01, zB11, Option.toList_none, Option.toList_some, List.nil_append, List.cons_append, true_or, or_true, zRow_rd, zu_rd, zo_iload_n, zo_aload_n, zo_getfield, zo_icmp_ge, zo_iaload, zo_icmp_ne, zo_iinc, zo_goto, zo_return_, zi_1, zKd_2_8, zKd_2_1, sh_10, sh_19, sh_28, rf_10_1, sh_12, rf_19_1, sh_21, rf_28_1, sh_30, zKn_s, zKn_0, zFind, (fsh_0 hB), (fsh_1 hB), (fsh_2 hB), (fsh_3 hB), (fsh_4 hB), (fsh_5 hB), (fsh_6 hB), (fsh_7 hB), (fsh_8 hB), (frf_0 hB), (frf_1 hB), (frf_2 hB), (frf_3 hB), (frf_4 hB), (frf_5 hB), (frf_6 hB), (frf_7 hB), Nat.add_left_cancel_iff, Nat.left_eq_add, Nat.add_eq_left, hFJ.2.1, zle_nat (a := c) (b := c) (by omega) (by omega), Nat.le_refl, zN10, zN01, not_true_eq_false, not_false_eq_true, false_implies, true_implies, implies_true, eq_self, nI_1, nI_40, nI_7, vz0, vz1, zb1_e0, zb1_n0]
    exact hQ J hJ (by rw [hW]; exact hFJ)
  have hc4 : c < 40 := by omega
  have hv : vp_in (nI c) 40 := zvn (by omega) (by omega)
  refine zBlkR (M := mX2_loseAll) (nL := 3) (rt := (Option.none : Option Jvm.ClassFile.FieldType)) (blk := bX2_loseAll_2) (T := [(25, bX2_loseAll_25), (31, bX2_loseAll_31)]) 1 hX2_loseAll_2 (zChks_cons hX2_loseAll_25 (zChks_cons hX2_loseAll_31 zChks_nil)) rfl rfl rfl (Nat.le_of_ble_eq_true rfl) (Nat.le_of_ble_eq_true rfl) ?_
  simp only [bX2_loseAll_2, bX2_loseAll_25, bX2_loseAll_31, zRun_cons, zRun_nil, zLk, zSto, zIns, zFil, zf0, zf1, zf2, zf3, List.filter_cons, List.filter_nil, Nat.reduceAdd, Nat.reduceEqDiff, Nat.reduceLT, Nat.reduceLeDiff, Nat.reduceBEq, Nat.reduceBNe, reduceIte, if_true, if_false, Bool.false_and, Bool.true_and, Bool.and_true, Bool.and_false, Bool.not_false, Bool.not_true, Bool.false_eq_true, beq_self_eq_true, BEq.rfl, zCat1, zCat2, zCat3, zKdI, zKdL, zKdR, true_and, and_true, zSI, zSL, zSR, zu_at, and_self, and_false, false_and, lv_args, zKdZ, zKdO, zB01, zB11, Option.toList_none, Option.toList_some, List.nil_append, List.cons_append, true_or, or_true, zRow_rd, zu_rd, zo_iload_n, zo_aload_n, zo_getfield, zo_icmp_ge, zo_iaload, zo_icmp_ne, zo_iinc, zo_goto, zo_return_, zi_1, zKd_2_8, zKd_2_1, sh_10, sh_19, sh_28, rf_10_1, sh_12, rf_19_1, sh_21, rf_28_1, sh_30, zKn_s, zKn_0, zFind, (fsh_0 hB), (fsh_1 hB), (fsh_2 hB), (fsh_3 hB), (fsh_4 hB), (fsh_5 hB), (fsh_6 hB), (fsh_7 hB), (fsh_8 hB), (frf_0 hB), (frf_1 hB), (frf_2 hB), (frf_3 hB), (frf_4 hB), (frf_5 hB), (frf_6 hB), (frf_7 hB), Nat.add_left_cancel_iff, Nat.left_eq_add, Nat.add_eq_left, hv, hFJ.2.1, zle_nat (a := ch) (b := c) (by omega) (by omega), nI_clamp (n := c) (by omega), hFJ.v2 hc4, zN10, zN01, not_true_eq_false, not_false_eq_true, false_implies, true_implies, implies_true, eq_self, nI_1, nI_40, nI_7, vz0, vz1, zb1_e0, zb1_n0]
  refine ⟨fun h => absurd h (by omega), fun h => ⟨fun h1 => ?_, fun h1 => ?_⟩⟩
  · rw [if_neg h1] at ih
    exact ih (by omega) J hJ hFJ
  · refine z_cV0 (M' := mX2_lose) (R' := rX2_lose) (i := B) [.int (nI c)] [] eX2_lose k2_99 (by decide +kernel : decode cX2_loseAll 22 = .ok (.invokevirtual 99, 3)) (Nat.le_of_ble_eq_true rfl) ⟨Nat.le_of_ble_eq_true rfl, Nat.le_of_ble_eq_true rfl, Nat.le_of_ble_eq_true rfl, Nat.le_of_ble_eq_true rfl, Nat.le_of_ble_eq_true rfl⟩ rfl rfl rfl (fsh_0 hB) ?_
    refine cl_lose hB (by omega) hch hnp hFJ hok2 (fun I1 k1 f1 => ?_)
    rw [if_pos h1] at ih
    refine zBlkR (M := mX2_loseAll) (nL := 3) (rt := (Option.none : Option Jvm.ClassFile.FieldType)) (blk := bX2_loseAll_25) (T := []) 0 hX2_loseAll_25 zChks_nil rfl rfl rfl (Nat.le_of_ble_eq_true rfl) (Nat.le_of_ble_eq_true rfl) ?_
    simp only [bX2_loseAll_25, zRun_cons, zRun_nil, zLk, zSto, zIns, zFil, zf0, zf1, zf2, zf3, List.filter_cons, List.filter_nil, Nat.reduceAdd, Nat.reduceEqDiff, Nat.reduceLT, Nat.reduceLeDiff, Nat.reduceBEq, Nat.reduceBNe, reduceIte, if_true, if_false, Bool.false_and, Bool.true_and, Bool.and_true, Bool.and_false, Bool.not_false, Bool.not_true, Bool.false_eq_true, beq_self_eq_true, BEq.rfl, zCat1, zCat2, zCat3, zKdI, zKdL, zKdR, true_and, and_true, zSI, zSL, zSR, zu_at, and_self, and_false, false_and, lv_args, zKdZ, zKdO, zB01, zB11, Option.toList_none, Option.toList_some, List.nil_append, List.cons_append, true_or, or_true, zRow_rd, zu_rd, zo_iinc, zo_goto, zi_1, zKn_0, zN10, zN01, not_true_eq_false, not_false_eq_true, false_implies, true_implies, implies_true, eq_self, nI_1, nI_40, nI_7, vz0, vz1, zb1_e0, zb1_n0]
    exact ih (by omega) I1 (hJ.trans k1) f1
end ZF65
/-! what a tide takes, at one go -/
def oHit1 (hit : Int32 → Bool) (V : Nat → Nat → Int32) (c : Nat) : Bool := (V 1 c == 1 || V 1 c == 2) && hit (V 2 c)
def oHit2 (hit : Int32 → Bool) (V : Nat → Nat → Int32) (c : Nat) : Bool := V 1 c == 2 && V 5 c == 0 && hit (V 2 c)
def oGone (hit : Int32 → Bool) (n : Nat) (V : Nat → Nat → Int32) : Nat → Nat → Int32 := fun i d => if i = 8 then (if d = 3 then V 8 3 + nI (zCnt (oHit2 hit V) n) else if d = 5 then V 8 5 + nI (zCnt (oHit1 hit V) n) else V 8 d) else if d < n ∧ oHit1 hit V d = true then (if i = 1 then 3 else if i = 2 then -1 else if i = 4 then -1 else if i = 5 then 0 else V i d) else V i d
section ZG62
variable {V : Nat → Nat → Int32} {h1 h2 hit : Int32 → Bool} {n c : Nat}
theorem nI_s1 (x : Int32) (a : Nat) : x + nI (a + 1) = x + nI a + 1 := by rw [← nI_1, Int32.add_assoc]
theorem oGone_ok : ∀ n, zIter (oTide hit) n V = oGone hit n V
  | 0 => by
    funext i d
    simp [zIter, oGone, zCnt, nI_0]
    intro h1
    subst h1
    by_cases d3 : d = 3
    · subst d3; simp
    by_cases d5 : d = 5
    · subst d5; simp
    · simp [d3, d5]
  | n + 1 => by
    rw [zIter, oGone_ok n]
    have e1 : oGone hit n V 1 n = V 1 n := by simp [oGone]
    have e2 : oGone hit n V 2 n = V 2 n := by simp [oGone]
    have e5 : oGone hit n V 5 n = V 5 n := by simp [oGone]
    by_cases hh : oHit1 hit V n = true
    · have hc : (oGone hit n V 1 n = 1 ∨ oGone hit n V 1 n = 2) ∧ hit (oGone hit n V 2 n) = true := by
        rw [e1, e2]; simpa [oHit1] using hh
      rw [oTide, if_pos hc]
      funext i d
      rw [oLose_at, oOff_at, e1, e5]
      by_cases h8 : i = 8
      · subst h8
        by_cases d5 : d = 5
        · subst d5
          simp [oGone, zCnt, hh, nI_s1]
        by_cases d3 : d = 3
        · subst d3
          by_cases h25 : V 1 n = 2 ∧ V 5 n = 0
          · have : oHit2 hit V n = true := by
              simp only [oHit1, Bool.and_eq_true] at hh
              simp [oHit2, h25, hh.2]
            simp [oGone, zCnt, this, h25, nI_s1]
          · have : oHit2 hit V n = false := by
              simp only [oHit2, Bool.and_eq_false_iff]
              left
              by_cases g1 : V 1 n = 2
              · right; simp; exact fun g => h25 ⟨g1, g⟩
              · left; simpa using g1
            simp [oGone, zCnt, this]
            exact fun g1 g2 => absurd ⟨g1, g2⟩ h25
        · simp [oGone, d5, d3]
      · by_cases hd : d = n
        · subst hd
          by_cases i1 : i = 1
          · subst i1; simp [oGone, hh]
          by_cases i2 : i = 2
          · subst i2; simp [oGone, hh]
          by_cases i4 : i = 4
          · subst i4; simp [oGone, hh]
          by_cases i5 : i = 5
          · subst i5; simp [oGone, hh]
          · simp [oGone, h8, hh, i1, i2, i4, i5]
        · have hlt : (d < n + 1) = (d < n) := by apply propext; omega
          simp [oGone, h8, hd, hlt]
    · have hh0 : oHit1 hit V n = false := by simpa using hh
      have hc : ¬ ((oGone hit n V 1 n = 1 ∨ oGone hit n V 1 n = 2) ∧ hit (oGone hit n V 2 n) = true) := by
        rw [e1, e2]; simpa [oHit1] using hh
      rw [oTide, if_neg hc]
      have hh2 : oHit2 hit V n = false := by
        cases q : oHit2 hit V n with
        | false => rfl
        | true =>
          simp only [oHit2, Bool.and_eq_true] at q
          simp [oHit1, q.1.1, q.2] at hh0
      funext i d
      by_cases h8 : i = 8
      · subst h8; simp [oGone, zCnt, hh0, hh2]
      · by_cases hd : d = n
        · subst hd; simp [oGone, h8, hh0]
        · have hlt : (d < n + 1) = (d < n) := by apply propext; omega
          simp [oGone, h8, hlt]
theorem zCnt_add {P1 P2 P3 : Nat → Bool} : ∀ {n : Nat}, (∀ c, c < n → (if P3 c = true then 1 else 0) = (if P1 c = true then 1 else 0) + (if P2 c = true then 1 else 0)) → zCnt P3 n = zCnt P1 n + zCnt P2 n
  | 0, _ => rfl
  | n + 1, h => by
    rw [zCnt, zCnt, zCnt, zCnt_add (fun c hc => h c (by omega)), h n (by omega)]
    omega
theorem oGone_two : oGone h2 n (oGone h1 n V) = oGone (fun x => h1 x || h2 x) n V := by
  have k1 : ∀ c, c < n → oHit1 h1 V c = true → oHit1 h2 (oGone h1 n V) c = false ∧ oHit2 h2 (oGone h1 n V) c = false := by
    intro c hc h
    have e1 : oGone h1 n V 1 c = 3 := by simp [oGone, hc, h]
    constructor <;> simp [oHit1, oHit2, e1]
  have k2 : ∀ c, oHit1 h1 V c = false → oHit1 h2 (oGone h1 n V) c = oHit1 h2 V c ∧ oHit2 h2 (oGone h1 n V) c = oHit2 h2 V c := by
    intro c h
    have hn : ∀ i, i ≠ 8 → oGone h1 n V i c = V i c := fun i hi => by simp only [oGone, hi, if_false, h, Bool.false_eq_true, and_false]
    constructor <;> simp only [oHit1, oHit2, hn 1 (by decide), hn 2 (by decide), hn 5 (by decide)]
  have k3 : ∀ c, oHit1 (fun x => h1 x || h2 x) V c = (oHit1 h1 V c || oHit1 h2 V c) := by
    intro c; simp only [oHit1]; cases (V 1 c == 1 || V 1 c == 2) <;> simp
  have k4 : ∀ c, oHit2 (fun x => h1 x || h2 x) V c = (oHit2 h1 V c || oHit2 h2 V c) := by
    intro c; simp only [oHit2]; cases (V 1 c == 2 && V 5 c == 0) <;> simp
  have k5 : ∀ c, oHit2 h1 V c = true → oHit1 h1 V c = true := by
    intro c h
    simp only [oHit2, Bool.and_eq_true] at h
    simp [oHit1, h.1.1, h.2]
  have c1 : zCnt (oHit1 (fun x => h1 x || h2 x) V) n = zCnt (oHit1 h1 V) n + zCnt (oHit1 h2 (oGone h1 n V)) n := by
    refine zCnt_add (fun c hc => ?_)
    rw [k3]
    cases hb : oHit1 h1 V c with
    | true => rw [(k1 c hc hb).1]; simp
    | false => rw [(k2 c hb).1]; simp
  have c2 : zCnt (oHit2 (fun x => h1 x || h2 x) V) n = zCnt (oHit2 h1 V) n + zCnt (oHit2 h2 (oGone h1 n V)) n := by
    refine zCnt_add (fun c hc => ?_)
    rw [k4]
    cases hb : oHit1 h1 V c with
    | true =>
      rw [(k1 c hc hb).2]
      cases hb2 : oHit2 h1 V c with
      | true => simp
      | false =>
        have : oHit2 h2 V c = false := by
          cases q : oHit2 h2 V c with
          | false => rfl
          | true =>
            simp only [oHit2, Bool.and_eq_true] at q
            simp only [oHit1, Bool.and_eq_true] at hb
            simp [oHit2, q.1.1, q.1.2, hb.2] at hb2
        rw [this]; simp
    | false =>
      rw [(k2 c hb).2]
      have : oHit2 h1 V c = false := by
        cases q : oHit2 h1 V c with
        | false => rfl
        | true => rw [k5 c q] at hb; cases hb
      rw [this]; simp
  funext i d
  by_cases h8 : i = 8
  · subst h8
    by_cases d3 : d = 3
    · subst d3
      have : oGone h1 n V 8 3 = V 8 3 + nI (zCnt (oHit2 h1 V) n) := rfl
      show oGone h1 n V 8 3 + nI (zCnt (oHit2 h2 (oGone h1 n V)) n) = V 8 3 + nI (zCnt (oHit2 (fun x => h1 x || h2 x) V) n)
      rw [this, c2, ← nI_add, Int32.add_assoc]
    by_cases d5 : d = 5
    · subst d5
      have : oGone h1 n V 8 5 = V 8 5 + nI (zCnt (oHit1 h1 V) n) := rfl
      show oGone h1 n V 8 5 + nI (zCnt (oHit1 h2 (oGone h1 n V)) n) = V 8 5 + nI (zCnt (oHit1 (fun x => h1 x || h2 x) V) n)
      rw [this, c1, ← nI_add, Int32.add_assoc]
    · simp [oGone, d3, d5]
  · by_cases hd : d < n
    · cases hb : oHit1 h1 V d with
      | true =>
        have := (k1 d hd hb).1
        simp only [oGone, h8, if_false, hd, true_and, k3, hb, Bool.true_or, if_true]
        rw [this]
        simp
      | false =>
        have := (k2 d hb).1
        unfold oGone at this ⊢
        simp only [h8, if_false, hd, true_and, k3, hb, Bool.false_or, this, Bool.false_eq_true]
    · simp [oGone, h8, hd]
theorem oGone_congr (h : ∀ c, c < n → (V 1 c = 1 ∨ V 1 c = 2) → h1 (V 2 c) = h2 (V 2 c)) : oGone h1 n V = oGone h2 n V := by
  have k1 : ∀ c, c < n → oHit1 h1 V c = oHit1 h2 V c := by
    intro c hc
    by_cases g : V 1 c = 1 ∨ V 1 c = 2
    · simp only [oHit1, h c hc g]
    · have : (V 1 c == 1 || V 1 c == 2) = false := by simpa using g
      simp only [oHit1, this, Bool.false_and]
  have k2 : ∀ c, c < n → oHit2 h1 V c = oHit2 h2 V c := by
    intro c hc
    by_cases g : V 1 c = 2
    · simp only [oHit2, h c hc (Or.inr g)]
    · have : (V 1 c == 2) = false := by simpa using g
      simp only [oHit2, this, Bool.false_and]
  have c1 : zCnt (oHit1 h1 V) n = zCnt (oHit1 h2 V) n := zCnt_congr k1
  have c2 : zCnt (oHit2 h1 V) n = zCnt (oHit2 h2 V) n := zCnt_congr k2
  funext i d
  unfold oGone
  by_cases hd : d < n
  · simp only [c1, c2, k1 d hd]
  · simp only [c1, c2, hd, false_and, if_false]
end ZG62
