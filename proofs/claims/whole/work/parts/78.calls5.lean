/-! ===== CALLS: when, tried, chance ===== -/
def oBalW (P : oPn) (m : oTm) (rt : oRt) (t n : Nat) (S : oS) (k : Nat) : Int32 := oBal P (oGsb (nI (t + k)) P m rt t n S).1
def aWhen (P : oPn) (V : Nat → Nat → Int32) (d : Int64) (t : Nat) (rt : oRt) (x wt : Int32) : Int32 := if pRun t x = true ∧ oIn wt 2 = true then (if wt = 0 then nI (t + (oArg (oBalW P (mTold P) rt t x.toNatClampNeg (V, d)) (x.toNatClampNeg + 1)).1) else (oArg (oBalW P (mTold P) rt t x.toNatClampNeg (V, d)) (x.toNatClampNeg + 1)).2) else -2147483648
section ZA78
variable {w : zP} {Q : Option Value → zMem → Prop} {μ : zMem} {I J V V' : Nat → Nat → Int32} {L : Nat → Nat → Int64} {p s B T t kc : Nat} {r : Option Nat} {P : oPn} {m m' : oTm} {c i k q wh ch n np l : Nat} {x y till br wt wm : Int32} {S : oS} {rt rr : oRt} {d : Int64} {z : Nat × (Nat → Nat → Int32) × Nat}
set_option maxRecDepth 20000 in
theorem cl_when (hw : zOk w) (hC : zKl I L p P V d t kc rt) (hQ : ∀ I' L', zKpt SCt I I' → zKpt SCtL L L' → Q (some (.int (aWhen P V d t rt x wt))) (SH, I', L', RF p s r)) : zXM w mX9_when rX9_when [.ref 0, .int x, .int wt] (SH, I, L, RF p s r) Q := by
  unfold zXM
  have h9 := hC.2.2.2.2.2.2.2.1
  have e10 := hC.2.2.2.2.1.2.1
  refine zBlkR (M := mX9_when) (nL := 7) (rt := (Option.some .int)) (blk := bX9_when_0) (T := []) 0 hX9_when_0 zChks_nil rfl rfl rfl (Nat.le_of_ble_eq_true rfl) (Nat.le_of_ble_eq_true rfl) ?_
  simp (implicitDefEqProofs := false) only [bX9_when_0, zRun_cons, zRun_nil, zLk, zSto, zIns, zFil, zf0, zf1, zf2, zf3, List.filter_cons, List.filter_nil, Nat.reduceAdd, Nat.reduceEqDiff, Nat.reduceLT, Nat.reduceLeDiff, Nat.reduceBEq, Nat.reduceBNe, reduceIte, if_true, if_false, Bool.false_and, Bool.true_and, Bool.and_true, Bool.and_false, Bool.not_false, Bool.not_true, Bool.false_eq_true, beq_self_eq_true, BEq.rfl, zCat1, zCat2, zCat3, zKdI, zKdL, zKdR, true_and, and_true, zSI, zSL, zSR, zu_at, and_self, and_false, false_and, lv_args, zKdZ, zKdO, zB01, zB11, Option.toList_none, Option.toList_some, List.nil_append, List.cons_append, true_or, or_true, zRow_rd, zu_rd, zo_aload_n, zo_iload_n, zKn_0, zN10, zN01, not_true_eq_false, not_false_eq_true, false_implies, true_implies, implies_true, eq_self, nI_1, nI_40, nI_7, vz0, vz1, zb1_e0, zb1_n0]
  refine z_cV0 (M' := mX9_hasRun) (R' := rX9_hasRun) (i := 0) [.int x] [] eX9_hasRun k9_217 (by decide +kernel : decode cX9_when 2 = .ok (.invokevirtual 217, 3)) (Nat.le_of_ble_eq_true rfl) ⟨Nat.le_of_ble_eq_true rfl, Nat.le_of_ble_eq_true rfl, Nat.le_of_ble_eq_true rfl, Nat.le_of_ble_eq_true rfl, Nat.le_of_ble_eq_true rfl⟩ rfl rfl rfl sh_0 ?_
  refine cl_hasRun e10 h9 ?_
  unfold aWhen at hQ
  have bad : ¬ (pRun t x = true ∧ oIn wt 2 = true) → Q (some (.int (-2147483648))) (SH, I, L, RF p s r) := by
    intro h
    rw [if_neg h] at hQ
    exact hQ I L zKpt_rfl zKpt_rfl
  cases hr : pRun t x with
  | false =>
    refine zBlkR (M := mX9_when) (nL := 7) (rt := (Option.some .int)) (blk := bX9_when_5) (T := [(17, bX9_when_17), (20, bX9_when_20)]) 1 hX9_when_5 (zChks_cons hX9_when_17 (zChks_cons hX9_when_20 zChks_nil)) rfl rfl rfl (Nat.le_of_ble_eq_true rfl) (Nat.le_of_ble_eq_true rfl) ?_
    simp (implicitDefEqProofs := false) only [bX9_when_5, bX9_when_17, bX9_when_20, zRun_cons, zRun_nil, zLk, zSto, zIns, zFil, zf0, zf1, zf2, zf3, List.filter_cons, List.filter_nil, Nat.reduceAdd, Nat.reduceEqDiff, Nat.reduceLT, Nat.reduceLeDiff, Nat.reduceBEq, Nat.reduceBNe, reduceIte, if_true, if_false, Bool.false_and, Bool.true_and, Bool.and_true, Bool.and_false, Bool.not_false, Bool.not_true, Bool.false_eq_true, beq_self_eq_true, BEq.rfl, zCat1, zCat2, zCat3, zKdI, zKdL, zKdR, true_and, and_true, zSI, zSL, zSR, zu_at, and_self, and_false, false_and, lv_args, zKdZ, zKdO, zB01, zB11, Option.toList_none, Option.toList_some, List.nil_append, List.cons_append, true_or, or_true, zRow_rd, zu_rd, zo_if_eq, zo_iload_n, zo_if_lt, zo_iconst, zo_icmp_le, zo_ldc, zo_ireturn, zo_istore_n, zo_aload_n, zo_getfield, zo_istore, zi_1, zi_m2147483648, zKd_9_4, zKd_2_10, zcl_1, sh_0, rf_0_4, sh_10, sh_19, sh_28, zRt, zKn_s, zKn_0, zFind, zb1_f, zN10, zN01, not_true_eq_false, not_false_eq_true, false_implies, true_implies, implies_true, eq_self, nI_1, nI_40, nI_7, vz0, vz1, zb1_e0, zb1_n0]
    exact bad (by rw [hr]; simp)
  | true =>
    refine zBlkR (M := mX9_when) (nL := 7) (rt := (Option.some .int)) (blk := bX9_when_5) (T := [(17, bX9_when_17), (20, bX9_when_20)]) 1 hX9_when_5 (zChks_cons hX9_when_17 (zChks_cons hX9_when_20 zChks_nil)) rfl rfl rfl (Nat.le_of_ble_eq_true rfl) (Nat.le_of_ble_eq_true rfl) ?_
    simp (implicitDefEqProofs := false) only [bX9_when_5, bX9_when_17, bX9_when_20, zRun_cons, zRun_nil, zLk, zSto, zIns, zFil, zf0, zf1, zf2, zf3, List.filter_cons, List.filter_nil, Nat.reduceAdd, Nat.reduceEqDiff, Nat.reduceLT, Nat.reduceLeDiff, Nat.reduceBEq, Nat.reduceBNe, reduceIte, if_true, if_false, Bool.false_and, Bool.true_and, Bool.and_true, Bool.and_false, Bool.not_false, Bool.not_true, Bool.false_eq_true, beq_self_eq_true, BEq.rfl, zCat1, zCat2, zCat3, zKdI, zKdL, zKdR, true_and, and_true, zSI, zSL, zSR, zu_at, and_self, and_false, false_and, lv_args, zKdZ, zKdO, zB01, zB11, Option.toList_none, Option.toList_some, List.nil_append, List.cons_append, true_or, or_true, zRow_rd, zu_rd, zo_if_eq, zo_iload_n, zo_if_lt, zo_iconst, zo_icmp_le, zo_ldc, zo_ireturn, zo_istore_n, zo_aload_n, zo_getfield, zo_istore, zi_1, zi_m2147483648, zKd_9_4, zKd_2_10, zcl_1, sh_0, rf_0_4, sh_10, sh_19, sh_28, zRt, zKn_s, zKn_0, zFind, zb1_t, e10, zN10, zN01, not_true_eq_false, not_false_eq_true, false_implies, true_implies, implies_true, eq_self, nI_1, nI_40, nI_7, vz0, vz1, zb1_e0, zb1_n0]
    refine ⟨fun h => bad (by rw [oIn2.mp (Or.inl h)]; simp), fun h => ⟨fun h2 => ?_, fun h2 => bad (by rw [oIn2.mp (Or.inr h2)]; simp)⟩⟩
    have hin : oIn wt 2 = true := by
      cases hi : oIn wt 2 with
      | true => rfl
      | false => exact absurd (oIn2.mpr hi) (fun q => q.elim h (fun g => g h2))
    rw [if_pos ⟨hr, hin⟩] at hQ
    obtain ⟨n, e, hn⟩ := pRun_t hr h9
    subst e
    rw [nI_clamp (by omega)] at hQ
    generalize hf : oBalW P (mTold P) rt t n (V, d) = f at hQ
    refine zLoop (n := n + 1) (P := fun k => ∀ J K, zKpt SCt I J → zKpt SCtL L K → zX w mX9_when rX9_when Q 0 0 41 [(0, Value.ref 0), (1, Value.int (nI n)), (2, Value.int wt), (3, Value.int (oArg f k).2), (4, Value.int (nI (t + (oArg f k).1))), (5, Value.int (nI (t + k)))] [] (SH, J, K, RF p s r)) (fun k hk ih => ?_) 0 (Nat.zero_le _) I L zKpt_rfl zKpt_rfl
    intro J K hJ hK
    have hCJ := zKl_t hJ hK hC
    have j10 := hCJ.2.2.2.2.1.2.1
    by_cases hke : k = n + 1
    · have hx : (nI (t + n) < nI (t + k)) = True := eq_true (by rw [zlt_nat (by omega) (by omega)]; omega)
      rw [← hke] at hQ
      refine zBlkR (M := mX9_when) (nL := 7) (rt := (Option.some .int)) (blk := bX9_when_41) (T := [(94, bX9_when_94), (103, bX9_when_103), (104, bX9_when_104)]) 2 hX9_when_41 (zChks_cons hX9_when_94 (zChks_cons hX9_when_103 (zChks_cons hX9_when_104 zChks_nil))) rfl rfl rfl (Nat.le_of_ble_eq_true rfl) (Nat.le_of_ble_eq_true rfl) ?_
      simp (implicitDefEqProofs := false) only [bX9_when_41, bX9_when_94, bX9_when_103, bX9_when_104, zRun_cons, zRun_nil, zLk, zSto, zIns, zFil, zf0, zf1, zf2, zf3, List.filter_cons, List.filter_nil, Nat.reduceAdd, Nat.reduceEqDiff, Nat.reduceLT, Nat.reduceLeDiff, Nat.reduceBEq, Nat.reduceBNe, reduceIte, if_true, if_false, Bool.false_and, Bool.true_and, Bool.and_true, Bool.and_false, Bool.not_false, Bool.not_true, Bool.false_eq_true, beq_self_eq_true, BEq.rfl, zCat1, zCat2, zCat3, zKdI, zKdL, zKdR, true_and, and_true, zSI, zSL, zSR, zu_at, and_self, and_false, false_and, lv_args, zKdZ, zKdO, zB01, zB11, Option.toList_none, Option.toList_some, List.nil_append, List.cons_append, true_or, or_true, zRow_rd, zu_rd, zo_iload, zo_aload_n, zo_getfield, zo_iload_n, zo_iadd, zo_icmp_gt, zo_if_ne, zo_goto, zo_ireturn, zKd_9_4, zKd_2_10, sh_0, rf_0_4, sh_10, sh_19, sh_28, zRt, zKn_s, zKn_0, zFind, j10, nI_add, hx, zN10, zN01, not_true_eq_false, not_false_eq_true, false_implies, true_implies, implies_true, eq_self, nI_1, nI_40, nI_7, vz0, vz1, zb1_e0, zb1_n0]
      refine ⟨fun h => ?_, fun h => ?_⟩
      · have hQ := hQ J K hJ hK; rw [if_neg h] at hQ; exact hQ
      · have hQ := hQ J K hJ hK; rw [if_pos h] at hQ; exact hQ
    · have hx : (nI (t + n) < nI (t + k)) = False := eq_false (by rw [zlt_nat (by omega) (by omega)]; omega)
      refine zBlkR (M := mX9_when) (nL := 7) (rt := (Option.some .int)) (blk := bX9_when_41) (T := [(94, bX9_when_94), (103, bX9_when_103), (104, bX9_when_104)]) 2 hX9_when_41 (zChks_cons hX9_when_94 (zChks_cons hX9_when_103 (zChks_cons hX9_when_104 zChks_nil))) rfl rfl rfl (Nat.le_of_ble_eq_true rfl) (Nat.le_of_ble_eq_true rfl) ?_
      simp (implicitDefEqProofs := false) only [bX9_when_41, bX9_when_94, bX9_when_103, bX9_when_104, zRun_cons, zRun_nil, zLk, zSto, zIns, zFil, zf0, zf1, zf2, zf3, List.filter_cons, List.filter_nil, Nat.reduceAdd, Nat.reduceEqDiff, Nat.reduceLT, Nat.reduceLeDiff, Nat.reduceBEq, Nat.reduceBNe, reduceIte, if_true, if_false, Bool.false_and, Bool.true_and, Bool.and_true, Bool.and_false, Bool.not_false, Bool.not_true, Bool.false_eq_true, beq_self_eq_true, BEq.rfl, zCat1, zCat2, zCat3, zKdI, zKdL, zKdR, true_and, and_true, zSI, zSL, zSR, zu_at, and_self, and_false, false_and, lv_args, zKdZ, zKdO, zB01, zB11, Option.toList_none, Option.toList_some, List.nil_append, List.cons_append, true_or, or_true, zRow_rd, zu_rd, zo_iload, zo_aload_n, zo_getfield, zo_iload_n, zo_iadd, zo_icmp_gt, zo_if_ne, zo_goto, zo_ireturn, zKd_9_4, zKd_2_10, sh_0, rf_0_4, sh_10, sh_19, sh_28, zRt, zKn_s, zKn_0, zFind, j10, nI_add, hx, zN10, zN01, not_true_eq_false, not_false_eq_true, false_implies, true_implies, implies_true, eq_self, nI_1, nI_40, nI_7, vz0, vz1, zb1_e0, zb1_n0]
      refine z_cV0 (M' := mX9_prepare) (R' := rX9_prepare) (i := 0) [] [] eX9_prepare k9_233 (by decide +kernel : decode cX9_when 56 = .ok (.invokevirtual 233, 3)) (Nat.le_of_ble_eq_true rfl) ⟨Nat.le_of_ble_eq_true rfl, Nat.le_of_ble_eq_true rfl, Nat.le_of_ble_eq_true rfl, Nat.le_of_ble_eq_true rfl, Nat.le_of_ble_eq_true rfl⟩ rfl rfl rfl sh_0 ?_
      refine cl_prepare hCJ (fun I1 L1 k1 k2 hT => ?_)
      refine zBlkR (M := mX9_when) (nL := 7) (rt := (Option.some .int)) (blk := bX9_when_59) (T := []) 0 hX9_when_59 zChks_nil rfl rfl rfl (Nat.le_of_ble_eq_true rfl) (Nat.le_of_ble_eq_true rfl) ?_
      simp (implicitDefEqProofs := false) only [bX9_when_59, zRun_cons, zRun_nil, zLk, zSto, zIns, zFil, zf0, zf1, zf2, zf3, List.filter_cons, List.filter_nil, Nat.reduceAdd, Nat.reduceEqDiff, Nat.reduceLT, Nat.reduceLeDiff, Nat.reduceBEq, Nat.reduceBNe, reduceIte, if_true, if_false, Bool.false_and, Bool.true_and, Bool.and_true, Bool.and_false, Bool.not_false, Bool.not_true, Bool.false_eq_true, beq_self_eq_true, BEq.rfl, zCat1, zCat2, zCat3, zKdI, zKdL, zKdR, true_and, and_true, zSI, zSL, zSR, zu_at, and_self, and_false, false_and, lv_args, zKdZ, zKdO, zB01, zB11, Option.toList_none, Option.toList_some, List.nil_append, List.cons_append, true_or, or_true, zRow_rd, zu_rd, zo_aload_n, zo_getfield, zo_iload, zo_putfield, zo_putfield_2, zo_putfield_3, zo_iload_n, zKd_9_3, zKd_6_2, zTy_6_2, sh_0, rf_0_3, sh_9, sh_8, zPutC, zKn_0, zN10, zN01, not_true_eq_false, not_false_eq_true, false_implies, true_implies, implies_true, eq_self, nI_1, nI_40, nI_7, vz0, vz1, zb1_e0, zb1_n0]
      have hT2 : zTr (zu I1 9 2 (nI (t + k))) L1 p P (mTold P) V d t rt (nI (t + k)) := by
        have hM := hT.1.2.2.2.2.2.1
        refine zTr_m hT (fun i j hi => by rw [zu_at, if_neg (fun g => hi g.1)]) ?_ (by rw [zu_at, if_pos ⟨rfl, rfl⟩])
        unfold zClsM at hM ⊢
        simp [zu_at] at hM ⊢
        exact hM
      refine z_cV0 (M' := mX9_balanceAfter) (R' := rX9_balanceAfter) (i := 0) [.int (nI n)] [] eX9_balanceAfter k9_236 (by decide +kernel : decode cX9_when 70 = .ok (.invokevirtual 236, 3)) (Nat.le_of_ble_eq_true rfl) ⟨Nat.le_of_ble_eq_true rfl, Nat.le_of_ble_eq_true rfl, Nat.le_of_ble_eq_true rfl, Nat.le_of_ble_eq_true rfl, Nat.le_of_ble_eq_true rfl⟩ rfl rfl rfl sh_0 ?_
      refine cl_balanceAfter hw hT2 hn (fun I2 L2 k3 k4 => ?_)
      have hfk : oBal P (oGsb (nI (t + k)) P (mTold P) rt t n (V, d)).1 = f k := by rw [← hf]; rfl
      rw [hfk]
      have ih := ih (by omega) I2 L2 ((hJ.trans (k1.u (by unfold SCt; omega))).trans k3) ((hK.trans k2).trans k4)
      rw [oArg] at ih
      refine zBlkR (M := mX9_when) (nL := 7) (rt := (Option.some .int)) (blk := bX9_when_73) (T := [(88, bX9_when_88)]) 1 hX9_when_73 (zChks_cons hX9_when_88 zChks_nil) rfl rfl rfl (Nat.le_of_ble_eq_true rfl) (Nat.le_of_ble_eq_true rfl) ?_
      simp (implicitDefEqProofs := false) only [bX9_when_73, bX9_when_88, zRun_cons, zRun_nil, zLk, zSto, zIns, zFil, zf0, zf1, zf2, zf3, List.filter_cons, List.filter_nil, Nat.reduceAdd, Nat.reduceEqDiff, Nat.reduceLT, Nat.reduceLeDiff, Nat.reduceBEq, Nat.reduceBNe, reduceIte, if_true, if_false, Bool.false_and, Bool.true_and, Bool.and_true, Bool.and_false, Bool.not_false, Bool.not_true, Bool.false_eq_true, beq_self_eq_true, BEq.rfl, zCat1, zCat2, zCat3, zKdI, zKdL, zKdR, true_and, and_true, zSI, zSL, zSR, zu_at, and_self, and_false, false_and, lv_args, zKdZ, zKdO, zB01, zB11, Option.toList_none, Option.toList_some, List.nil_append, List.cons_append, true_or, or_true, zRow_rd, zu_rd, zo_istore, zo_iload, zo_iload_n, zo_icmp_le, zo_istore_n, zo_iinc, zo_goto, zi_1, zKn_s, zKn_0, zFind, zN10, zN01, not_true_eq_false, not_false_eq_true, false_implies, true_implies, implies_true, eq_self, nI_1, nI_40, nI_7, vz0, vz1, zb1_e0, zb1_n0]
      refine ⟨fun h => ?_, fun h => ?_⟩
      · rw [if_neg (Int32.not_lt.mpr h)] at ih
        exact zX.sub' ih (by simp [Nat.add_assoc])
      · rw [if_pos (Int32.not_le.mp h)] at ih
        exact zX.sub' ih (by simp [Nat.add_assoc])
set_option maxRecDepth 20000 in
theorem mo_bringAll (hch : ch ≤ 40) (hI : I 102 1 = nI ch) (hV : vR 1 I = V) (hQ : ∀ I', zKpt (zFR 1) I I' → vR 1 I' = zIter oStack ch V → Q none (SH, I', L, RF p s r)) : zXM w mX10_bringAll rX10_bringAll [.ref 87] (SH, I, L, RF p s r) Q := by
  unfold zXM
  refine zBlkR (M := mX10_bringAll) (nL := 2) (rt := (Option.none : Option Jvm.ClassFile.FieldType)) (blk := bX10_bringAll_0) (T := []) 0 hX10_bringAll_0 zChks_nil rfl rfl rfl (Nat.le_of_ble_eq_true rfl) (Nat.le_of_ble_eq_true rfl) ?_
  simp (implicitDefEqProofs := false) only [bX10_bringAll_0, zRun_cons, zRun_nil, zLk, zSto, zIns, zFil, zf0, zf1, zf2, zf3, List.filter_cons, List.filter_nil, Nat.reduceAdd, Nat.reduceEqDiff, Nat.reduceLT, Nat.reduceLeDiff, Nat.reduceBEq, Nat.reduceBNe, reduceIte, if_true, if_false, Bool.false_and, Bool.true_and, Bool.and_true, Bool.and_false, Bool.not_false, Bool.not_true, Bool.false_eq_true, beq_self_eq_true, BEq.rfl, zCat1, zCat2, zCat3, zKdI, zKdL, zKdR, true_and, and_true, zSI, zSL, zSR, zu_at, and_self, and_false, false_and, lv_args, zKdZ, zKdO, zB01, zB11, Option.toList_none, Option.toList_some, List.nil_append, List.cons_append, true_or, or_true, zRow_rd, zu_rd, zo_bipush, zo_istore_n, zb_40, zcl_40, zKn_0, zN10, zN01, not_true_eq_false, not_false_eq_true, false_implies, true_implies, implies_true, eq_self, nI_1, nI_40, nI_7, vz0, vz1, zb1_e0, zb1_n0]
  refine zLoop (n := ch) (P := fun c => ∀ J, zKpt (zFR 1) I J → vR 1 J = zIter oStack c V → zX w mX10_bringAll rX10_bringAll Q 0 0 3 [(0, Value.ref 87), (1, Value.int (nI (40 + c)))] [] (SH, J, L, RF p s r)) (fun c hc ih => ?_) 0 (Nat.zero_le _) I zKpt_rfl hV
  intro J hJ hVJ
  have e102 : J 102 1 = nI ch := by rw [zFR_row hJ (by omega), hI]
  have x1 : (40 : Int32) + nI ch = nI (40 + ch) := by rw [show (40 : Int32) = nI 40 from rfl, nI_add]
  by_cases hcc : c = ch
  · subst hcc
    refine zBlkR (M := mX10_bringAll) (nL := 2) (rt := (Option.none : Option Jvm.ClassFile.FieldType)) (blk := bX10_bringAll_3) (T := [(29, bX10_bringAll_29), (43, bX10_bringAll_43), (49, bX10_bringAll_49)]) 1 hX10_bringAll_3 (zChks_cons hX10_bringAll_29 (zChks_cons hX10_bringAll_43 (zChks_cons hX10_bringAll_49 zChks_nil))) rfl rfl rfl (Nat.le_of_ble_eq_true rfl) (Nat.le_of_ble_eq_true rfl) ?_
    simp (implicitDefEqProofs := false) only [bX10_bringAll_3, bX10_bringAll_29, bX10_bringAll_43, bX10_bringAll_49, zRun_cons, zRun_nil, zLk, zSto, zIns, zFil, zf0, zf1, zf2, zf3, List.filter_cons, List.filter_nil, Nat.reduceAdd, Nat.reduceEqDiff, Nat.reduceLT, Nat.reduceLeDiff, Nat.reduceBEq, Nat.reduceBNe, reduceIte, if_true, if_false, Bool.false_and, Bool.true_and, Bool.and_true, Bool.and_false, Bool.not_false, Bool.not_true, Bool.false_eq_true, beq_self_eq_true, BEq.rfl, zCat1, zCat2, zCat3, zKdI, zKdL, zKdR, true_and, and_true, zSI, zSL, zSR, zu_at, and_self, and_false, false_and, lv_args, zKdZ, zKdO, zB01, zB11, Option.toList_none, Option.toList_some, List.nil_append, List.cons_append, true_or, or_true, zRow_rd, zu_rd, zo_iload_n, zo_bipush, zo_aload_n, zo_getfield, zo_iconst, zo_iaload, zo_iadd, zo_icmp_ge, zo_icmp_eq, zo_goto, zo_iastore, zo_iinc, zo_return_, zb_40, zi_1, zi_0, zi_m1, zKd_10_36, zKd_10_57, zKd_10_58, zcl_40, sh_87, rf_87_36, sh_102, zcl_1, rf_87_57, sh_114, zcl_0, rf_87_58, sh_115, zvi_40_80, zvi_1_32, zvi_1_80, zvi_0_32, zvi_0_80, zKn_s, zKn_0, zFind, e102, x1, zle_nat (a := 40 + c) (b := 40 + c) (by omega) (by omega), Nat.le_refl, zN10, zN01, not_true_eq_false, not_false_eq_true, false_implies, true_implies, implies_true, eq_self, nI_1, nI_40, nI_7, vz0, vz1, zb1_e0, zb1_n0]
    exact hQ J hJ hVJ
  have hx : (nI (40 + ch) ≤ nI (40 + c)) = False := eq_false (by rw [zle_nat (by omega) (by omega)]; omega)
  have hc4 : c < 40 := by omega
  have hv : vp_in (nI (40 + c)) 80 := zvn (by omega) (by omega)
  have ih := ih (by omega)
  have ihU : zIter oStack (c + 1) V = oStack c (zIter oStack c V) := rfl
  rw [ihU] at ih
  generalize zIter oStack c V = U at *
  have e1 : J 114 (40 + c) = U 1 c := by rw [← hVJ, vR_1 hc4]
  refine zBlkR (M := mX10_bringAll) (nL := 2) (rt := (Option.none : Option Jvm.ClassFile.FieldType)) (blk := bX10_bringAll_3) (T := [(29, bX10_bringAll_29), (43, bX10_bringAll_43), (49, bX10_bringAll_49)]) 1 hX10_bringAll_3 (zChks_cons hX10_bringAll_29 (zChks_cons hX10_bringAll_43 (zChks_cons hX10_bringAll_49 zChks_nil))) rfl rfl rfl (Nat.le_of_ble_eq_true rfl) (Nat.le_of_ble_eq_true rfl) ?_
  simp (implicitDefEqProofs := false) only [bX10_bringAll_3, bX10_bringAll_29, bX10_bringAll_43, bX10_bringAll_49, zRun_cons, zRun_nil, zLk, zSto, zIns, zFil, zf0, zf1, zf2, zf3, List.filter_cons, List.filter_nil, Nat.reduceAdd, Nat.reduceEqDiff, Nat.reduceLT, Nat.reduceLeDiff, Nat.reduceBEq, Nat.reduceBNe, reduceIte, if_true, if_false, Bool.false_and, Bool.true_and, Bool.and_true, Bool.and_false, Bool.not_false, Bool.not_true, Bool.false_eq_true, beq_self_eq_true, BEq.rfl, zCat1, zCat2, zCat3, zKdI, zKdL, zKdR, true_and, and_true, zSI, zSL, zSR, zu_at, and_self, and_false, false_and, lv_args, zKdZ, zKdO, zB01, zB11, Option.toList_none, Option.toList_some, List.nil_append, List.cons_append, true_or, or_true, zRow_rd, zu_rd, zo_iload_n, zo_bipush, zo_aload_n, zo_getfield, zo_iconst, zo_iaload, zo_iadd, zo_icmp_ge, zo_icmp_eq, zo_goto, zo_iastore, zo_iinc, zo_return_, zb_40, zi_1, zi_0, zi_m1, zKd_10_36, zKd_10_57, zKd_10_58, zcl_40, sh_87, rf_87_36, sh_102, zcl_1, rf_87_57, sh_114, zcl_0, rf_87_58, sh_115, zvi_40_80, zvi_1_32, zvi_1_80, zvi_0_32, zvi_0_80, zKn_s, zKn_0, zFind, e102, x1, hx, hv, e1, nI_clamp (n := 40 + c) (by omega), zN10, zN01, not_true_eq_false, not_false_eq_true, false_implies, true_implies, implies_true, eq_self, nI_1, nI_40, nI_7, vz0, vz1, zb1_e0, zb1_n0]
  refine ⟨fun h => ?_, fun h => ?_⟩
  · have u2 := vR_u2 (b := 1) (I := zu J 114 (40 + c) 0) (c := c) (x := -1) hc4
    have u1 := vR_u1 (b := 1) (I := J) (c := c) (x := 0) hc4
    rw [Nat.mul_one] at u1 u2
    refine ih _ ((hJ.u (by unfold zFR; omega)).u (by unfold zFR; omega)) ?_
    rw [u2, u1, hVJ, oStack, if_pos h]
  · refine ih J hJ ?_
    rw [hVJ, oStack, if_neg h]
theorem oOk_Gsb {t0 n : Nat} (hch : pCh P ≤ 40) (h : oOk (pCh P) (pNp P) (pR P 102 8) S.1) : oOk (pCh P) (pNp P) (pR P 102 8) (oGsb br P m rt t0 n S).1 := zIter_ok (P := fun S : oS => oOk (pCh P) (pNp P) (pR P 102 8) S.1) (fun _ _ h => oOk_G hch (oOk_Gb hch h)) n S h
set_option maxRecDepth 20000 in
theorem mo_when (hR : zRl I L P V d t kc rt) (hQ : ∀ I' L', zKpt SRt I I' → zKpt SRtL L L' → Q (some (.int (aWhen P V d t rt x wt))) (SH, I', L', RF p s r)) : zXM w mX10_when rX10_when [.ref 87, .int x, .int wt] (SH, I, L, RF p s r) Q := by
  unfold zXM
  refine zBlkR (M := mX10_when) (nL := 8) (rt := (Option.some .int)) (blk := bX10_when_0) (T := []) 0 hX10_when_0 zChks_nil rfl rfl rfl (Nat.le_of_ble_eq_true rfl) (Nat.le_of_ble_eq_true rfl) ?_
  simp (implicitDefEqProofs := false) only [bX10_when_0, zRun_cons, zRun_nil, zLk, zSto, zIns, zFil, zf0, zf1, zf2, zf3, List.filter_cons, List.filter_nil, Nat.reduceAdd, Nat.reduceEqDiff, Nat.reduceLT, Nat.reduceLeDiff, Nat.reduceBEq, Nat.reduceBNe, reduceIte, if_true, if_false, Bool.false_and, Bool.true_and, Bool.and_true, Bool.and_false, Bool.not_false, Bool.not_true, Bool.false_eq_true, beq_self_eq_true, BEq.rfl, zCat1, zCat2, zCat3, zKdI, zKdL, zKdR, true_and, and_true, zSI, zSL, zSR, zu_at, and_self, and_false, false_and, lv_args, zKdZ, zKdO, zB01, zB11, Option.toList_none, Option.toList_some, List.nil_append, List.cons_append, true_or, or_true, zRow_rd, zu_rd, zo_aload_n, zo_iconst, zo_putfield, zo_putfield_2, zo_putfield_3, zo_iload_n, zi_0, zKd_10_2, zTy_10_2, zcl_0, sh_87, zPutC, zKn_0, zN10, zN01, not_true_eq_false, not_false_eq_true, false_implies, true_implies, implies_true, eq_self, nI_1, nI_40, nI_7, vz0, vz1, zb1_e0, zb1_n0]
  have h0 : zKpt SRt I (zu I 87 2 0) := zKpt_rfl.u (by unfold SRt; omega)
  have hR := zRl_t h0 zKpt_rfl hR
  have h9 := hR.2.2.2.2.2.2.2.1
  have hch := hR.1.1
  have hpa : ∀ c, c < 40 → V 5 c = 0 ∨ V 5 c = 1 := fun c hc => oOk_pa hR.2.2.2.2.2.1 hc
  generalize zu I 87 2 0 = I0 at *
  refine z_cV0 (M' := mX10_isRun) (R' := rX10_isRun) (i := 87) [.int x] [] eX10_isRun k10_530 (by decide +kernel : decode cX10_when 7 = .ok (.invokevirtual 530, 3)) (Nat.le_of_ble_eq_true rfl) ⟨Nat.le_of_ble_eq_true rfl, Nat.le_of_ble_eq_true rfl, Nat.le_of_ble_eq_true rfl, Nat.le_of_ble_eq_true rfl, Nat.le_of_ble_eq_true rfl⟩ rfl rfl rfl sh_87 ?_
  refine mo_isRun hR.2.2.2.2.1.2.1 h9 ?_
  unfold aWhen at hQ
  have bad : ¬ (pRun t x = true ∧ oIn wt 2 = true) → Q (some (.int (-2147483648))) (SH, I0, L, RF p s r) := by
    intro h
    rw [if_neg h] at hQ
    exact hQ I0 L h0 zKpt_rfl
  cases hr : pRun t x with
  | false =>
    refine zBlkR (M := mX10_when) (nL := 8) (rt := (Option.some .int)) (blk := bX10_when_10) (T := [(22, bX10_when_22)]) 1 hX10_when_10 (zChks_cons hX10_when_22 zChks_nil) rfl rfl rfl (Nat.le_of_ble_eq_true rfl) (Nat.le_of_ble_eq_true rfl) ?_
    simp (implicitDefEqProofs := false) only [bX10_when_10, bX10_when_22, zRun_cons, zRun_nil, zLk, zSto, zIns, zFil, zf0, zf1, zf2, zf3, List.filter_cons, List.filter_nil, Nat.reduceAdd, Nat.reduceEqDiff, Nat.reduceLT, Nat.reduceLeDiff, Nat.reduceBEq, Nat.reduceBNe, reduceIte, if_true, if_false, Bool.false_and, Bool.true_and, Bool.and_true, Bool.and_false, Bool.not_false, Bool.not_true, Bool.false_eq_true, beq_self_eq_true, BEq.rfl, zCat1, zCat2, zCat3, zKdI, zKdL, zKdR, true_and, and_true, zSI, zSL, zSR, zu_at, and_self, and_false, false_and, lv_args, zKdZ, zKdO, zB01, zB11, Option.toList_none, Option.toList_some, List.nil_append, List.cons_append, true_or, or_true, zRow_rd, zu_rd, zo_if_eq, zo_iload_n, zo_iconst, zo_ldc_w, zo_ireturn, zi_0, zi_1, zi_m2147483648, zcl_0, zcl_1, zRt, zKn_s, zKn_0, zFind, zb1_f, zN10, zN01, not_true_eq_false, not_false_eq_true, false_implies, true_implies, implies_true, eq_self, nI_1, nI_40, nI_7, vz0, vz1, zb1_e0, zb1_n0]
    exact bad (by rw [hr]; simp)
  | true =>
    refine zBlkR (M := mX10_when) (nL := 8) (rt := (Option.some .int)) (blk := bX10_when_10) (T := [(22, bX10_when_22)]) 1 hX10_when_10 (zChks_cons hX10_when_22 zChks_nil) rfl rfl rfl (Nat.le_of_ble_eq_true rfl) (Nat.le_of_ble_eq_true rfl) ?_
    simp (implicitDefEqProofs := false) only [bX10_when_10, bX10_when_22, zRun_cons, zRun_nil, zLk, zSto, zIns, zFil, zf0, zf1, zf2, zf3, List.filter_cons, List.filter_nil, Nat.reduceAdd, Nat.reduceEqDiff, Nat.reduceLT, Nat.reduceLeDiff, Nat.reduceBEq, Nat.reduceBNe, reduceIte, if_true, if_false, Bool.false_and, Bool.true_and, Bool.and_true, Bool.and_false, Bool.not_false, Bool.not_true, Bool.false_eq_true, beq_self_eq_true, BEq.rfl, zCat1, zCat2, zCat3, zKdI, zKdL, zKdR, true_and, and_true, zSI, zSL, zSR, zu_at, and_self, and_false, false_and, lv_args, zKdZ, zKdO, zB01, zB11, Option.toList_none, Option.toList_some, List.nil_append, List.cons_append, true_or, or_true, zRow_rd, zu_rd, zo_if_eq, zo_iload_n, zo_iconst, zo_ldc_w, zo_ireturn, zi_0, zi_1, zi_m2147483648, zcl_0, zcl_1, zRt, zKn_s, zKn_0, zFind, zb1_t, zN10, zN01, not_true_eq_false, not_false_eq_true, false_implies, true_implies, implies_true, eq_self, nI_1, nI_40, nI_7, vz0, vz1, zb1_e0, zb1_n0]
    refine z_cS0 (M' := mX10_isIn) (R' := rX10_isIn) [.int wt, .int 0, .int 1] [] eX10_isIn k10_223 (by decide +kernel : decode cX10_when 16 = .ok (.invokestatic 223, 3)) (Nat.le_of_ble_eq_true rfl) ⟨Nat.le_of_ble_eq_true rfl, Nat.le_of_ble_eq_true rfl, Nat.le_of_ble_eq_true rfl, Nat.le_of_ble_eq_true rfl, Nat.le_of_ble_eq_true rfl⟩ rfl rfl rfl ?_
    refine mo_isIn ?_
    rw [show (1 : Int32) = nI 1 from rfl, oIn_isIn (by omega)]
    cases hin : oIn wt (1 + 1) with
    | false =>
      refine zBlkR (M := mX10_when) (nL := 8) (rt := (Option.some .int)) (blk := bX10_when_19) (T := [(26, bX10_when_26)]) 1 hX10_when_19 (zChks_cons hX10_when_26 zChks_nil) rfl rfl rfl (Nat.le_of_ble_eq_true rfl) (Nat.le_of_ble_eq_true rfl) ?_
      simp (implicitDefEqProofs := false) only [bX10_when_19, bX10_when_26, zRun_cons, zRun_nil, zLk, zSto, zIns, zFil, zf0, zf1, zf2, zf3, List.filter_cons, List.filter_nil, Nat.reduceAdd, Nat.reduceEqDiff, Nat.reduceLT, Nat.reduceLeDiff, Nat.reduceBEq, Nat.reduceBNe, reduceIte, if_true, if_false, Bool.false_and, Bool.true_and, Bool.and_true, Bool.and_false, Bool.not_false, Bool.not_true, Bool.false_eq_true, beq_self_eq_true, BEq.rfl, zCat1, zCat2, zCat3, zKdI, zKdL, zKdR, true_and, and_true, zSI, zSL, zSR, zu_at, and_self, and_false, false_and, lv_args, zKdZ, zKdO, zB01, zB11, Option.toList_none, Option.toList_some, List.nil_append, List.cons_append, true_or, or_true, zRow_rd, zu_rd, zo_if_ne, zo_ldc_w, zo_ireturn, zo_aload_n, zi_m2147483648, zRt, zKn_s, zKn_0, zFind, zb1_f, zN10, zN01, not_true_eq_false, not_false_eq_true, false_implies, true_implies, implies_true, eq_self, nI_1, nI_40, nI_7, vz0, vz1, zb1_e0, zb1_n0]
      exact bad (by rw [show oIn wt 2 = false from hin]; simp)
    | true =>
      rw [if_pos ⟨hr, hin⟩] at hQ
      obtain ⟨n, e, hn⟩ := pRun_t hr h9
      subst e
      rw [nI_clamp (by omega)] at hQ
      generalize hf : oBalW P (mTold P) rt t n (V, d) = f at hQ
      refine zBlkR (M := mX10_when) (nL := 8) (rt := (Option.some .int)) (blk := bX10_when_19) (T := [(26, bX10_when_26)]) 1 hX10_when_19 (zChks_cons hX10_when_26 zChks_nil) rfl rfl rfl (Nat.le_of_ble_eq_true rfl) (Nat.le_of_ble_eq_true rfl) ?_
      simp (implicitDefEqProofs := false) only [bX10_when_19, bX10_when_26, zRun_cons, zRun_nil, zLk, zSto, zIns, zFil, zf0, zf1, zf2, zf3, List.filter_cons, List.filter_nil, Nat.reduceAdd, Nat.reduceEqDiff, Nat.reduceLT, Nat.reduceLeDiff, Nat.reduceBEq, Nat.reduceBNe, reduceIte, if_true, if_false, Bool.false_and, Bool.true_and, Bool.and_true, Bool.and_false, Bool.not_false, Bool.not_true, Bool.false_eq_true, beq_self_eq_true, BEq.rfl, zCat1, zCat2, zCat3, zKdI, zKdL, zKdR, true_and, and_true, zSI, zSL, zSR, zu_at, and_self, and_false, false_and, lv_args, zKdZ, zKdO, zB01, zB11, Option.toList_none, Option.toList_some, List.nil_append, List.cons_append, true_or, or_true, zRow_rd, zu_rd, zo_if_ne, zo_ldc_w, zo_ireturn, zo_aload_n, zi_m2147483648, zRt, zKn_s, zKn_0, zFind, zb1_t, zN10, zN01, not_true_eq_false, not_false_eq_true, false_implies, true_implies, implies_true, eq_self, nI_1, nI_40, nI_7, vz0, vz1, zb1_e0, zb1_n0]
      refine z_cV0 (M' := mX10_plainRun) (R' := rX10_plainRun) (i := 87) [] [] eX10_plainRun k10_513 (by decide +kernel : decode cX10_when 27 = .ok (.invokevirtual 513, 3)) (Nat.le_of_ble_eq_true rfl) ⟨Nat.le_of_ble_eq_true rfl, Nat.le_of_ble_eq_true rfl, Nat.le_of_ble_eq_true rfl, Nat.le_of_ble_eq_true rfl, Nat.le_of_ble_eq_true rfl⟩ rfl rfl rfl sh_87 ?_
      refine mo_plainRun hR (fun I1 k1 hM => ?_)
      have hR1 := zRl_t k1 zKpt_rfl hR
      have e55 := hR1.2.2.2.2.1.2.1
      refine zBlkR (M := mX10_when) (nL := 8) (rt := (Option.some .int)) (blk := bX10_when_30) (T := []) 0 hX10_when_30 zChks_nil rfl rfl rfl (Nat.le_of_ble_eq_true rfl) (Nat.le_of_ble_eq_true rfl) ?_
      simp (implicitDefEqProofs := false) only [bX10_when_30, zRun_cons, zRun_nil, zLk, zSto, zIns, zFil, zf0, zf1, zf2, zf3, List.filter_cons, List.filter_nil, Nat.reduceAdd, Nat.reduceEqDiff, Nat.reduceLT, Nat.reduceLeDiff, Nat.reduceBEq, Nat.reduceBNe, reduceIte, if_true, if_false, Bool.false_and, Bool.true_and, Bool.and_true, Bool.and_false, Bool.not_false, Bool.not_true, Bool.false_eq_true, beq_self_eq_true, BEq.rfl, zCat1, zCat2, zCat3, zKdI, zKdL, zKdR, true_and, and_true, zSI, zSL, zSR, zu_at, and_self, and_false, false_and, lv_args, zKdZ, zKdO, zB01, zB11, Option.toList_none, Option.toList_some, List.nil_append, List.cons_append, true_or, or_true, zRow_rd, zu_rd, zo_aload_n, zo_getfield, zo_iload_n, zo_iadd, zo_istore_n, zo_iconst, zo_istore, zi_m1, zi_0, zKd_10_55, sh_87, zcl_0, zKn_0, e55, nI_add, zN10, zN01, not_true_eq_false, not_false_eq_true, false_implies, true_implies, implies_true, eq_self, nI_1, nI_40, nI_7, vz0, vz1, zb1_e0, zb1_n0]
      refine zLoop (n := n + 1) (P := fun k => ∀ J K, zKpt SRt I J → zKpt SRtL L K → zRl J K P V d t kc rt → zRefM J (mTold P) rt → zX w mX10_when rX10_when Q 0 0 49 [(0, Value.ref 87), (1, Value.int (nI n)), (2, Value.int wt), (3, Value.int (nI (t + n))), (4, Value.int (if k = 0 then -1 else nI (t + (oArg f k).1))), (5, Value.int (oRef f k).2), (6, Value.int (nI (t + k)))] [] (SH, J, K, RF p s r)) (fun k hk ih => ?_) 0 (Nat.zero_le _) I1 L (h0.trans k1) zKpt_rfl hR1 hM
      intro J K hJ hK hRJ hMJ
      by_cases hke : k = n + 1
      · have hx : (nI (t + n) < nI (t + k)) = True := eq_true (by rw [zlt_nat (by omega) (by omega)]; omega)
        have e2 : (oRef f k).2 = (oArg f k).2 := by rw [oRef, if_neg (by omega)]
        have e1 : (if k = 0 then (-1 : Int32) else nI (t + (oArg f k).1)) = nI (t + (oArg f k).1) := if_neg (by omega)
        rw [← hke] at hQ
        rw [e1]
        refine zBlkR (M := mX10_when) (nL := 8) (rt := (Option.some .int)) (blk := bX10_when_49) (T := [(131, bX10_when_131), (140, bX10_when_140), (142, bX10_when_142)]) 2 hX10_when_49 (zChks_cons hX10_when_131 (zChks_cons hX10_when_140 (zChks_cons hX10_when_142 zChks_nil))) rfl rfl rfl (Nat.le_of_ble_eq_true rfl) (Nat.le_of_ble_eq_true rfl) ?_
        simp (implicitDefEqProofs := false) only [bX10_when_49, bX10_when_131, bX10_when_140, bX10_when_142, zRun_cons, zRun_nil, zLk, zSto, zIns, zFil, zf0, zf1, zf2, zf3, List.filter_cons, List.filter_nil, Nat.reduceAdd, Nat.reduceEqDiff, Nat.reduceLT, Nat.reduceLeDiff, Nat.reduceBEq, Nat.reduceBNe, reduceIte, if_true, if_false, Bool.false_and, Bool.true_and, Bool.and_true, Bool.and_false, Bool.not_false, Bool.not_true, Bool.false_eq_true, beq_self_eq_true, BEq.rfl, zCat1, zCat2, zCat3, zKdI, zKdL, zKdR, true_and, and_true, zSI, zSL, zSR, zu_at, and_self, and_false, false_and, lv_args, zKdZ, zKdO, zB01, zB11, Option.toList_none, Option.toList_some, List.nil_append, List.cons_append, true_or, or_true, zRow_rd, zu_rd, zo_iload, zo_iload_n, zo_icmp_gt, zo_aload_n, zo_if_ne, zo_goto, zo_ireturn, zRt, zKn_s, zKn_0, zFind, hx, e2, zN10, zN01, not_true_eq_false, not_false_eq_true, false_implies, true_implies, implies_true, eq_self, nI_1, nI_40, nI_7, vz0, vz1, zb1_e0, zb1_n0]
        refine ⟨fun h => ?_, fun h => ?_⟩
        · have hQ := hQ J K hJ hK; rw [if_neg h] at hQ; exact hQ
        · have hQ := hQ J K hJ hK; rw [if_pos h] at hQ; exact hQ
      · have hx : (nI (t + n) < nI (t + k)) = False := eq_false (by rw [zlt_nat (by omega) (by omega)]; omega)
        have ih := ih (by omega)
        generalize hbi : (if k = 0 then (-1 : Int32) else nI (t + (oArg f k).1)) = bi
        have hbs : (bi < 0) = (k = 0) := by
          rw [← hbi]
          by_cases h0 : k = 0
          · rw [if_pos h0]; simp [h0]
          · rw [if_neg h0]
            have := oArg_lt (f := f) k
            exact propext ⟨fun g => absurd g (nI_nn (by omega)), fun g => absurd g h0⟩
        refine zBlkR (M := mX10_when) (nL := 8) (rt := (Option.some .int)) (blk := bX10_when_49) (T := [(131, bX10_when_131), (140, bX10_when_140), (142, bX10_when_142)]) 2 hX10_when_49 (zChks_cons hX10_when_131 (zChks_cons hX10_when_140 (zChks_cons hX10_when_142 zChks_nil))) rfl rfl rfl (Nat.le_of_ble_eq_true rfl) (Nat.le_of_ble_eq_true rfl) ?_
        simp (implicitDefEqProofs := false) only [bX10_when_49, bX10_when_131, bX10_when_140, bX10_when_142, zRun_cons, zRun_nil, zLk, zSto, zIns, zFil, zf0, zf1, zf2, zf3, List.filter_cons, List.filter_nil, Nat.reduceAdd, Nat.reduceEqDiff, Nat.reduceLT, Nat.reduceLeDiff, Nat.reduceBEq, Nat.reduceBNe, reduceIte, if_true, if_false, Bool.false_and, Bool.true_and, Bool.and_true, Bool.and_false, Bool.not_false, Bool.not_true, Bool.false_eq_true, beq_self_eq_true, BEq.rfl, zCat1, zCat2, zCat3, zKdI, zKdL, zKdR, true_and, and_true, zSI, zSL, zSR, zu_at, and_self, and_false, false_and, lv_args, zKdZ, zKdO, zB01, zB11, Option.toList_none, Option.toList_some, List.nil_append, List.cons_append, true_or, or_true, zRow_rd, zu_rd, zo_iload, zo_iload_n, zo_icmp_gt, zo_aload_n, zo_if_ne, zo_goto, zo_ireturn, zRt, zKn_s, zKn_0, zFind, hx, zN10, zN01, not_true_eq_false, not_false_eq_true, false_implies, true_implies, implies_true, eq_self, nI_1, nI_40, nI_7, vz0, vz1, zb1_e0, zb1_n0]
        refine z_cV0 (M' := mX10_layRun) (R' := rX10_layRun) (i := 87) [] [] eX10_layRun k10_534 (by decide +kernel : decode cX10_when 56 = .ok (.invokevirtual 534, 3)) (Nat.le_of_ble_eq_true rfl) ⟨Nat.le_of_ble_eq_true rfl, Nat.le_of_ble_eq_true rfl, Nat.le_of_ble_eq_true rfl, Nat.le_of_ble_eq_true rfl, Nat.le_of_ble_eq_true rfl⟩ rfl rfl rfl sh_87 ?_
        refine mo_layRun hRJ.2.2.2.2.1.1 hRJ.2.2.2.2.1.2.2.2.2.2.2 hpa (fun I2 L2 k2 k3 v2 d2 => ?_)
        have hRJ2 := zRl_t (zFR1_SRt k2) (zFRL1_SRt k3) hRJ
        have f55 := hRJ2.2.2.2.2.1.2.1
        refine zBlkR (M := mX10_when) (nL := 8) (rt := (Option.some .int)) (blk := bX10_when_59) (T := []) 0 hX10_when_59 zChks_nil rfl rfl rfl (Nat.le_of_ble_eq_true rfl) (Nat.le_of_ble_eq_true rfl) ?_
        simp (implicitDefEqProofs := false) only [bX10_when_59, zRun_cons, zRun_nil, zLk, zSto, zIns, zFil, zf0, zf1, zf2, zf3, List.filter_cons, List.filter_nil, Nat.reduceAdd, Nat.reduceEqDiff, Nat.reduceLT, Nat.reduceLeDiff, Nat.reduceBEq, Nat.reduceBNe, reduceIte, if_true, if_false, Bool.false_and, Bool.true_and, Bool.and_true, Bool.and_false, Bool.not_false, Bool.not_true, Bool.false_eq_true, beq_self_eq_true, BEq.rfl, zCat1, zCat2, zCat3, zKdI, zKdL, zKdR, true_and, and_true, zSI, zSL, zSR, zu_at, and_self, and_false, false_and, lv_args, zKdZ, zKdO, zB01, zB11, Option.toList_none, Option.toList_some, List.nil_append, List.cons_append, true_or, or_true, zRow_rd, zu_rd, zo_aload_n, zo_getfield, zo_istore, zKd_10_55, sh_87, zKn_0, f55, zN10, zN01, not_true_eq_false, not_false_eq_true, false_implies, true_implies, implies_true, eq_self, nI_1, nI_40, nI_7, vz0, vz1, zb1_e0, zb1_n0]
        refine zLoop (n := n) (P := fun j => ∀ J3 K3, zKpt (zFR 1) I2 J3 → zKpt (zFRL 1) L2 K3 → vR 1 J3 = (oGsb (nI (t + k)) P (mTold P) rt t j (V, d)).1 → K3 120 1 = (oGsb (nI (t + k)) P (mTold P) rt t j (V, d)).2 → zX w mX10_when rX10_when Q 0 0 65 [(0, Value.ref 87), (1, Value.int (nI n)), (2, Value.int wt), (3, Value.int (nI (t + n))), (4, Value.int bi), (5, Value.int (oRef f k).2), (6, Value.int (nI (t + k))), (7, Value.int (nI (t + j)))] [] (SH, J3, K3, RF p s r)) (fun j hj ih3 => ?_) 0 (Nat.zero_le _) I2 L2 zKpt_rfl zKpt_rfl v2 d2
        intro J3 K3 k4 k5 v3 d3
        have hRJ3 := zRl_t (zFR1_SRt k4) (zFRL1_SRt k5) hRJ2
        have hM3 := zRefM_R k4 (zRefM_R k2 hMJ)
        by_cases hjn : j = n
        · have hx : (nI (t + n) ≤ nI (t + j)) = True := eq_true (by rw [zle_nat (by omega) (by omega)]; omega)
          refine zBlkR (M := mX10_when) (nL := 8) (rt := (Option.some .int)) (blk := bX10_when_65) (T := [(82, bX10_when_82), (95, bX10_when_95)]) 1 hX10_when_65 (zChks_cons hX10_when_82 (zChks_cons hX10_when_95 zChks_nil)) rfl rfl rfl (Nat.le_of_ble_eq_true rfl) (Nat.le_of_ble_eq_true rfl) ?_
          simp (implicitDefEqProofs := false) only [bX10_when_65, bX10_when_82, bX10_when_95, zRun_cons, zRun_nil, zLk, zSto, zIns, zFil, zf0, zf1, zf2, zf3, List.filter_cons, List.filter_nil, Nat.reduceAdd, Nat.reduceEqDiff, Nat.reduceLT, Nat.reduceLeDiff, Nat.reduceBEq, Nat.reduceBNe, reduceIte, if_true, if_false, Bool.false_and, Bool.true_and, Bool.and_true, Bool.and_false, Bool.not_false, Bool.not_true, Bool.false_eq_true, beq_self_eq_true, BEq.rfl, zCat1, zCat2, zCat3, zKdI, zKdL, zKdR, true_and, and_true, zSI, zSL, zSR, zu_at, and_self, and_false, false_and, lv_args, zKdZ, zKdO, zB01, zB11, Option.toList_none, Option.toList_some, List.nil_append, List.cons_append, true_or, or_true, zRow_rd, zu_rd, zo_iload, zo_iload_n, zo_icmp_ge, zo_icmp_ne, zo_aload_n, zo_iconst, zi_1, zcl_1, zKn_s, zKn_0, zFind, hx, zN10, zN01, not_true_eq_false, not_false_eq_true, false_implies, true_implies, implies_true, eq_self, nI_1, nI_40, nI_7, vz0, vz1, zb1_e0, zb1_n0]
          refine z_cV0 (M' := mX10_balanceOf) (R' := rX10_balanceOf) (i := 87) [.int 1] [] eX10_balanceOf k10_501 (by decide +kernel : decode cX10_when 97 = .ok (.invokevirtual 501, 3)) (Nat.le_of_ble_eq_true rfl) ⟨Nat.le_of_ble_eq_true rfl, Nat.le_of_ble_eq_true rfl, Nat.le_of_ble_eq_true rfl, Nat.le_of_ble_eq_true rfl, Nat.le_of_ble_eq_true rfl⟩ rfl rfl rfl sh_87 ?_
          refine mo_balanceOf (b := 1) (by omega) hRJ3.2.2.1 v3 ?_
          have hfk : oBal P (oGsb (nI (t + k)) P (mTold P) rt t j (V, d)).1 = f k := by rw [← hf, hjn]; rfl
          rw [hfk]
          have kk := (zFR1_SRt k2).trans (zFR1_SRt k4)
          have kl := (zFRL1_SRt k3).trans (zFRL1_SRt k5)
          have ih := ih J3 K3 (hJ.trans kk) (hK.trans kl) (zRl_t kk kl hRJ) hM3
          rw [if_neg (by omega)] at ih
          have e2 : (oRef f (k + 1)).2 = (oArg f (k + 1)).2 := by rw [oRef, if_neg (by omega)]
          rw [e2] at ih
          have hfin : (k = 0 ∨ (oRef f k).2 < f k) → oArg f (k + 1) = (k, f k) := by
            intro g
            rcases g with g | g
            · subst g; exact oArg_1
            · by_cases h0 : k = 0
              · subst h0; exact oArg_1
              · rw [oRef, if_neg h0] at g
                rw [oArg, if_pos g]
          refine zBlkR (M := mX10_when) (nL := 8) (rt := (Option.some .int)) (blk := bX10_when_100) (T := [(117, bX10_when_117), (125, bX10_when_125)]) 1 hX10_when_100 (zChks_cons hX10_when_117 (zChks_cons hX10_when_125 zChks_nil)) rfl rfl rfl (Nat.le_of_ble_eq_true rfl) (Nat.le_of_ble_eq_true rfl) ?_
          simp (implicitDefEqProofs := false) only [bX10_when_100, bX10_when_117, bX10_when_125, zRun_cons, zRun_nil, zLk, zSto, zIns, zFil, zf0, zf1, zf2, zf3, List.filter_cons, List.filter_nil, Nat.reduceAdd, Nat.reduceEqDiff, Nat.reduceLT, Nat.reduceLeDiff, Nat.reduceBEq, Nat.reduceBNe, reduceIte, if_true, if_false, Bool.false_and, Bool.true_and, Bool.and_true, Bool.and_false, Bool.not_false, Bool.not_true, Bool.false_eq_true, beq_self_eq_true, BEq.rfl, zCat1, zCat2, zCat3, zKdI, zKdL, zKdR, true_and, and_true, zSI, zSL, zSR, zu_at, and_self, and_false, false_and, lv_args, zKdZ, zKdO, zB01, zB11, Option.toList_none, Option.toList_some, List.nil_append, List.cons_append, true_or, or_true, zRow_rd, zu_rd, zo_istore, zo_iload, zo_if_lt, zo_icmp_gt, zo_goto, zo_iinc, zi_1, zKn_s, zKn_0, zFind, hbs, zN10, zN01, not_true_eq_false, not_false_eq_true, false_implies, true_implies, implies_true, eq_self, nI_1, nI_40, nI_7, vz0, vz1, zb1_e0, zb1_n0]
          refine ⟨fun h => ?_, fun h => ⟨fun h2 => ?_, fun h2 => ?_⟩⟩
          · rw [hfin (Or.inl h)] at ih
            exact zX.sub' ih (by simp [Nat.add_assoc])
          · rw [hfin (Or.inr h2)] at ih
            exact zX.sub' ih (by simp [Nat.add_assoc])
          · have e3 : (oRef f k).2 = (oArg f k).2 := by rw [oRef, if_neg h]
            rw [e3] at h2
            rw [oArg, if_neg h2, ← e3] at ih
            rw [if_neg h] at hbi
            rw [hbi] at ih
            exact zX.sub' ih (by simp [Nat.add_assoc])
        have hx : (nI (t + n) ≤ nI (t + j)) = False := eq_false (by rw [zle_nat (by omega) (by omega)]; omega)
        have ih3 := ih3 (by omega)
        have ihU : oGsb (nI (t + k)) P (mTold P) rt t (j + 1) (V, d) = oGb (nI (t + k)) P (mTold P) rt (t + j) (oGsb (nI (t + k)) P (mTold P) rt t j (V, d)) := rfl
        rw [ihU] at ih3
        have hokj : oOk (pCh P) (pNp P) (pR P 102 8) (oGsb (nI (t + k)) P (mTold P) rt t j (V, d)).1 := oOk_Gsb hch hR.2.2.2.2.2.1
        generalize oGsb (nI (t + k)) P (mTold P) rt t j (V, d) = U at *
        unfold oGb at ih3
        have step : ∀ J4 U', zKpt (zFR 1) J3 J4 → vR 1 J4 = U'.1 → K3 120 1 = U'.2 → oOk (pCh P) (pNp P) (pR P 102 8) U'.1 → (if nI (t + k) = nI (t + j) then (zIter oStack (pCh P) U.1, U.2) else U) = U' → zX w mX10_when rX10_when Q 0 0 82 [(0, Value.ref 87), (1, Value.int (nI n)), (2, Value.int wt), (3, Value.int (nI (t + n))), (4, Value.int bi), (5, Value.int (oRef f k).2), (6, Value.int (nI (t + k))), (7, Value.int (nI (t + j)))] [] (SH, J4, K3, RF p s r) := by
          intro J4 U' k6 v4 d4 ok4 hU'
          rw [hU'] at ih3
          refine zBlkR (M := mX10_when) (nL := 8) (rt := (Option.some .int)) (blk := bX10_when_82) (T := []) 0 hX10_when_82 zChks_nil rfl rfl rfl (Nat.le_of_ble_eq_true rfl) (Nat.le_of_ble_eq_true rfl) ?_
          simp (implicitDefEqProofs := false) only [bX10_when_82, zRun_cons, zRun_nil, zLk, zSto, zIns, zFil, zf0, zf1, zf2, zf3, List.filter_cons, List.filter_nil, Nat.reduceAdd, Nat.reduceEqDiff, Nat.reduceLT, Nat.reduceLeDiff, Nat.reduceBEq, Nat.reduceBNe, reduceIte, if_true, if_false, Bool.false_and, Bool.true_and, Bool.and_true, Bool.and_false, Bool.not_false, Bool.not_true, Bool.false_eq_true, beq_self_eq_true, BEq.rfl, zCat1, zCat2, zCat3, zKdI, zKdL, zKdR, true_and, and_true, zSI, zSL, zSR, zu_at, and_self, and_false, false_and, lv_args, zKdZ, zKdO, zB01, zB11, Option.toList_none, Option.toList_some, List.nil_append, List.cons_append, true_or, or_true, zRow_rd, zu_rd, zo_aload_n, zo_iconst, zo_iload, zi_1, zcl_1, zKn_0, zN10, zN01, not_true_eq_false, not_false_eq_true, false_implies, true_implies, implies_true, eq_self, nI_1, nI_40, nI_7, vz0, vz1, zb1_e0, zb1_n0]
          refine z_cV0 (M' := mX10_step) (R' := rX10_step) (i := 87) [.int 1, .int (nI (t + j))] [] eX10_step k10_498 (by decide +kernel : decode cX10_when 86 = .ok (.invokevirtual 498, 3)) (Nat.le_of_ble_eq_true rfl) ⟨Nat.le_of_ble_eq_true rfl, Nat.le_of_ble_eq_true rfl, Nat.le_of_ble_eq_true rfl, Nat.le_of_ble_eq_true rfl, Nat.le_of_ble_eq_true rfl⟩ rfl rfl rfl sh_87 ?_
          refine mo_step (b := 1) (S := U') (by omega) (by omega) hR.1 (ROk_mono hR.2.2.2.2.2.2.1 (by omega)) (zRefP_R k6 hRJ3.2.2.1) (zRefM_R k6 hM3) v4 d4 ok4 (fun I5 L5 l1 l2 l3 l4 => ?_)
          refine zBlkR (M := mX10_when) (nL := 8) (rt := (Option.some .int)) (blk := bX10_when_89) (T := []) 0 hX10_when_89 zChks_nil rfl rfl rfl (Nat.le_of_ble_eq_true rfl) (Nat.le_of_ble_eq_true rfl) ?_
          simp (implicitDefEqProofs := false) only [bX10_when_89, zRun_cons, zRun_nil, zLk, zSto, zIns, zFil, zf0, zf1, zf2, zf3, List.filter_cons, List.filter_nil, Nat.reduceAdd, Nat.reduceEqDiff, Nat.reduceLT, Nat.reduceLeDiff, Nat.reduceBEq, Nat.reduceBNe, reduceIte, if_true, if_false, Bool.false_and, Bool.true_and, Bool.and_true, Bool.and_false, Bool.not_false, Bool.not_true, Bool.false_eq_true, beq_self_eq_true, BEq.rfl, zCat1, zCat2, zCat3, zKdI, zKdL, zKdR, true_and, and_true, zSI, zSL, zSR, zu_at, and_self, and_false, false_and, lv_args, zKdZ, zKdO, zB01, zB11, Option.toList_none, Option.toList_some, List.nil_append, List.cons_append, true_or, or_true, zRow_rd, zu_rd, zo_iinc, zo_goto, zi_1, zKn_0, zN10, zN01, not_true_eq_false, not_false_eq_true, false_implies, true_implies, implies_true, eq_self, nI_1, nI_40, nI_7, vz0, vz1, zb1_e0, zb1_n0]
          exact zX.sub' (ih3 I5 L5 ((k4.trans k6).trans l1) (k5.trans l2) l3 l4) (by simp [Nat.add_assoc])
        refine zBlkR (M := mX10_when) (nL := 8) (rt := (Option.some .int)) (blk := bX10_when_65) (T := [(95, bX10_when_95)]) 1 hX10_when_65 (zChks_cons hX10_when_95 zChks_nil) rfl rfl rfl (Nat.le_of_ble_eq_true rfl) (Nat.le_of_ble_eq_true rfl) ?_
        simp (implicitDefEqProofs := false) only [bX10_when_65, bX10_when_95, zRun_cons, zRun_nil, zLk, zSto, zIns, zFil, zf0, zf1, zf2, zf3, List.filter_cons, List.filter_nil, Nat.reduceAdd, Nat.reduceEqDiff, Nat.reduceLT, Nat.reduceLeDiff, Nat.reduceBEq, Nat.reduceBNe, reduceIte, if_true, if_false, Bool.false_and, Bool.true_and, Bool.and_true, Bool.and_false, Bool.not_false, Bool.not_true, Bool.false_eq_true, beq_self_eq_true, BEq.rfl, zCat1, zCat2, zCat3, zKdI, zKdL, zKdR, true_and, and_true, zSI, zSL, zSR, zu_at, and_self, and_false, false_and, lv_args, zKdZ, zKdO, zB01, zB11, Option.toList_none, Option.toList_some, List.nil_append, List.cons_append, true_or, or_true, zRow_rd, zu_rd, zo_iload, zo_iload_n, zo_icmp_ge, zo_icmp_ne, zo_aload_n, zo_iconst, zi_1, zcl_1, zKn_s, zKn_0, zFind, hx, zN10, zN01, not_true_eq_false, not_false_eq_true, false_implies, true_implies, implies_true, eq_self, nI_1, nI_40, nI_7, vz0, vz1, zb1_e0, zb1_n0]
        refine ⟨fun h => ?_, fun h => ?_⟩
        · exact step J3 U zKpt_rfl v3 d3 hokj (if_neg (fun g => h g.symm))
        · have e102 : J3 102 1 = nI (pCh P) := by rw [hRJ3.2.2.1.1 102 (by omega) (by omega)]; exact hRJ3.1.2.2.2.2.2.1
          refine z_cV0 (M' := mX10_bringAll) (R' := rX10_bringAll) (i := 87) [] [] eX10_bringAll k10_540 (by decide +kernel : decode cX10_when 79 = .ok (.invokevirtual 540, 3)) (Nat.le_of_ble_eq_true rfl) ⟨Nat.le_of_ble_eq_true rfl, Nat.le_of_ble_eq_true rfl, Nat.le_of_ble_eq_true rfl, Nat.le_of_ble_eq_true rfl, Nat.le_of_ble_eq_true rfl⟩ rfl rfl rfl sh_87 ?_
          refine mo_bringAll hch e102 v3 (fun I5 k6 v5 => ?_)
          exact step I5 (zIter oStack (pCh P) U.1, U.2) k6 v5 d3 (zIter_ok (fun _ _ h => oOk_stack h) _ _ hokj) (if_pos h.symm)
end ZA78
