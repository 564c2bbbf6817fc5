/-! ===== LAW, DODGERS, COUNT ===== -/
def SCw (i _k : Nat) : Prop := i = 38
section ZL98
variable {w : zP} {Q : Option Value → zMem → Prop} {μ : zMem} {I J V V' S : Nat → Nat → Int32} {L K : Nat → Nat → Int64} {p s t kc kc' t' : Nat} {r : Option Nat} {P : oPn} {a b c i k q n l : Nat} {d d' : Int64} {rt rt' : oRt} {u : oUd} {x y z v wm : Int32} {m : oTm}
theorem oIn3' : (x < 0 ∨ 3 ≤ x) ↔ oIn x 3 = false := by
  unfold oIn
  have e : (nI 3 ≤ x) = (3 ≤ x) := rfl
  simp only [e]
  by_cases h : x < 0 <;> by_cases g : 3 ≤ x <;> simp [h, g]
set_option maxRecDepth 20000 in
theorem cl_law (hw : zOk w) (hC : zKl I L p P V d t kc rt) (hM : zClsM (I 8) (mTold P)) (hQ : ∀ L', zKpt SCw L L' → Q (some (.long (aLaw P V t y x))) (SH, I, L', RF p s r)) : zXM w mX9_law rX9_law [.ref 0, .int y, .int x] (SH, I, L, RF p s r) Q := by
  unfold zXM
  have hp := hC.1
  have hnp : pNp P ≤ 5 := hC.2.1.2.1
  have h9 := hC.2.2.2.2.2.2.2.1
  obtain ⟨g1, g2, g3, g4, g5⟩ := hC.2.2.2.2.1
  unfold aLaw at hQ
  have bad : ¬ (oIn y 3 = true ∧ oIn x (pNp P) = true ∧ t < 96) → Q (some (.long (-9223372036854775808))) (SH, I, L, RF p s r) := by
    intro h
    rw [if_neg h] at hQ
    exact hQ L zKpt_rfl
  refine zBlkR (M := mX9_law) (nL := 3) (rt := (Option.some .long)) (blk := bX9_law_0) (T := [(32, bX9_law_32)]) 1 hX9_law_0 (zChks_cons hX9_law_32 zChks_nil) rfl rfl rfl (Nat.le_of_ble_eq_true rfl) (Nat.le_of_ble_eq_true rfl) ?_
  simp (implicitDefEqProofs := false) only [bX9_law_0, bX9_law_32, zRun_cons, zRun_nil, zLk, zSto, zIns, zFil, zf0, zf1, zf2, zf3, List.filter_cons, List.filter_nil, Nat.reduceAdd, Nat.reduceEqDiff, Nat.reduceLT, Nat.reduceLeDiff, Nat.reduceBEq, Nat.reduceBNe, reduceIte, if_true, if_false, Bool.false_and, Bool.true_and, Bool.and_true, Bool.and_false, Bool.not_false, Bool.not_true, Bool.false_eq_true, beq_self_eq_true, BEq.rfl, zCat1, zCat2, zCat3, zKdI, zKdL, zKdR, true_and, and_true, zSI, zSL, zSR, zu_at, and_self, and_false, false_and, lv_args, zKdZ, zKdO, zB01, zB11, Option.toList_none, Option.toList_some, List.nil_append, List.cons_append, true_or, or_true, zRow_rd, zu_rd, zo_iload_n, zo_if_lt, zo_iconst, zo_icmp_ge, zo_aload_n, zo_getfield, zo_ldc2_w, zo_lreturn, zi_3, zL_m9223372036854775808, zKd_9_12, zcl_3, sh_0, rf_0_12, sh_55, zKn_s, zKn_0, zFind, (psh_0 hp), (psh_1 hp), (psh_2 hp), (psh_3 hp), (psh_4 hp), (psh_5 hp), (psh_6 hp), (psh_7 hp), (psh_8 hp), (psh_9 hp), (psh_10 hp), (psh_11 hp), (psh_12 hp), (psh_13 hp), (psh_14 hp), (psh_15 hp), (prf_1 hp), (prf_2 hp), (prf_3 hp), (prf_4 hp), (prf_6 hp), (prf_7 hp), (prf_8 hp), (prf_10 hp), (prf_11 hp), (prf_12 hp), (prf_13 hp), (prf_15 hp), (prf_17 hp), (prf_18 hp), (prf_19 hp), Nat.add_left_cancel_iff, Nat.left_eq_add, Nat.add_eq_left, zCat2, zN10, zN01, not_true_eq_false, not_false_eq_true, false_implies, true_implies, implies_true, eq_self, nI_1, nI_40, nI_7, vz0, vz1, zb1_e0, zb1_n0]
  refine ⟨fun h => bad (by rw [oIn3'.mp (Or.inl h)]; simp), fun h => ⟨fun h2 => bad (by rw [oIn3'.mp (Or.inr h2)]; simp), fun h2 => ?_⟩⟩
  have hin : oIn y 3 = true := by
    cases hi : oIn y 3 with
    | true => rfl
    | false => exact absurd (oIn3'.mpr hi) (fun q => q.elim h h2)
  refine z_cV0 (M' := mX4_hasPlace) (R' := rX4_hasPlace) (i := p) [.int x] [] eX4_hasPlace k9_157 (by decide +kernel : decode cX9_law 14 = .ok (.invokevirtual 157, 3)) (Nat.le_of_ble_eq_true rfl) ⟨Nat.le_of_ble_eq_true rfl, Nat.le_of_ble_eq_true rfl, Nat.le_of_ble_eq_true rfl, Nat.le_of_ble_eq_true rfl, Nat.le_of_ble_eq_true rfl⟩ rfl rfl rfl (psh_0 hp) ?_
  refine cl_hasPlace hp hC.2.2.2.1.1.1 ?_
  cases hy : oIn x (pNp P) with
  | false =>
    refine zBlkR (M := mX9_law) (nL := 3) (rt := (Option.some .long)) (blk := bX9_law_17) (T := [(32, bX9_law_32), (36, bX9_law_36)]) 1 hX9_law_17 (zChks_cons hX9_law_32 (zChks_cons hX9_law_36 zChks_nil)) rfl rfl rfl (Nat.le_of_ble_eq_true rfl) (Nat.le_of_ble_eq_true rfl) ?_
    simp (implicitDefEqProofs := false) only [bX9_law_17, bX9_law_32, bX9_law_36, zRun_cons, zRun_nil, zLk, zSto, zIns, zFil, zf0, zf1, zf2, zf3, List.filter_cons, List.filter_nil, Nat.reduceAdd, Nat.reduceEqDiff, Nat.reduceLT, Nat.reduceLeDiff, Nat.reduceBEq, Nat.reduceBNe, reduceIte, if_true, if_false, Bool.false_and, Bool.true_and, Bool.and_true, Bool.and_false, Bool.not_false, Bool.not_true, Bool.false_eq_true, beq_self_eq_true, BEq.rfl, zCat1, zCat2, zCat3, zKdI, zKdL, zKdR, true_and, and_true, zSI, zSL, zSR, zu_at, and_self, and_false, false_and, lv_args, zKdZ, zKdO, zB01, zB11, Option.toList_none, Option.toList_some, List.nil_append, List.cons_append, true_or, or_true, zRow_rd, zu_rd, zo_if_eq, zo_aload_n, zo_getfield, zo_bipush, zo_icmp_lt, zo_ldc2_w, zo_lreturn, zo_iload_n, zb_96, zL_m9223372036854775808, zKd_9_4, zKd_2_10, zKd_9_7, sh_0, rf_0_4, sh_10, sh_19, sh_28, zcl_96, rf_0_7, sh_37, zKn_s, zKn_0, zFind, zb1_f, zCat2, zN10, zN01, not_true_eq_false, not_false_eq_true, false_implies, true_implies, implies_true, eq_self, nI_1, nI_40, nI_7, vz0, vz1, zb1_e0, zb1_n0]
    exact bad (by rw [hy]; simp)
  | true =>
  by_cases ht : t < 96
  · have hx : (nI t < 96) = True := eq_true (by rw [show (96 : Int32) = nI 96 from rfl, zlt_nat (by omega) (by omega)]; exact ht)
    have hx' : ((96 : Int32) ≤ nI t) = False := eq_false (by rw [show (96 : Int32) = nI 96 from rfl, zle_nat (by omega) (by omega)]; omega)
    obtain ⟨wh, hwh, e1⟩ := oIn_t hin (by omega)
    obtain ⟨q, hq, e2⟩ := oIn_t hy (by omega)
    subst e1 e2
    rw [if_pos ⟨hin, hy, ht⟩, nI_clamp (by omega), nI_clamp (by omega)] at hQ
    refine zBlkR (M := mX9_law) (nL := 3) (rt := (Option.some .long)) (blk := bX9_law_17) (T := [(32, bX9_law_32), (36, bX9_law_36)]) 1 hX9_law_17 (zChks_cons hX9_law_32 (zChks_cons hX9_law_36 zChks_nil)) rfl rfl rfl (Nat.le_of_ble_eq_true rfl) (Nat.le_of_ble_eq_true rfl) ?_
    simp (implicitDefEqProofs := false) only [bX9_law_17, bX9_law_32, bX9_law_36, zRun_cons, zRun_nil, zLk, zSto, zIns, zFil, zf0, zf1, zf2, zf3, List.filter_cons, List.filter_nil, Nat.reduceAdd, Nat.reduceEqDiff, Nat.reduceLT, Nat.reduceLeDiff, Nat.reduceBEq, Nat.reduceBNe, reduceIte, if_true, if_false, Bool.false_and, Bool.true_and, Bool.and_true, Bool.and_false, Bool.not_false, Bool.not_true, Bool.false_eq_true, beq_self_eq_true, BEq.rfl, zCat1, zCat2, zCat3, zKdI, zKdL, zKdR, true_and, and_true, zSI, zSL, zSR, zu_at, and_self, and_false, false_and, lv_args, zKdZ, zKdO, zB01, zB11, Option.toList_none, Option.toList_some, List.nil_append, List.cons_append, true_or, or_true, zRow_rd, zu_rd, zo_if_eq, zo_aload_n, zo_getfield, zo_bipush, zo_icmp_lt, zo_ldc2_w, zo_lreturn, zo_iload_n, zb_96, zL_m9223372036854775808, zKd_9_4, zKd_2_10, zKd_9_7, sh_0, rf_0_4, sh_10, sh_19, sh_28, zcl_96, rf_0_7, sh_37, zKn_s, zKn_0, zFind, zb1_t, g2, hx, hx', zCat2, zN10, zN01, not_true_eq_false, not_false_eq_true, false_implies, true_implies, implies_true, eq_self, nI_1, nI_40, nI_7, vz0, vz1, zb1_e0, zb1_n0]
    refine z_cV0 (M' := mX8_valueOf) (R' := rX8_valueOf) (i := 37) [.int (nI wh), .int (nI q)] [] eX8_valueOf k9_184 (by decide +kernel : decode cX9_law 42 = .ok (.invokevirtual 184, 3)) (Nat.le_of_ble_eq_true rfl) ⟨Nat.le_of_ble_eq_true rfl, Nat.le_of_ble_eq_true rfl, Nat.le_of_ble_eq_true rfl, Nat.le_of_ble_eq_true rfl, Nat.le_of_ble_eq_true rfl⟩ rfl rfl rfl sh_37 ?_
    refine cl_valueOf (m := mTold P) (t := t) (V := V) (B := 10) (T := 8) (P := P) hw ⟨Or.inl ⟨rfl, rfl, rfl⟩, hp, hC.2.1, hC.2.2.1, hC.2.2.2.1, hM, g1, g2, ht, hC.2.2.2.2.2.1⟩ hwh hq (fun L1 k1 => ?_)
    refine zBlkR (M := mX9_law) (nL := 3) (rt := (Option.some .long)) (blk := bX9_law_45) (T := []) 0 hX9_law_45 zChks_nil rfl rfl rfl (Nat.le_of_ble_eq_true rfl) (Nat.le_of_ble_eq_true rfl) ?_
    simp (implicitDefEqProofs := false) only [bX9_law_45, zRun_cons, zRun_nil, zLk, zSto, zIns, zFil, zf0, zf1, zf2, zf3, List.filter_cons, List.filter_nil, Nat.reduceAdd, Nat.reduceEqDiff, Nat.reduceLT, Nat.reduceLeDiff, Nat.reduceBEq, Nat.reduceBNe, reduceIte, if_true, if_false, Bool.false_and, Bool.true_and, Bool.and_true, Bool.and_false, Bool.not_false, Bool.not_true, Bool.false_eq_true, beq_self_eq_true, BEq.rfl, zCat1, zCat2, zCat3, zKdI, zKdL, zKdR, true_and, and_true, zSI, zSL, zSR, zu_at, and_self, and_false, false_and, lv_args, zKdZ, zKdO, zB01, zB11, Option.toList_none, Option.toList_some, List.nil_append, List.cons_append, true_or, or_true, zRow_rd, zu_rd, zo_lreturn, zKn_0, zCat2, zN10, zN01, not_true_eq_false, not_false_eq_true, false_implies, true_implies, implies_true, eq_self, nI_1, nI_40, nI_7, vz0, vz1, zb1_e0, zb1_n0]
    exact hQ L1 (k1.mono (fun i k g => g))
  · have hx : (nI t < 96) = False := eq_false (by rw [show (96 : Int32) = nI 96 from rfl, zlt_nat (by omega) (by omega)]; exact ht)
    have hx' : ((96 : Int32) ≤ nI t) = True := eq_true (by rw [show (96 : Int32) = nI 96 from rfl, zle_nat (by omega) (by omega)]; omega)
    refine zBlkR (M := mX9_law) (nL := 3) (rt := (Option.some .long)) (blk := bX9_law_17) (T := [(32, bX9_law_32), (36, bX9_law_36)]) 1 hX9_law_17 (zChks_cons hX9_law_32 (zChks_cons hX9_law_36 zChks_nil)) rfl rfl rfl (Nat.le_of_ble_eq_true rfl) (Nat.le_of_ble_eq_true rfl) ?_
    simp (implicitDefEqProofs := false) only [bX9_law_17, bX9_law_32, bX9_law_36, zRun_cons, zRun_nil, zLk, zSto, zIns, zFil, zf0, zf1, zf2, zf3, List.filter_cons, List.filter_nil, Nat.reduceAdd, Nat.reduceEqDiff, Nat.reduceLT, Nat.reduceLeDiff, Nat.reduceBEq, Nat.reduceBNe, reduceIte, if_true, if_false, Bool.false_and, Bool.true_and, Bool.and_true, Bool.and_false, Bool.not_false, Bool.not_true, Bool.false_eq_true, beq_self_eq_true, BEq.rfl, zCat1, zCat2, zCat3, zKdI, zKdL, zKdR, true_and, and_true, zSI, zSL, zSR, zu_at, and_self, and_false, false_and, lv_args, zKdZ, zKdO, zB01, zB11, Option.toList_none, Option.toList_some, List.nil_append, List.cons_append, true_or, or_true, zRow_rd, zu_rd, zo_if_eq, zo_aload_n, zo_getfield, zo_bipush, zo_icmp_lt, zo_ldc2_w, zo_lreturn, zo_iload_n, zb_96, zL_m9223372036854775808, zKd_9_4, zKd_2_10, zKd_9_7, sh_0, rf_0_4, sh_10, sh_19, sh_28, zcl_96, rf_0_7, sh_37, zKn_s, zKn_0, zFind, zb1_t, g2, hx, hx', zCat2, zN10, zN01, not_true_eq_false, not_false_eq_true, false_implies, true_implies, implies_true, eq_self, nI_1, nI_40, nI_7, vz0, vz1, zb1_e0, zb1_n0]
    exact bad (fun g => ht g.2.2)
set_option maxRecDepth 20000 in
theorem mo_law (hR : zRl I L P V d t kc rt) (hQ : ∀ I' L', zKpt SRt I I' → zKpt SRtL L L' → Q (some (.long (aLaw P V t y x))) (SH, I', L', RF p s r)) : zXM w mX10_law rX10_law [.ref 87, .int y, .int x] (SH, I, L, RF p s r) Q := by
  unfold zXM
  refine zBlkR (M := mX10_law) (nL := 5) (rt := (Option.some .long)) (blk := bX10_law_0) (T := []) 0 hX10_law_0 zChks_nil rfl rfl rfl (Nat.le_of_ble_eq_true rfl) (Nat.le_of_ble_eq_true rfl) ?_
  simp (implicitDefEqProofs := false) only [bX10_law_0, zRun_cons, zRun_nil, zLk, zSto, zIns, zFil, zf0, zf1, zf2, zf3, List.filter_cons, List.filter_nil, Nat.reduceAdd, Nat.reduceEqDiff, Nat.reduceLT, Nat.reduceLeDiff, Nat.reduceBEq, Nat.reduceBNe, reduceIte, if_true, if_false, Bool.false_and, Bool.true_and, Bool.and_true, Bool.and_false, Bool.not_false, Bool.not_true, Bool.false_eq_true, beq_self_eq_true, BEq.rfl, zCat1, zCat2, zCat3, zKdI, zKdL, zKdR, true_and, and_true, zSI, zSL, zSR, zu_at, and_self, and_false, false_and, lv_args, zKdZ, zKdO, zB01, zB11, Option.toList_none, Option.toList_some, List.nil_append, List.cons_append, true_or, or_true, zRow_rd, zu_rd, zo_aload_n, zo_iconst, zo_putfield, zo_putfield_2, zo_putfield_3, zi_0, zKd_10_2, zTy_10_2, zcl_0, sh_87, zPutC, zKn_0, zCat2, zN10, zN01, not_true_eq_false, not_false_eq_true, false_implies, true_implies, implies_true, eq_self, nI_1, nI_40, nI_7, vz0, vz1, zb1_e0, zb1_n0]
  have h0 : zKpt SRt I (zu I 87 2 0) := zKpt_rfl.u (by unfold SRt; omega)
  have hR := zRl_t h0 zKpt_rfl hR
  have h9 := hR.2.2.2.2.2.2.2.1
  have hnp : pNp P ≤ 5 := hR.1.2.1
  generalize zu I 87 2 0 = I0 at *
  refine z_cV0 (M' := mX10_plainRun) (R' := rX10_plainRun) (i := 87) [] [] eX10_plainRun k10_513 (by decide +kernel : decode cX10_law 6 = .ok (.invokevirtual 513, 3)) (Nat.le_of_ble_eq_true rfl) ⟨Nat.le_of_ble_eq_true rfl, Nat.le_of_ble_eq_true rfl, Nat.le_of_ble_eq_true rfl, Nat.le_of_ble_eq_true rfl, Nat.le_of_ble_eq_true rfl⟩ rfl rfl rfl sh_87 ?_
  refine mo_plainRun hR (fun I1 k1 hM => ?_)
  have k01 := h0.trans k1
  have hR1 := zRl_t k1 zKpt_rfl hR
  obtain ⟨f1, f2, f3, f4, f5, f6, f7⟩ := hR1.2.2.2.2.1
  unfold aLaw at hQ
  have bad : ¬ (oIn y 3 = true ∧ oIn x (pNp P) = true ∧ t < 96) → Q (some (.long (-9223372036854775808))) (SH, I1, L, RF p s r) := by
    intro h
    rw [if_neg h] at hQ
    exact hQ I1 L k01 zKpt_rfl
  refine zBlkR (M := mX10_law) (nL := 5) (rt := (Option.some .long)) (blk := bX10_law_9) (T := []) 0 hX10_law_9 zChks_nil rfl rfl rfl (Nat.le_of_ble_eq_true rfl) (Nat.le_of_ble_eq_true rfl) ?_
  simp (implicitDefEqProofs := false) only [bX10_law_9, zRun_cons, zRun_nil, zLk, zSto, zIns, zFil, zf0, zf1, zf2, zf3, List.filter_cons, List.filter_nil, Nat.reduceAdd, Nat.reduceEqDiff, Nat.reduceLT, Nat.reduceLeDiff, Nat.reduceBEq, Nat.reduceBNe, reduceIte, if_true, if_false, Bool.false_and, Bool.true_and, Bool.and_true, Bool.and_false, Bool.not_false, Bool.not_true, Bool.false_eq_true, beq_self_eq_true, BEq.rfl, zCat1, zCat2, zCat3, zKdI, zKdL, zKdR, true_and, and_true, zSI, zSL, zSR, zu_at, and_self, and_false, false_and, lv_args, zKdZ, zKdO, zB01, zB11, Option.toList_none, Option.toList_some, List.nil_append, List.cons_append, true_or, or_true, zRow_rd, zu_rd, zo_iload_n, zo_iconst, zi_0, zi_2, zcl_0, zcl_2, zKn_0, zCat2, zN10, zN01, not_true_eq_false, not_false_eq_true, false_implies, true_implies, implies_true, eq_self, nI_1, nI_40, nI_7, vz0, vz1, zb1_e0, zb1_n0]
  refine z_cS0 (M' := mX10_isIn) (R' := rX10_isIn) [.int y, .int 0, .int 2] [] eX10_isIn k10_223 (by decide +kernel : decode cX10_law 12 = .ok (.invokestatic 223, 3)) (Nat.le_of_ble_eq_true rfl) ⟨Nat.le_of_ble_eq_true rfl, Nat.le_of_ble_eq_true rfl, Nat.le_of_ble_eq_true rfl, Nat.le_of_ble_eq_true rfl, Nat.le_of_ble_eq_true rfl⟩ rfl rfl rfl ?_
  refine mo_isIn ?_
  rw [show (!decide (y < 0) && !decide ((2 : Int32) < y)) = oIn y 3 from oIn_isIn (a := 2) (by omega)]
  cases hin : oIn y 3 with
  | false =>
    refine zBlkR (M := mX10_law) (nL := 5) (rt := (Option.some .long)) (blk := bX10_law_15) (T := [(44, bX10_law_44)]) 1 hX10_law_15 (zChks_cons hX10_law_44 zChks_nil) rfl rfl rfl (Nat.le_of_ble_eq_true rfl) (Nat.le_of_ble_eq_true rfl) ?_
    simp (implicitDefEqProofs := false) only [bX10_law_15, bX10_law_44, zRun_cons, zRun_nil, zLk, zSto, zIns, zFil, zf0, zf1, zf2, zf3, List.filter_cons, List.filter_nil, Nat.reduceAdd, Nat.reduceEqDiff, Nat.reduceLT, Nat.reduceLeDiff, Nat.reduceBEq, Nat.reduceBNe, reduceIte, if_true, if_false, Bool.false_and, Bool.true_and, Bool.and_true, Bool.and_false, Bool.not_false, Bool.not_true, Bool.false_eq_true, beq_self_eq_true, BEq.rfl, zCat1, zCat2, zCat3, zKdI, zKdL, zKdR, true_and, and_true, zSI, zSL, zSR, zu_at, and_self, and_false, false_and, lv_args, zKdZ, zKdO, zB01, zB11, Option.toList_none, Option.toList_some, List.nil_append, List.cons_append, true_or, or_true, zRow_rd, zu_rd, zo_if_eq, zo_aload_n, zo_getfield, zo_iload_n, zo_baload, zo_ldc2_w, zo_lreturn, zL_m9223372036854775808, zKd_10_38, sh_87, rf_87_38, sh_104, zKn_s, zKn_0, zFind, zb1_f, zCat2, zN10, zN01, not_true_eq_false, not_false_eq_true, false_implies, true_implies, implies_true, eq_self, nI_1, nI_40, nI_7, vz0, vz1, zb1_e0, zb1_n0]
    exact bad (by rw [hin]; simp)
  | true =>
  obtain ⟨wh, hwh, e1⟩ := oIn_t hin (by omega)
  subst e1
  have hL := zRef_laws hR.1 hR1.2.2.1 wh hwh
  have h104 := hL.1
  have hv6 : vp_in (nI wh) 6 := zvn (by omega) (by omega)
  cases hto : pTold P wh with
  | false =>
    rw [hto] at h104
    refine zBlkR (M := mX10_law) (nL := 5) (rt := (Option.some .long)) (blk := bX10_law_15) (T := [(44, bX10_law_44)]) 1 hX10_law_15 (zChks_cons hX10_law_44 zChks_nil) rfl rfl rfl (Nat.le_of_ble_eq_true rfl) (Nat.le_of_ble_eq_true rfl) ?_
    simp (implicitDefEqProofs := false) only [bX10_law_15, bX10_law_44, zRun_cons, zRun_nil, zLk, zSto, zIns, zFil, zf0, zf1, zf2, zf3, List.filter_cons, List.filter_nil, Nat.reduceAdd, Nat.reduceEqDiff, Nat.reduceLT, Nat.reduceLeDiff, Nat.reduceBEq, Nat.reduceBNe, reduceIte, if_true, if_false, Bool.false_and, Bool.true_and, Bool.and_true, Bool.and_false, Bool.not_false, Bool.not_true, Bool.false_eq_true, beq_self_eq_true, BEq.rfl, zCat1, zCat2, zCat3, zKdI, zKdL, zKdR, true_and, and_true, zSI, zSL, zSR, zu_at, and_self, and_false, false_and, lv_args, zKdZ, zKdO, zB01, zB11, Option.toList_none, Option.toList_some, List.nil_append, List.cons_append, true_or, or_true, zRow_rd, zu_rd, zo_if_eq, zo_aload_n, zo_getfield, zo_iload_n, zo_baload, zo_ldc2_w, zo_lreturn, zL_m9223372036854775808, zKd_10_38, sh_87, rf_87_38, sh_104, zKn_s, zKn_0, zFind, zb1_t, zb1_f, hv6, h104, zCat2, nI_clamp (n := wh) (by omega), zN10, zN01, not_true_eq_false, not_false_eq_true, false_implies, true_implies, implies_true, eq_self, nI_1, nI_40, nI_7, vz0, vz1, zb1_e0, zb1_n0]
    by_cases hg : oIn (nI wh) 3 = true ∧ oIn x (pNp P) = true ∧ t < 96
    · rw [if_pos hg, nI_clamp (by omega)] at hQ
      have : pLw P (mTold P) t V wh x.toNatClampNeg = none := by unfold pLw lwP lwJ; rw [if_neg (by rw [hto]; decide)]
      rw [this] at hQ
      exact hQ I1 L k01 zKpt_rfl
    · exact bad hg
  | true =>
  rw [hto] at h104
  refine zBlkR (M := mX10_law) (nL := 5) (rt := (Option.some .long)) (blk := bX10_law_15) (T := [(44, bX10_law_44)]) 1 hX10_law_15 (zChks_cons hX10_law_44 zChks_nil) rfl rfl rfl (Nat.le_of_ble_eq_true rfl) (Nat.le_of_ble_eq_true rfl) ?_
  simp (implicitDefEqProofs := false) only [bX10_law_15, bX10_law_44, zRun_cons, zRun_nil, zLk, zSto, zIns, zFil, zf0, zf1, zf2, zf3, List.filter_cons, List.filter_nil, Nat.reduceAdd, Nat.reduceEqDiff, Nat.reduceLT, Nat.reduceLeDiff, Nat.reduceBEq, Nat.reduceBNe, reduceIte, if_true, if_false, Bool.false_and, Bool.true_and, Bool.and_true, Bool.and_false, Bool.not_false, Bool.not_true, Bool.false_eq_true, beq_self_eq_true, BEq.rfl, zCat1, zCat2, zCat3, zKdI, zKdL, zKdR, true_and, and_true, zSI, zSL, zSR, zu_at, and_self, and_false, false_and, lv_args, zKdZ, zKdO, zB01, zB11, Option.toList_none, Option.toList_some, List.nil_append, List.cons_append, true_or, or_true, zRow_rd, zu_rd, zo_if_eq, zo_aload_n, zo_getfield, zo_iload_n, zo_baload, zo_ldc2_w, zo_lreturn, zL_m9223372036854775808, zKd_10_38, sh_87, rf_87_38, sh_104, zKn_s, zKn_0, zFind, zb1_t, hv6, h104, zCat2, nI_clamp (n := wh) (by omega), zN10, zN01, not_true_eq_false, not_false_eq_true, false_implies, true_implies, implies_true, eq_self, nI_1, nI_40, nI_7, vz0, vz1, zb1_e0, zb1_n0]
  refine z_cV0 (M' := mX10_isPlace) (R' := rX10_isPlace) (i := 87) [.int x] [] eX10_isPlace k10_510 (by decide +kernel : decode cX10_law 29 = .ok (.invokevirtual 510, 3)) (Nat.le_of_ble_eq_true rfl) ⟨Nat.le_of_ble_eq_true rfl, Nat.le_of_ble_eq_true rfl, Nat.le_of_ble_eq_true rfl, Nat.le_of_ble_eq_true rfl, Nat.le_of_ble_eq_true rfl⟩ rfl rfl rfl sh_87 ?_
  refine mo_isPlace hR1.2.2.1.2.1 ?_
  cases hy : oIn x (pNp P) with
  | false =>
    refine zBlkR (M := mX10_law) (nL := 5) (rt := (Option.some .long)) (blk := bX10_law_32) (T := [(44, bX10_law_44), (48, bX10_law_48)]) 1 hX10_law_32 (zChks_cons hX10_law_44 (zChks_cons hX10_law_48 zChks_nil)) rfl rfl rfl (Nat.le_of_ble_eq_true rfl) (Nat.le_of_ble_eq_true rfl) ?_
    simp (implicitDefEqProofs := false) only [bX10_law_32, bX10_law_44, bX10_law_48, zRun_cons, zRun_nil, zLk, zSto, zIns, zFil, zf0, zf1, zf2, zf3, List.filter_cons, List.filter_nil, Nat.reduceAdd, Nat.reduceEqDiff, Nat.reduceLT, Nat.reduceLeDiff, Nat.reduceBEq, Nat.reduceBNe, reduceIte, if_true, if_false, Bool.false_and, Bool.true_and, Bool.and_true, Bool.and_false, Bool.not_false, Bool.not_true, Bool.false_eq_true, beq_self_eq_true, BEq.rfl, zCat1, zCat2, zCat3, zKdI, zKdL, zKdR, true_and, and_true, zSI, zSL, zSR, zu_at, and_self, and_false, false_and, lv_args, zKdZ, zKdO, zB01, zB11, Option.toList_none, Option.toList_some, List.nil_append, List.cons_append, true_or, or_true, zRow_rd, zu_rd, zo_if_eq, zo_aload_n, zo_getfield, zo_bipush, zo_icmp_le, zo_ldc2_w, zo_lreturn, zo_iload_n, zo_iconst, zb_95, zL_m9223372036854775808, zi_0, zKd_10_55, sh_87, zcl_95, zcl_0, zKn_s, zKn_0, zFind, zb1_f, zCat2, zN10, zN01, not_true_eq_false, not_false_eq_true, false_implies, true_implies, implies_true, eq_self, nI_1, nI_40, nI_7, vz0, vz1, zb1_e0, zb1_n0]
    exact bad (by rw [hy]; simp)
  | true =>
  by_cases ht : t < 96
  · have hx : (nI t ≤ 95) = True := eq_true (by rw [show (95 : Int32) = nI 95 from rfl, zle_nat (by omega) (by omega)]; omega)
    obtain ⟨q, hq, e2⟩ := oIn_t hy (by omega)
    subst e2
    rw [if_pos ⟨hin, hy, ht⟩, nI_clamp (by omega), nI_clamp (by omega)] at hQ
    refine zBlkR (M := mX10_law) (nL := 5) (rt := (Option.some .long)) (blk := bX10_law_32) (T := [(44, bX10_law_44), (48, bX10_law_48)]) 1 hX10_law_32 (zChks_cons hX10_law_44 (zChks_cons hX10_law_48 zChks_nil)) rfl rfl rfl (Nat.le_of_ble_eq_true rfl) (Nat.le_of_ble_eq_true rfl) ?_
    simp (implicitDefEqProofs := false) only [bX10_law_32, bX10_law_44, bX10_law_48, zRun_cons, zRun_nil, zLk, zSto, zIns, zFil, zf0, zf1, zf2, zf3, List.filter_cons, List.filter_nil, Nat.reduceAdd, Nat.reduceEqDiff, Nat.reduceLT, Nat.reduceLeDiff, Nat.reduceBEq, Nat.reduceBNe, reduceIte, if_true, if_false, Bool.false_and, Bool.true_and, Bool.and_true, Bool.and_false, Bool.not_false, Bool.not_true, Bool.false_eq_true, beq_self_eq_true, BEq.rfl, zCat1, zCat2, zCat3, zKdI, zKdL, zKdR, true_and, and_true, zSI, zSL, zSR, zu_at, and_self, and_false, false_and, lv_args, zKdZ, zKdO, zB01, zB11, Option.toList_none, Option.toList_some, List.nil_append, List.cons_append, true_or, or_true, zRow_rd, zu_rd, zo_if_eq, zo_aload_n, zo_getfield, zo_bipush, zo_icmp_le, zo_ldc2_w, zo_lreturn, zo_iload_n, zo_iconst, zb_95, zL_m9223372036854775808, zi_0, zKd_10_55, sh_87, zcl_95, zcl_0, zKn_s, zKn_0, zFind, zb1_t, f2, hx, zCat2, zN10, zN01, not_true_eq_false, not_false_eq_true, false_implies, true_implies, implies_true, eq_self, nI_1, nI_40, nI_7, vz0, vz1, zb1_e0, zb1_n0]
    refine z_cV0 (M' := mX10_lawOf) (R' := rX10_lawOf) (i := 87) [.int (nI wh), .int 0, .int (nI q), .int (nI t)] [] eX10_lawOf k10_452 (by decide +kernel : decode cX10_law 56 = .ok (.invokevirtual 452, 3)) (Nat.le_of_ble_eq_true rfl) ⟨Nat.le_of_ble_eq_true rfl, Nat.le_of_ble_eq_true rfl, Nat.le_of_ble_eq_true rfl, Nat.le_of_ble_eq_true rfl, Nat.le_of_ble_eq_true rfl⟩ rfl rfl rfl sh_87 ?_
    have hE := zRef_env hR.1 hR1.2.2.1 hM
    refine mo_lawOf (b := 0) hwh (by omega) (by omega) hE (hL.2 hto) (fun I2 L2 x e n1 n2 n3 n4 => ?_)
    rw [zNmR_eq f1 hE.1 (by omega)] at n4
    have e67 : I1 87 67 = mPr (mTold P) := hM.1
    have rr : ∀ i, 90 ≤ i → i ≤ 109 → I1 i = pR P i := hR1.2.2.1.1
    rw [rr 91 (by omega) (by omega), rr 92 (by omega) (by omega), rr 96 (by omega) (by omega), rr 97 (by omega) (by omega), rr 98 (by omega) (by omega), rr 99 (by omega) (by omega), rr 100 (by omega) (by omega), rr 107 (by omega) (by omega), rr 108 (by omega) (by omega), e67] at n4
    have hpl : pLw P (mTold P) t V wh q = jLaw (jNm (pR P 91 q) (pR P 92 q) (decide (oSky (pR P 96) (pR P 97) (nI t) (pNs P) (mNr (mTold P)) = 0)) (!mNb (mTold P) && zAny (oMusP (pR P 98) (pR P 99) (pR P 100) (nI q) (nI t)) (pNb P)) (oCnt V (nI q) 2 (pCh P)) (oCnt V (nI q) 1 (pCh P)) (mPr (mTold P)) (nI t)) (pR P 107) (pR P 108) (pF P wh) (pT P wh) := by
      unfold pLw lwP lwJ; rw [if_pos hto]
    rw [hpl] at hQ
    generalize jLaw _ _ _ _ _ = o at n4 hQ
    have kk : zKpt SRt I I2 := k01.trans (n1.mono (fun i k g => by unfold zErrS at g; unfold SRt; omega))
    have kl : zKpt SRtL L L2 := n2.mono (fun i k g => by unfold zErrL at g; unfold SRtL; omega)
    cases o with
    | none =>
      obtain ⟨rfl, rfl⟩ := n4.1 rfl
      refine zBlkR (M := mX10_law) (nL := 5) (rt := (Option.some .long)) (blk := bX10_law_59) (T := [(73, bX10_law_73), (74, bX10_law_74)]) 1 hX10_law_59 (zChks_cons hX10_law_73 (zChks_cons hX10_law_74 zChks_nil)) rfl rfl rfl (Nat.le_of_ble_eq_true rfl) (Nat.le_of_ble_eq_true rfl) ?_
      simp (implicitDefEqProofs := false) only [bX10_law_59, bX10_law_73, bX10_law_74, zRun_cons, zRun_nil, zLk, zSto, zIns, zFil, zf0, zf1, zf2, zf3, List.filter_cons, List.filter_nil, Nat.reduceAdd, Nat.reduceEqDiff, Nat.reduceLT, Nat.reduceLeDiff, Nat.reduceBEq, Nat.reduceBNe, reduceIte, if_true, if_false, Bool.false_and, Bool.true_and, Bool.and_true, Bool.and_false, Bool.not_false, Bool.not_true, Bool.false_eq_true, beq_self_eq_true, BEq.rfl, zCat1, zCat2, zCat3, zKdI, zKdL, zKdR, true_and, and_true, zSI, zSL, zSR, zu_at, and_self, and_false, false_and, lv_args, zKdZ, zKdO, zB01, zB11, Option.toList_none, Option.toList_some, List.nil_append, List.cons_append, true_or, or_true, zRow_rd, zu_rd, zo_lstore_n, zo_aload_n, zo_getfield, zo_if_eq, zo_ldc2_w, zo_goto, zo_lload_n, zo_lreturn, zL_m9223372036854775808, zKd_10_54, sh_87, zKn_s, zKn_0, zFind, n3, zb1_t, zCat2, zN10, zN01, not_true_eq_false, not_false_eq_true, false_implies, true_implies, implies_true, eq_self, nI_1, nI_40, nI_7, vz0, vz1, zb1_e0, zb1_n0]
      exact hQ I2 L2 kk kl
    | some v =>
      obtain ⟨rfl, rfl⟩ := n4.2 v rfl
      refine zBlkR (M := mX10_law) (nL := 5) (rt := (Option.some .long)) (blk := bX10_law_59) (T := [(73, bX10_law_73), (74, bX10_law_74)]) 1 hX10_law_59 (zChks_cons hX10_law_73 (zChks_cons hX10_law_74 zChks_nil)) rfl rfl rfl (Nat.le_of_ble_eq_true rfl) (Nat.le_of_ble_eq_true rfl) ?_
      simp (implicitDefEqProofs := false) only [bX10_law_59, bX10_law_73, bX10_law_74, zRun_cons, zRun_nil, zLk, zSto, zIns, zFil, zf0, zf1, zf2, zf3, List.filter_cons, List.filter_nil, Nat.reduceAdd, Nat.reduceEqDiff, Nat.reduceLT, Nat.reduceLeDiff, Nat.reduceBEq, Nat.reduceBNe, reduceIte, if_true, if_false, Bool.false_and, Bool.true_and, Bool.and_true, Bool.and_false, Bool.not_false, Bool.not_true, Bool.false_eq_true, beq_self_eq_true, BEq.rfl, zCat1, zCat2, zCat3, zKdI, zKdL, zKdR, true_and, and_true, zSI, zSL, zSR, zu_at, and_self, and_false, false_and, lv_args, zKdZ, zKdO, zB01, zB11, Option.toList_none, Option.toList_some, List.nil_append, List.cons_append, true_or, or_true, zRow_rd, zu_rd, zo_lstore_n, zo_aload_n, zo_getfield, zo_if_eq, zo_ldc2_w, zo_goto, zo_lload_n, zo_lreturn, zL_m9223372036854775808, zKd_10_54, sh_87, zKn_s, zKn_0, zFind, n3, zb1_f, zCat2, zN10, zN01, not_true_eq_false, not_false_eq_true, false_implies, true_implies, implies_true, eq_self, nI_1, nI_40, nI_7, vz0, vz1, zb1_e0, zb1_n0]
      exact hQ I2 L2 kk kl
  · have hx : (nI t ≤ 95) = False := eq_false (by rw [show (95 : Int32) = nI 95 from rfl, zle_nat (by omega) (by omega)]; omega)
    refine zBlkR (M := mX10_law) (nL := 5) (rt := (Option.some .long)) (blk := bX10_law_32) (T := [(44, bX10_law_44), (48, bX10_law_48)]) 1 hX10_law_32 (zChks_cons hX10_law_44 (zChks_cons hX10_law_48 zChks_nil)) rfl rfl rfl (Nat.le_of_ble_eq_true rfl) (Nat.le_of_ble_eq_true rfl) ?_
    simp (implicitDefEqProofs := false) only [bX10_law_32, bX10_law_44, bX10_law_48, zRun_cons, zRun_nil, zLk, zSto, zIns, zFil, zf0, zf1, zf2, zf3, List.filter_cons, List.filter_nil, Nat.reduceAdd, Nat.reduceEqDiff, Nat.reduceLT, Nat.reduceLeDiff, Nat.reduceBEq, Nat.reduceBNe, reduceIte, if_true, if_false, Bool.false_and, Bool.true_and, Bool.and_true, Bool.and_false, Bool.not_false, Bool.not_true, Bool.false_eq_true, beq_self_eq_true, BEq.rfl, zCat1, zCat2, zCat3, zKdI, zKdL, zKdR, true_and, and_true, zSI, zSL, zSR, zu_at, and_self, and_false, false_and, lv_args, zKdZ, zKdO, zB01, zB11, Option.toList_none, Option.toList_some, List.nil_append, List.cons_append, true_or, or_true, zRow_rd, zu_rd, zo_if_eq, zo_aload_n, zo_getfield, zo_bipush, zo_icmp_le, zo_ldc2_w, zo_lreturn, zo_iload_n, zo_iconst, zb_95, zL_m9223372036854775808, zi_0, zKd_10_55, sh_87, zcl_95, zcl_0, zKn_s, zKn_0, zFind, zb1_t, f2, hx, zCat2, zN10, zN01, not_true_eq_false, not_false_eq_true, false_implies, true_implies, implies_true, eq_self, nI_1, nI_40, nI_7, vz0, vz1, zb1_e0, zb1_n0]
    exact bad (fun g => ht g.2.2)
end ZL98
