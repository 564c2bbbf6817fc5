section
/-! ===== CALLS: second ===== -/
section ZA76
variable {w : zP} {Q : Option Value → zMem → Prop} {μ : zMem} {I J V V' : Nat → Nat → Int32} {L : Nat → Nat → Int64} {p s B T t kc : Nat} {r : Option Nat} {P : oPn} {m m' : oTm} {c i k q wh ch n : Nat} {x till br wt : Int32} {S : oS} {rt rr : oRt} {d : Int64}
set_option maxRecDepth 20000 in
theorem cl_secondX (hw : zOk w) (hC : zKl I L p P V d t kc rt) (hQ : ∀ I' L', zKpt SCt I I' → zKpt SCtL L L' → Q (some (.int (aSecond P V d t rt x))) (SH, I', L', RF p s r)) : zXM w mX9_second rX9_second [.ref 0, .int x] (SH, I, L, RF p s r) Q := by
  unfold zXM
  have hp := hC.1
  have h9 := hC.2.2.2.2.2.2.2.1
  have r8 := hC.2.2.2.2.2.2.1.1
  have e12 := hC.2.2.2.2.1.2.2.2.1.1
  refine zBlkR (M := mX9_second) (nL := 3) (rt := (Option.some .int)) (blk := bX9_second_0) (T := []) 0 hX9_second_0 zChks_nil rfl rfl rfl (Nat.le_of_ble_eq_true rfl) (Nat.le_of_ble_eq_true rfl) ?_
  simp only [bX9_second_0, zRun_cons, zRun_nil, zLk, zSto, zIns, zFil, zf0, zf1, zf2, zf3, List.filter_cons, List.filter_nil, Nat.reduceAdd, Nat.reduceEqDiff, Nat.reduceLT, Nat.reduceLeDiff, Nat.reduceBEq, Nat.reduceBNe, reduceIte, if_true, if_false, Bool.false_and, Bool.true_and, Bool.and_true, Bool.and_false, Bool.not_false, Bool.not_true, Bool.false_eq_true, beq_self_eq_true, BEq.rfl, zCat1, zCat2, zCat3, zKdI, zKdL, zKdR, true_and, and_true, zSI, zSL, zSR, zu_at, and_self, and_false, false_and, lv_args, zKdZ, zKdO, zB01, zB11, Option.toList_none, Option.toList_some, List.nil_append, List.cons_append, true_or, or_true, zRow_rd, zu_rd, zo_aload_n, zo_iload_n, zKn_0, zN10, zN01, not_true_eq_false, not_false_eq_true, false_implies, true_implies, implies_true, eq_self, nI_1, nI_40, nI_7, vz0, vz1, zb1_e0, zb1_n0]
  refine z_cV0 (M' := mX9_hasRun) (R' := rX9_hasRun) (i := 0) [.int x] [] eX9_hasRun k9_217 (by decide +kernel : decode cX9_second 2 = .ok (.invokevirtual 217, 3)) (Nat.le_of_ble_eq_true rfl) ⟨Nat.le_of_ble_eq_true rfl, Nat.le_of_ble_eq_true rfl, Nat.le_of_ble_eq_true rfl, Nat.le_of_ble_eq_true rfl, Nat.le_of_ble_eq_true rfl⟩ rfl rfl rfl sh_0 ?_
  refine cl_hasRun hC.2.2.2.2.1.2.1 h9 ?_
  unfold aSecond at hQ
  have bad : ¬ (pRun t x = true ∧ rt.1 ≠ 0) → Q (some (.int (-2147483648))) (SH, I, L, RF p s r) := by
    intro h
    rw [if_neg h] at hQ
    exact hQ I L zKpt_rfl zKpt_rfl
  cases hr : pRun t x with
  | false =>
    refine zBlkR (M := mX9_second) (nL := 3) (rt := (Option.some .int)) (blk := bX9_second_5) (T := [(18, bX9_second_18), (21, bX9_second_21)]) 1 hX9_second_5 (zChks_cons hX9_second_18 (zChks_cons hX9_second_21 zChks_nil)) rfl rfl rfl (Nat.le_of_ble_eq_true rfl) (Nat.le_of_ble_eq_true rfl) ?_
    simp (implicitDefEqProofs := false) only [bX9_second_5, bX9_second_18, bX9_second_21, zRun_cons, zRun_nil, zLk, zSto, zIns, zFil, zf0, zf1, zf2, zf3, List.filter_cons, List.filter_nil, Nat.reduceAdd, Nat.reduceEqDiff, Nat.reduceLT, Nat.reduceLeDiff, Nat.reduceBEq, Nat.reduceBNe, reduceIte, if_true, if_false, Bool.false_and, Bool.true_and, Bool.and_true, Bool.and_false, Bool.not_false, Bool.not_true, Bool.false_eq_true, beq_self_eq_true, BEq.rfl, zCat1, zCat2, zCat3, zKdI, zKdL, zKdR, true_and, and_true, zSI, zSL, zSR, zu_at, and_self, and_false, false_and, lv_args, zKdZ, zKdO, zB01, zB11, Option.toList_none, Option.toList_some, List.nil_append, List.cons_append, true_or, or_true, zRow_rd, zu_rd, zo_if_eq, zo_aload_n, zo_getfield, zo_if_ne, zo_ldc, zo_ireturn, zi_m2147483648, zKd_9_4, zKd_2_12, sh_0, rf_0_4, sh_10, sh_19, sh_28, zRt, zKn_s, zKn_0, zFind, zb1_f, zN10, zN01, not_true_eq_false, not_false_eq_true, false_implies, true_implies, implies_true, eq_self, nI_1, nI_40, nI_7, vz0, vz1, zb1_e0, zb1_n0]
    exact bad (by rw [hr]; simp)
  | true =>
    refine zBlkR (M := mX9_second) (nL := 3) (rt := (Option.some .int)) (blk := bX9_second_5) (T := [(18, bX9_second_18), (21, bX9_second_21)]) 1 hX9_second_5 (zChks_cons hX9_second_18 (zChks_cons hX9_second_21 zChks_nil)) rfl rfl rfl (Nat.le_of_ble_eq_true rfl) (Nat.le_of_ble_eq_true rfl) ?_
    simp (implicitDefEqProofs := false) only [bX9_second_5, bX9_second_18, bX9_second_21, zRun_cons, zRun_nil, zLk, zSto, zIns, zFil, zf0, zf1, zf2, zf3, List.filter_cons, List.filter_nil, Nat.reduceAdd, Nat.reduceEqDiff, Nat.reduceLT, Nat.reduceLeDiff, Nat.reduceBEq, Nat.reduceBNe, reduceIte, if_true, if_false, Bool.false_and, Bool.true_and, Bool.and_true, Bool.and_false, Bool.not_false, Bool.not_true, Bool.false_eq_true, beq_self_eq_true, BEq.rfl, zCat1, zCat2, zCat3, zKdI, zKdL, zKdR, true_and, and_true, zSI, zSL, zSR, zu_at, and_self, and_false, false_and, lv_args, zKdZ, zKdO, zB01, zB11, Option.toList_none, Option.toList_some, List.nil_append, List.cons_append, true_or, or_true, zRow_rd, zu_rd, zo_if_eq, zo_aload_n, zo_getfield, zo_if_ne, zo_ldc, zo_ireturn, zi_m2147483648, zKd_9_4, zKd_2_12, sh_0, rf_0_4, sh_10, sh_19, sh_28, zRt, zKn_s, zKn_0, zFind, zb1_t, e12, show (nI rt.1 = 0) = (rt.1 = 0) from zeq_nat (b := 0) (by omega) (by omega), zN10, zN01, not_true_eq_false, not_false_eq_true, false_implies, true_implies, implies_true, eq_self, nI_1, nI_40, nI_7, vz0, vz1, zb1_e0, zb1_n0]
    refine ⟨fun h0 => ?_, fun h0 => bad (fun g => g.2 h0)⟩
    rw [if_pos ⟨hr, h0⟩] at hQ
    obtain ⟨n, e, hn⟩ := pRun_t hr h9
    subst e
    rw [nI_clamp (by omega)] at hQ
    unfold oBalG at hQ
    sorry
end ZA76
end
