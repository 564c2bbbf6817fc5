/-! ===== TEXT: joints, formulas, laws in the class ===== -/
def dLaw (D : oDf) (h : Nat) (S : oFm) : oDf := (S.2.2.1, fun i => if i = h then true else dTold D i, fun i => if i = h then dNk D else dF D i, fun i => if i = h then S.2.2.2.1 else dT D i, dSt D, dNp D, dNc D, dNs D, dNb D, dNg D, S.2.2.2.2)
def gLaw (E : oEn) (D : oDf) (t : oTk) : oF ⊕ (oTk × oDf) :=
  if 41 ≤ tKd (tNx E t) ∧ tKd (tNx E t) ≤ 43 then
    if dTold D (tKd (tNx E t) - 41) = true then .inl (3, tAt (tNx E t)) else
    match fSum E 700 (tNx E (tNx E t)) ([], [], dR D, dNk D, dNk D) true with
    | .inl f => .inl f
    | .inr (t', S) => .inr (t', dLaw D (tKd (tNx E t) - 41) S)
  else .inl (1, tAt (tNx E t))
section ZN98zb
variable {w : zP} {Q : Option Value → zMem → Prop} {μ : zMem} {I J J' : Nat → Nat → Int32} {L K : Nat → Nat → Int64} {p s : Nat} {r : Option Nat} {a b c i j k n e m lo hi l F : Nat} {x y v : Int32} {E : oEn} {t u : oTk} {D : oDf} {ws hd hd' : List Nat} {R R0 : Nat → Nat → Int32} {X : oFx} {S S' : oFm} {f g f' g' : Nat → Int32} {w' : Bool}
set_option maxRecDepth 20000 in
theorem cl_wrJ (hs : zPc s) (hl : 1 ≤ l) (hl7 : l ≤ 7) {wb : Bool} (hS : FOk F R0 (ws, X) wb) (hJ : zFc J s (ws, X)) (hQ : ∀ J', zKpt (SFc s) J J' → zFc J' s (fBind l ws X) → Q none (SH, zTs J' t, L, RF p s (some s))) : zXM w mX5_writeJoints rX5_writeJoints [.ref 4, .int (nI (l - 1))] (SH, zTs J t, L, RF p s (some s)) Q := by
  unfold zXM
  obtain ⟨l1, l2, l3⟩ := FOk_len hS
  refine zBlkR (M := mX5_writeJoints) (nL := 3) (rt := (Option.none : Option Jvm.ClassFile.FieldType)) (blk := bX5_writeJoints_0) (T := []) 0 hX5_writeJoints_0 zChks_nil rfl rfl rfl (Nat.le_of_ble_eq_true rfl) (Nat.le_of_ble_eq_true rfl) ?_
  simp (implicitDefEqProofs := false) only [bX5_writeJoints_0, zRun_cons, zRun_nil, zLk, zSto, zIns, zFil, zf0, zf1, zf2, zf3, List.filter_cons, List.filter_nil, Nat.reduceAdd, Nat.reduceEqDiff, Nat.reduceLT, Nat.reduceLeDiff, Nat.reduceBEq, Nat.reduceBNe, reduceIte, if_true, if_false, Bool.false_and, Bool.true_and, Bool.and_true, Bool.and_false, Bool.not_false, Bool.not_true, Bool.false_eq_true, beq_self_eq_true, BEq.rfl, zCat1, zCat2, zCat3, zKdI, zKdL, zKdR, true_and, and_true, zSI, zSL, zSR, zu_at, and_self, and_false, false_and, lv_args, zKdZ, zKdO, zB01, zB11, Option.toList_none, Option.toList_some, List.nil_append, List.cons_append, true_or, or_true, zRow_rd, zu_rd, zo_iconst, zo_istore_n, zi_0, zcl_0, zKn_0, zN10, zN01, not_true_eq_false, not_false_eq_true, false_implies, true_implies, implies_true, eq_self, nI_1, nI_40, nI_7, vz0, vz1, zb1_e0, zb1_n0]
  exact cl_writeJoints hs hl hl7 ws X J 0 (by simpa using l1) l3 hS.2.2.2.2.2.2.1 hJ hQ
theorem cJt_op (h : opN k ≠ 0) : cJt (opN k) = k := by
  unfold opN at h ⊢
  by_cases h1 : k = 45
  · subst h1; rfl
  · rw [if_neg h1] at h ⊢
    by_cases h2 : k = 44
    · subst h2; rfl
    · rw [if_neg h2] at h ⊢
      by_cases h3 : 7 ≤ k ∧ k ≤ 16
      · rw [if_pos h3]; unfold cJt; rw [if_neg (by omega), if_neg (by omega), if_neg (by omega), if_neg (by omega)]; omega
      · rw [if_neg h3] at h; exact absurd rfl h
theorem fLeaf_w (h : fLeaf t S = .inr (S', w')) : w' = decide (tKd t = 46 ∨ tKd t = 5) := by
  unfold fLeaf at h
  by_cases h5 : tKd t = 5
  · rw [if_pos h5] at h
    split at h
    · cases h
    · cases h; simp [h5]
  · rw [if_neg h5] at h
    split at h
    · rename_i hc
      split at h
      · cases h
      · cases h; simp [hc.1]
    · rename_i hc
      split at h
      · rename_i h2
        repeat' split at h
        all_goals first | cases h | skip
        simp [h2]
      · split at h
        · rename_i hn
          split at h
          · cases h
          · cases h
            symm
            rw [decide_eq_false_iff_not]
            omega
        · cases h
theorem fSign_w (h : fSign t S = .inr (S', w')) : w' = !decide (tKd t = 6) := by
  unfold fSign at h
  split at h
  · rename_i hc
    cases h; simp [hc.1]
  · split at h
    · cases h
    · rename_i ho
      repeat' split at h
      all_goals first | cases h | skip
      have : ¬ tKd t = 6 := fun e => by rw [e] at ho; exact ho rfl
      simp [this]
/-- a bracket gone from the class's stack -/
theorem zFc_tail (hs : zPc s) (h : zFc J s (0 :: ws, X)) : zFc (zu (zu J 4 5 (nI (brk ws))) 4 4 (nI ws.length)) s (ws, X) := by
  have s8 : 8 < s := by rcases hs with rfl | rfl <;> omega
  obtain ⟨h1, h2, h3, h4, h5, h6⟩ := h
  refine ⟨by simp [zu_at], by simp [zu_at], by simp [zu_at]; exact h3, ?_, ?_, fun i hi => ?_⟩
  · rw [zu_at, if_neg (by omega), zu_at, if_neg (by omega)]; exact h4
  · refine zWs_c h5.2.2 (fun i hi => ?_)
    simp [zu_at]
  · rw [zu_at, if_neg (by omega), zu_at, if_neg (by omega)]; exact h6 i hi
set_option maxRecDepth 20000 in
theorem cl_readJoint (hok : zOk w) (hs : zPc s) (ht : tOk E t) (hJ : zFc J s (ws, X)) (hS : FOk F R0 (ws, X) false)
    (hF : ∀ f J', fSign t (ws, X) = .inl f → zKpt (SPs s) J J' → J' 4 10 = nI f.1 → J' 4 11 = nI f.2 → Q (some (.int 0)) (SH, zTs J' t, L, RF p s (some s)))
    (hG : ∀ S' w' J', fSign t (ws, X) = .inr (S', w') → zKpt (SFc s) J J' → zFc J' s S' → Q (some (.int 1)) (SH, zTs J' t, L, RF p s (some s))) : zXM w mX5_readJoint rX5_readJoint [.ref 4] (SH, zTs J t, L, RF p s (some s)) Q := by
  unfold zXM
  have s8 : 8 < s := by rcases hs with rfl | rfl <;> omega
  obtain ⟨l1, l2, l3⟩ := FOk_len hS
  simp only at l1 l2 l3
  obtain ⟨o1, o2, o3, -⟩ := id hS
  simp only at o1 o2 o3
  have hln := len_bn ws
  have hkd := ht.2.2.1
  have y6 : (nI t.2.2.1 = 6) = (t.2.2.1 = 6) := tK_eq (k := 6) ht (by omega)
  obtain ⟨j1, j2, j3, j4, j5, j6⟩ := id hJ
  simp only at j1 j2 j3 j4 j5 j6
  have hg : fSign t (ws, X) = fSign t (ws, X) := rfl
  conv at hg => rhs; unfold fSign
  simp only at hg
  have z0 : (nI (brk ws) ≤ 0) = (brk ws ≤ 0) := zle_nat (b := 0) (by omega) (by omega)
  -- a joint, or nothing that fits
  have go50 : ¬ (tKd t = 6 ∧ 0 < brk ws) → zX w mX5_readJoint rX5_readJoint Q 0 0 50 [(0, Value.ref 4)] [] (SH, zTs J t, L, RF p s (some s)) := by
    intro hno
    rw [if_neg hno] at hg
    refine zBlkR (M := mX5_readJoint) (nL := 2) (rt := (Option.some .boolean)) (blk := bX5_readJoint_50) (T := []) 0 hX5_readJoint_50 zChks_nil rfl rfl rfl (Nat.le_of_ble_eq_true rfl) (Nat.le_of_ble_eq_true rfl) ?_
    simp (implicitDefEqProofs := false) only [bX5_readJoint_50, zRun_cons, zRun_nil, zLk, zSto, zIns, zFil, zf0, zf1, zf2, zf3, List.filter_cons, List.filter_nil, Nat.reduceAdd, Nat.reduceEqDiff, Nat.reduceLT, Nat.reduceLeDiff, Nat.reduceBEq, Nat.reduceBNe, reduceIte, if_true, if_false, Bool.false_and, Bool.true_and, Bool.and_true, Bool.and_false, Bool.not_false, Bool.not_true, Bool.false_eq_true, beq_self_eq_true, BEq.rfl, zCat1, zCat2, zCat3, zKdI, zKdL, zKdR, true_and, and_true, zSI, zSL, zSR, zu_at, and_self, and_false, false_and, lv_args, zKdZ, zKdO, zB01, zB11, Option.toList_none, Option.toList_some, List.nil_append, List.cons_append, true_or, or_true, zRow_rd, zu_rd, zo_aload_n, zo_getfield, zKd_5_0, zKd_7_6, sh_4, rf_4_0, sh_1, zKn_0, zTs_12, zTs_13, zTs_14, zTs_15, zTs_16, zTs_17, zTs_o, zTs_u, zN10, zN01, not_true_eq_false, not_false_eq_true, false_implies, true_implies, implies_true, eq_self, nI_1, nI_40, nI_7, vz0, vz1, zb1_e0, zb1_n0]
    refine z_cS0 (M' := mX5_rankOf) (R' := rX5_rankOf) [.int (nI t.2.2.1)] [] eX5_rankOf k5_225 (by decide +kernel : decode cX5_readJoint 57 = .ok (.invokestatic 225, 3)) (Nat.le_of_ble_eq_true rfl) ⟨Nat.le_of_ble_eq_true rfl, Nat.le_of_ble_eq_true rfl, Nat.le_of_ble_eq_true rfl, Nat.le_of_ble_eq_true rfl, Nat.le_of_ble_eq_true rfl⟩ rfl rfl rfl ?_
    refine cl_rankOf hkd ?_
    by_cases ho : opN t.2.2.1 = 0
    · rw [if_pos ho] at hg
      rw [if_pos ho]
      refine zBlkR (M := mX5_readJoint) (nL := 2) (rt := (Option.some .boolean)) (blk := bX5_readJoint_60) (T := [(72, bX5_readJoint_72), (82, bX5_readJoint_82)]) 2 hX5_readJoint_60 (zChks_cons hX5_readJoint_72 (zChks_cons hX5_readJoint_82 zChks_nil)) rfl rfl rfl (Nat.le_of_ble_eq_true rfl) (Nat.le_of_ble_eq_true rfl) ?_
      simp (implicitDefEqProofs := false) only [bX5_readJoint_60, bX5_readJoint_72, bX5_readJoint_82, zRun_cons, zRun_nil, zLk, zSto, zIns, zFil, zf0, zf1, zf2, zf3, List.filter_cons, List.filter_nil, Nat.reduceAdd, Nat.reduceEqDiff, Nat.reduceLT, Nat.reduceLeDiff, Nat.reduceBEq, Nat.reduceBNe, reduceIte, if_true, if_false, Bool.false_and, Bool.true_and, Bool.and_true, Bool.and_false, Bool.not_false, Bool.not_true, Bool.false_eq_true, beq_self_eq_true, BEq.rfl, zCat1, zCat2, zCat3, zKdI, zKdL, zKdR, true_and, and_true, zSI, zSL, zSR, zu_at, and_self, and_false, false_and, lv_args, zKdZ, zKdO, zB01, zB11, Option.toList_none, Option.toList_some, List.nil_append, List.cons_append, true_or, or_true, zRow_rd, zu_rd, zo_istore_n, zo_iload_n, zo_iconst, zo_icmp_ne, zo_aload_n, zo_goto, zo_isub, zi_m1, zi_1, zi_4, zcl_1, zcl_4, zKn_s, zKn_0, zFind, zN10, zN01, not_true_eq_false, not_false_eq_true, false_implies, true_implies, implies_true, eq_self, nI_1, nI_40, nI_7, vz0, vz1, zb1_e0, zb1_n0]
      refine z_cV0 (M' := mX5_fail) (R' := rX5_fail) (i := 4) [.int 1] [] eX5_fail k5_78 (by decide +kernel : decode cX5_readJoint 68 = .ok (.invokevirtual 78, 3)) (Nat.le_of_ble_eq_true rfl) ⟨Nat.le_of_ble_eq_true rfl, Nat.le_of_ble_eq_true rfl, Nat.le_of_ble_eq_true rfl, Nat.le_of_ble_eq_true rfl, Nat.le_of_ble_eq_true rfl⟩ rfl rfl rfl sh_4 ?_
      refine cl_fail ?_
      refine zBlkR (M := mX5_readJoint) (nL := 2) (rt := (Option.some .boolean)) (blk := bX5_readJoint_71) (T := []) 0 hX5_readJoint_71 zChks_nil rfl rfl rfl (Nat.le_of_ble_eq_true rfl) (Nat.le_of_ble_eq_true rfl) ?_
      simp (implicitDefEqProofs := false) only [bX5_readJoint_71, zRun_cons, zRun_nil, zLk, zSto, zIns, zFil, zf0, zf1, zf2, zf3, List.filter_cons, List.filter_nil, Nat.reduceAdd, Nat.reduceEqDiff, Nat.reduceLT, Nat.reduceLeDiff, Nat.reduceBEq, Nat.reduceBNe, reduceIte, if_true, if_false, Bool.false_and, Bool.true_and, Bool.and_true, Bool.and_false, Bool.not_false, Bool.not_true, Bool.false_eq_true, beq_self_eq_true, BEq.rfl, zCat1, zCat2, zCat3, zKdI, zKdL, zKdR, true_and, and_true, zSI, zSL, zSR, zu_at, and_self, and_false, false_and, lv_args, zKdZ, zKdO, zB01, zB11, Option.toList_none, Option.toList_some, List.nil_append, List.cons_append, true_or, or_true, zRow_rd, zu_rd, zo_ireturn, zRt, zKn_0, zN10, zN01, not_true_eq_false, not_false_eq_true, false_implies, true_implies, implies_true, eq_self, nI_1, nI_40, nI_7, vz0, vz1, zb1_e0, zb1_n0]
      exact hF _ _ hg ((zKpt_rfl.u (by unfold SPs; omega)).u (by unfold SPs; omega)) (by simp [zu_at]; rfl) (by simp [zu_at])
    · rw [if_neg ho] at hg
      rw [if_neg ho]
      have ob := opN_b ho
      have hr6 := rkN_lt ob.2
      have hr0 : rkN (opN t.2.2.1) ≠ 0 := fun q => by have := rkN_0.mp q; omega
      have m1 : (nI (rkN (opN t.2.2.1)) = -1) = False := nI_neg1 (by omega)
      have z4 : (nI (rkN (opN t.2.2.1)) = 4) = (rkN (opN t.2.2.1) = 4) := zeq_nat (b := 4) (by omega) (by omega)
      have hf1 : 1 ≤ fLv (opN t.2.2.1) := fLv_1 ho
      have hf7 : fLv (opN t.2.2.1) ≤ 7 := by unfold fLv; split <;> omega
      have fin : zX w mX5_readJoint rX5_readJoint Q 0 0 85 [(0, Value.ref 4), (1, Value.int (nI (rkN (opN t.2.2.1))))] [Value.int (nI (fLv (opN t.2.2.1) - 1)), Value.ref 4] (SH, zTs J t, L, RF p s (some s)) := by
        refine z_cV0 (M' := mX5_writeJoints) (R' := rX5_writeJoints) (i := 4) [.int (nI (fLv (opN t.2.2.1) - 1))] [] eX5_writeJoints k5_198 (by decide +kernel : decode cX5_readJoint 85 = .ok (.invokevirtual 198, 3)) (Nat.le_of_ble_eq_true rfl) ⟨Nat.le_of_ble_eq_true rfl, Nat.le_of_ble_eq_true rfl, Nat.le_of_ble_eq_true rfl, Nat.le_of_ble_eq_true rfl, Nat.le_of_ble_eq_true rfl⟩ rfl rfl rfl sh_4 ?_
        refine cl_wrJ hs hf1 hf7 hS hJ (fun J1 k1 hJ1 => ?_)
        have hB := fBind_ok hf1 ws X hS
        have hcc := fBind_c (l := fLv (opN t.2.2.1)) ws X
        have htop := fBind_top hf1 ws X
        have hg' : fSign t (ws, X) = (if rkN (opN t.2.2.1) = 4 ∧ rkN ((fBind (fLv (opN t.2.2.1)) ws X).1.headD 0) = 4 then .inl (1, tAt t) else if X.2.2.2 = 64 then .inl (2, tAt t) else .inr ((opN t.2.2.1 :: (fBind (fLv (opN t.2.2.1)) ws X).1, (fBind (fLv (opN t.2.2.1)) ws X).2.1, (fBind (fLv (opN t.2.2.1)) ws X).2.2.1, (fBind (fLv (opN t.2.2.1)) ws X).2.2.2.1, X.2.2.2 + 1), true)) := hg
        clear hg
        generalize fBind (fLv (opN t.2.2.1)) ws X = B at hJ1 hB hcc htop hg'
        obtain ⟨v, hd, R, n, c⟩ := B
        obtain ⟨b1, b2, b3⟩ := FOk_len hB
        obtain ⟨q1, q2, q3, q4, q5, q6⟩ := id hJ1
        simp only at hcc htop b1 b2 b3 q1 q2 q3 q4 q5 q6 hg'
        refine zBlkR (M := mX5_readJoint) (nL := 2) (rt := (Option.some .boolean)) (blk := bX5_readJoint_88) (T := []) 0 hX5_readJoint_88 zChks_nil rfl rfl rfl (Nat.le_of_ble_eq_true rfl) (Nat.le_of_ble_eq_true rfl) ?_
        simp (implicitDefEqProofs := false) only [bX5_readJoint_88, zRun_cons, zRun_nil, zLk, zSto, zIns, zFil, zf0, zf1, zf2, zf3, List.filter_cons, List.filter_nil, Nat.reduceAdd, Nat.reduceEqDiff, Nat.reduceLT, Nat.reduceLeDiff, Nat.reduceBEq, Nat.reduceBNe, reduceIte, if_true, if_false, Bool.false_and, Bool.true_and, Bool.and_true, Bool.and_false, Bool.not_false, Bool.not_true, Bool.false_eq_true, beq_self_eq_true, BEq.rfl, zCat1, zCat2, zCat3, zKdI, zKdL, zKdR, true_and, and_true, zSI, zSL, zSR, zu_at, and_self, and_false, false_and, lv_args, zKdZ, zKdO, zB01, zB11, Option.toList_none, Option.toList_some, List.nil_append, List.cons_append, true_or, or_true, zRow_rd, zu_rd, zo_aload_n, zKn_0, zN10, zN01, not_true_eq_false, not_false_eq_true, false_implies, true_implies, implies_true, eq_self, nI_1, nI_40, nI_7, vz0, vz1, zb1_e0, zb1_n0]
        refine z_cV0 (M' := mX5_topRank) (R' := rX5_topRank) (i := 4) [] [] eX5_topRank k5_213 (by decide +kernel : decode cX5_readJoint 89 = .ok (.invokevirtual 213, 3)) (Nat.le_of_ble_eq_true rfl) ⟨Nat.le_of_ble_eq_true rfl, Nat.le_of_ble_eq_true rfl, Nat.le_of_ble_eq_true rfl, Nat.le_of_ble_eq_true rfl, Nat.le_of_ble_eq_true rfl⟩ rfl rfl rfl sh_4 ?_
        refine cl_topRank q1 q5 b1 ?_
        have zr : (nI (rkN (v.headD 0)) = nI (rkN (opN t.2.2.1))) = (rkN (v.headD 0) = rkN (opN t.2.2.1)) := zeq_nat (by omega) (by omega)
        by_cases he : rkN (v.headD 0) = rkN (opN t.2.2.1)
        · have he' : (rkN (v.headD 0) = rkN (opN t.2.2.1)) = True := eq_true he
          have r4 : rkN (opN t.2.2.1) = 4 := by
            by_cases q : rkN (opN t.2.2.1) = 4
            · exact q
            · exfalso; unfold fLv at htop; rw [if_neg q] at htop; omega
          rw [if_pos ⟨r4, by omega⟩] at hg'
          refine zBlkR (M := mX5_readJoint) (nL := 2) (rt := (Option.some .boolean)) (blk := bX5_readJoint_92) (T := [(102, bX5_readJoint_102)]) 1 hX5_readJoint_92 (zChks_cons hX5_readJoint_102 zChks_nil) rfl rfl rfl (Nat.le_of_ble_eq_true rfl) (Nat.le_of_ble_eq_true rfl) ?_
          simp (implicitDefEqProofs := false) only [bX5_readJoint_92, bX5_readJoint_102, zRun_cons, zRun_nil, zLk, zSto, zIns, zFil, zf0, zf1, zf2, zf3, List.filter_cons, List.filter_nil, Nat.reduceAdd, Nat.reduceEqDiff, Nat.reduceLT, Nat.reduceLeDiff, Nat.reduceBEq, Nat.reduceBNe, reduceIte, if_true, if_false, Bool.false_and, Bool.true_and, Bool.and_true, Bool.and_false, Bool.not_false, Bool.not_true, Bool.false_eq_true, beq_self_eq_true, BEq.rfl, zCat1, zCat2, zCat3, zKdI, zKdL, zKdR, true_and, and_true, zSI, zSL, zSR, zu_at, and_self, and_false, false_and, lv_args, zKdZ, zKdO, zB01, zB11, Option.toList_none, Option.toList_some, List.nil_append, List.cons_append, true_or, or_true, zRow_rd, zu_rd, zo_iload_n, zo_icmp_ne, zo_aload_n, zo_iconst, zi_1, zcl_1, zKn_s, zKn_0, zFind, zr, he', zN10, zN01, not_true_eq_false, not_false_eq_true, false_implies, true_implies, implies_true, eq_self, nI_1, nI_40, nI_7, vz0, vz1, zb1_e0, zb1_n0]
          refine z_cV0 (M' := mX5_fail) (R' := rX5_fail) (i := 4) [.int 1] [] eX5_fail k5_78 (by decide +kernel : decode cX5_readJoint 98 = .ok (.invokevirtual 78, 3)) (Nat.le_of_ble_eq_true rfl) ⟨Nat.le_of_ble_eq_true rfl, Nat.le_of_ble_eq_true rfl, Nat.le_of_ble_eq_true rfl, Nat.le_of_ble_eq_true rfl, Nat.le_of_ble_eq_true rfl⟩ rfl rfl rfl sh_4 ?_
          refine cl_fail ?_
          refine zBlkR (M := mX5_readJoint) (nL := 2) (rt := (Option.some .boolean)) (blk := bX5_readJoint_101) (T := []) 0 hX5_readJoint_101 zChks_nil rfl rfl rfl (Nat.le_of_ble_eq_true rfl) (Nat.le_of_ble_eq_true rfl) ?_
          simp (implicitDefEqProofs := false) only [bX5_readJoint_101, zRun_cons, zRun_nil, zLk, zSto, zIns, zFil, zf0, zf1, zf2, zf3, List.filter_cons, List.filter_nil, Nat.reduceAdd, Nat.reduceEqDiff, Nat.reduceLT, Nat.reduceLeDiff, Nat.reduceBEq, Nat.reduceBNe, reduceIte, if_true, if_false, Bool.false_and, Bool.true_and, Bool.and_true, Bool.and_false, Bool.not_false, Bool.not_true, Bool.false_eq_true, beq_self_eq_true, BEq.rfl, zCat1, zCat2, zCat3, zKdI, zKdL, zKdR, true_and, and_true, zSI, zSL, zSR, zu_at, and_self, and_false, false_and, lv_args, zKdZ, zKdO, zB01, zB11, Option.toList_none, Option.toList_some, List.nil_append, List.cons_append, true_or, or_true, zRow_rd, zu_rd, zo_ireturn, zRt, zKn_0, zN10, zN01, not_true_eq_false, not_false_eq_true, false_implies, true_implies, implies_true, eq_self, nI_1, nI_40, nI_7, vz0, vz1, zb1_e0, zb1_n0]
          exact hF _ _ hg' (((k1.mono (fun i k h => SFc_s h)).u (by unfold SPs; omega)).u (by unfold SPs; omega)) (by simp [zu_at]; rfl) (by simp [zu_at])
        · have he' : (rkN (v.headD 0) = rkN (opN t.2.2.1)) = False := eq_false he
          rw [if_neg (by omega)] at hg'
          refine zBlkR (M := mX5_readJoint) (nL := 2) (rt := (Option.some .boolean)) (blk := bX5_readJoint_92) (T := [(102, bX5_readJoint_102)]) 1 hX5_readJoint_92 (zChks_cons hX5_readJoint_102 zChks_nil) rfl rfl rfl (Nat.le_of_ble_eq_true rfl) (Nat.le_of_ble_eq_true rfl) ?_
          simp (implicitDefEqProofs := false) only [bX5_readJoint_92, bX5_readJoint_102, zRun_cons, zRun_nil, zLk, zSto, zIns, zFil, zf0, zf1, zf2, zf3, List.filter_cons, List.filter_nil, Nat.reduceAdd, Nat.reduceEqDiff, Nat.reduceLT, Nat.reduceLeDiff, Nat.reduceBEq, Nat.reduceBNe, reduceIte, if_true, if_false, Bool.false_and, Bool.true_and, Bool.and_true, Bool.and_false, Bool.not_false, Bool.not_true, Bool.false_eq_true, beq_self_eq_true, BEq.rfl, zCat1, zCat2, zCat3, zKdI, zKdL, zKdR, true_and, and_true, zSI, zSL, zSR, zu_at, and_self, and_false, false_and, lv_args, zKdZ, zKdO, zB01, zB11, Option.toList_none, Option.toList_some, List.nil_append, List.cons_append, true_or, or_true, zRow_rd, zu_rd, zo_iload_n, zo_icmp_ne, zo_aload_n, zo_iconst, zi_1, zcl_1, zKn_s, zKn_0, zFind, zr, he', zN10, zN01, not_true_eq_false, not_false_eq_true, false_implies, true_implies, implies_true, eq_self, nI_1, nI_40, nI_7, vz0, vz1, zb1_e0, zb1_n0]
          refine z_cV0 (M' := mX5_countKnot) (R' := rX5_countKnot) (i := 4) [] [] eX5_countKnot k5_204 (by decide +kernel : decode cX5_readJoint 103 = .ok (.invokevirtual 204, 3)) (Nat.le_of_ble_eq_true rfl) ⟨Nat.le_of_ble_eq_true rfl, Nat.le_of_ble_eq_true rfl, Nat.le_of_ble_eq_true rfl, Nat.le_of_ble_eq_true rfl, Nat.le_of_ble_eq_true rfl⟩ rfl rfl rfl sh_4 ?_
          refine cl_countKnot hs (n := c) (by omega) q4 (fun h => ?_) (fun h => ?_)
          · rw [if_pos (by omega)] at hg'
            refine zBlkR (M := mX5_readJoint) (nL := 2) (rt := (Option.some .boolean)) (blk := bX5_readJoint_106) (T := [(128, bX5_readJoint_128)]) 1 hX5_readJoint_106 (zChks_cons hX5_readJoint_128 zChks_nil) rfl rfl rfl (Nat.le_of_ble_eq_true rfl) (Nat.le_of_ble_eq_true rfl) ?_
            simp (implicitDefEqProofs := false) only [bX5_readJoint_106, bX5_readJoint_128, zRun_cons, zRun_nil, zLk, zSto, zIns, zFil, zf0, zf1, zf2, zf3, List.filter_cons, List.filter_nil, Nat.reduceAdd, Nat.reduceEqDiff, Nat.reduceLT, Nat.reduceLeDiff, Nat.reduceBEq, Nat.reduceBNe, reduceIte, if_true, if_false, Bool.false_and, Bool.true_and, Bool.and_true, Bool.and_false, Bool.not_false, Bool.not_true, Bool.false_eq_true, beq_self_eq_true, BEq.rfl, zCat1, zCat2, zCat3, zKdI, zKdL, zKdR, true_and, and_true, zSI, zSL, zSR, zu_at, and_self, and_false, false_and, lv_args, zKdZ, zKdO, zB01, zB11, Option.toList_none, Option.toList_some, List.nil_append, List.cons_append, true_or, or_true, zRow_rd, zu_rd, zo_if_eq, zo_aload_n, zo_getfield, zo_iload_n, zo_iconst, zo_ireturn, zi_0, zKd_5_0, zKd_7_6, sh_4, rf_4_0, sh_1, zcl_0, zRt, zKn_s, zKn_0, zFind, zN10, zN01, not_true_eq_false, not_false_eq_true, false_implies, true_implies, implies_true, eq_self, nI_1, nI_40, nI_7, vz0, vz1, zb1_e0, zb1_n0]
            exact hF _ _ hg' (((k1.mono (fun i k h => SFc_s h)).u (by unfold SPs; omega)).u (by unfold SPs; omega)) (by simp [zu_at]; rfl) (by simp [zu_at])
          · rw [if_neg (by omega)] at hg'
            refine zBlkR (M := mX5_readJoint) (nL := 2) (rt := (Option.some .boolean)) (blk := bX5_readJoint_106) (T := [(128, bX5_readJoint_128)]) 1 hX5_readJoint_106 (zChks_cons hX5_readJoint_128 zChks_nil) rfl rfl rfl (Nat.le_of_ble_eq_true rfl) (Nat.le_of_ble_eq_true rfl) ?_
            simp (implicitDefEqProofs := false) only [bX5_readJoint_106, bX5_readJoint_128, zRun_cons, zRun_nil, zLk, zSto, zIns, zFil, zf0, zf1, zf2, zf3, List.filter_cons, List.filter_nil, Nat.reduceAdd, Nat.reduceEqDiff, Nat.reduceLT, Nat.reduceLeDiff, Nat.reduceBEq, Nat.reduceBNe, reduceIte, if_true, if_false, Bool.false_and, Bool.true_and, Bool.and_true, Bool.and_false, Bool.not_false, Bool.not_true, Bool.false_eq_true, beq_self_eq_true, BEq.rfl, zCat1, zCat2, zCat3, zKdI, zKdL, zKdR, true_and, and_true, zSI, zSL, zSR, zu_at, and_self, and_false, false_and, lv_args, zKdZ, zKdO, zB01, zB11, Option.toList_none, Option.toList_some, List.nil_append, List.cons_append, true_or, or_true, zRow_rd, zu_rd, zo_if_eq, zo_aload_n, zo_getfield, zo_iload_n, zo_iconst, zo_ireturn, zi_0, zKd_5_0, zKd_7_6, sh_4, rf_4_0, sh_1, zcl_0, zRt, zKn_s, zKn_0, zFind, zTs_12, zTs_13, zTs_14, zTs_15, zTs_16, zTs_17, zTs_o, zTs_u, zN10, zN01, not_true_eq_false, not_false_eq_true, false_implies, true_implies, implies_true, eq_self, nI_1, nI_40, nI_7, vz0, vz1, zb1_e0, zb1_n0]
            refine z_cV0 (M' := mX5_push) (R' := rX5_push) (i := 4) [.int (nI t.2.2.1), .int (nI (rkN (opN t.2.2.1)))] [] eX5_push k5_217 (by decide +kernel : decode cX5_readJoint 118 = .ok (.invokevirtual 217, 3)) (Nat.le_of_ble_eq_true rfl) ⟨Nat.le_of_ble_eq_true rfl, Nat.le_of_ble_eq_true rfl, Nat.le_of_ble_eq_true rfl, Nat.le_of_ble_eq_true rfl, Nat.le_of_ble_eq_true rfl⟩ rfl rfl rfl sh_4 ?_
            have hlv := len_bn v
            have h3v := hB.2.2.1
            have h1v := hB.1
            simp only at h3v h1v
            refine cl_push (n := v.length) (by omega) (by rw [zu_at, if_neg (by omega)]; exact q1) ?_
            refine zBlkR (M := mX5_readJoint) (nL := 2) (rt := (Option.some .boolean)) (blk := bX5_readJoint_121) (T := [(128, bX5_readJoint_128), (129, bX5_readJoint_129)]) 1 hX5_readJoint_121 (zChks_cons hX5_readJoint_128 (zChks_cons hX5_readJoint_129 zChks_nil)) rfl rfl rfl (Nat.le_of_ble_eq_true rfl) (Nat.le_of_ble_eq_true rfl) ?_
            simp (implicitDefEqProofs := false) only [bX5_readJoint_121, bX5_readJoint_128, bX5_readJoint_129, zRun_cons, zRun_nil, zLk, zSto, zIns, zFil, zf0, zf1, zf2, zf3, List.filter_cons, List.filter_nil, Nat.reduceAdd, Nat.reduceEqDiff, Nat.reduceLT, Nat.reduceLeDiff, Nat.reduceBEq, Nat.reduceBNe, reduceIte, if_true, if_false, Bool.false_and, Bool.true_and, Bool.and_true, Bool.and_false, Bool.not_false, Bool.not_true, Bool.false_eq_true, beq_self_eq_true, BEq.rfl, zCat1, zCat2, zCat3, zKdI, zKdL, zKdR, true_and, and_true, zSI, zSL, zSR, zu_at, and_self, and_false, false_and, lv_args, zKdZ, zKdO, zB01, zB11, Option.toList_none, Option.toList_some, List.nil_append, List.cons_append, true_or, or_true, zRow_rd, zu_rd, zo_if_eq, zo_iconst, zo_goto, zo_ireturn, zi_1, zi_0, zcl_1, zcl_0, zRt, zKn_s, zKn_0, zFind, zN10, zN01, not_true_eq_false, not_false_eq_true, false_implies, true_implies, implies_true, eq_self, nI_1, nI_40, nI_7, vz0, vz1, zb1_e0, zb1_n0]
            have hp := zFc_push (k := opN t.2.2.1) (m := c + 1) hs (by omega) hJ1
            rw [cJt_op ho] at hp
            rw [← hcc] at hg'
            exact hG _ _ _ hg' ((((k1.u (by unfold SFc; omega)).u (by unfold SFc; omega)).u (by unfold SFc; omega)).u (by unfold SFc; omega)) hp
      by_cases r4 : rkN (opN t.2.2.1) = 4
      · have r4' : (rkN (opN t.2.2.1) = 4) = True := eq_true r4
        have ef : fLv (opN t.2.2.1) - 1 = rkN (opN t.2.2.1) := by unfold fLv; rw [if_pos r4]; omega
        rw [ef] at fin
        refine zBlkR (M := mX5_readJoint) (nL := 2) (rt := (Option.some .boolean)) (blk := bX5_readJoint_60) (T := [(72, bX5_readJoint_72), (82, bX5_readJoint_82)]) 2 hX5_readJoint_60 (zChks_cons hX5_readJoint_72 (zChks_cons hX5_readJoint_82 zChks_nil)) rfl rfl rfl (Nat.le_of_ble_eq_true rfl) (Nat.le_of_ble_eq_true rfl) ?_
        simp (implicitDefEqProofs := false) only [bX5_readJoint_60, bX5_readJoint_72, bX5_readJoint_82, zRun_cons, zRun_nil, zLk, zSto, zIns, zFil, zf0, zf1, zf2, zf3, List.filter_cons, List.filter_nil, Nat.reduceAdd, Nat.reduceEqDiff, Nat.reduceLT, Nat.reduceLeDiff, Nat.reduceBEq, Nat.reduceBNe, reduceIte, if_true, if_false, Bool.false_and, Bool.true_and, Bool.and_true, Bool.and_false, Bool.not_false, Bool.not_true, Bool.false_eq_true, beq_self_eq_true, BEq.rfl, zCat1, zCat2, zCat3, zKdI, zKdL, zKdR, true_and, and_true, zSI, zSL, zSR, zu_at, and_self, and_false, false_and, lv_args, zKdZ, zKdO, zB01, zB11, Option.toList_none, Option.toList_some, List.nil_append, List.cons_append, true_or, or_true, zRow_rd, zu_rd, zo_istore_n, zo_iload_n, zo_iconst, zo_icmp_ne, zo_aload_n, zo_goto, zo_isub, zi_m1, zi_1, zi_4, zcl_1, zcl_4, zKn_s, zKn_0, zFind, m1, z4, r4', zN10, zN01, not_true_eq_false, not_false_eq_true, false_implies, true_implies, implies_true, eq_self, nI_1, nI_40, nI_7, vz0, vz1, zb1_e0, zb1_n0]
        exact fin
      · have r4' : (rkN (opN t.2.2.1) = 4) = False := eq_false r4
        have ef : nI (rkN (opN t.2.2.1)) - 1 = nI (fLv (opN t.2.2.1) - 1) := by
          unfold fLv; rw [if_neg r4]
          obtain ⟨q, hq⟩ : ∃ q, rkN (opN t.2.2.1) = q + 1 := ⟨rkN (opN t.2.2.1) - 1, by omega⟩
          rw [hq, ← nI_1, Int32.add_sub_cancel]; congr 1
        refine zBlkR (M := mX5_readJoint) (nL := 2) (rt := (Option.some .boolean)) (blk := bX5_readJoint_60) (T := [(72, bX5_readJoint_72), (82, bX5_readJoint_82)]) 2 hX5_readJoint_60 (zChks_cons hX5_readJoint_72 (zChks_cons hX5_readJoint_82 zChks_nil)) rfl rfl rfl (Nat.le_of_ble_eq_true rfl) (Nat.le_of_ble_eq_true rfl) ?_
        simp (implicitDefEqProofs := false) only [bX5_readJoint_60, bX5_readJoint_72, bX5_readJoint_82, zRun_cons, zRun_nil, zLk, zSto, zIns, zFil, zf0, zf1, zf2, zf3, List.filter_cons, List.filter_nil, Nat.reduceAdd, Nat.reduceEqDiff, Nat.reduceLT, Nat.reduceLeDiff, Nat.reduceBEq, Nat.reduceBNe, reduceIte, if_true, if_false, Bool.false_and, Bool.true_and, Bool.and_true, Bool.and_false, Bool.not_false, Bool.not_true, Bool.false_eq_true, beq_self_eq_true, BEq.rfl, zCat1, zCat2, zCat3, zKdI, zKdL, zKdR, true_and, and_true, zSI, zSL, zSR, zu_at, and_self, and_false, false_and, lv_args, zKdZ, zKdO, zB01, zB11, Option.toList_none, Option.toList_some, List.nil_append, List.cons_append, true_or, or_true, zRow_rd, zu_rd, zo_istore_n, zo_iload_n, zo_iconst, zo_icmp_ne, zo_aload_n, zo_goto, zo_isub, zi_m1, zi_1, zi_4, zcl_1, zcl_4, zKn_s, zKn_0, zFind, m1, z4, r4', ef, zN10, zN01, not_true_eq_false, not_false_eq_true, false_implies, true_implies, implies_true, eq_self, nI_1, nI_40, nI_7, vz0, vz1, zb1_e0, zb1_n0]
        exact fin
  by_cases h6 : t.2.2.1 = 6
  · have h6' : (t.2.2.1 = 6) = True := eq_true h6
    by_cases hb : brk ws ≤ 0
    · have hb' : (brk ws ≤ 0) = True := eq_true hb
      have key := go50 (fun q => by omega)
      refine zBlkR (M := mX5_readJoint) (nL := 2) (rt := (Option.some .boolean)) (blk := bX5_readJoint_0) (T := []) 0 hX5_readJoint_0 zChks_nil rfl rfl rfl (Nat.le_of_ble_eq_true rfl) (Nat.le_of_ble_eq_true rfl) ?_
      simp (implicitDefEqProofs := false) only [bX5_readJoint_0, zRun_cons, zRun_nil, zLk, zSto, zIns, zFil, zf0, zf1, zf2, zf3, List.filter_cons, List.filter_nil, Nat.reduceAdd, Nat.reduceEqDiff, Nat.reduceLT, Nat.reduceLeDiff, Nat.reduceBEq, Nat.reduceBNe, reduceIte, if_true, if_false, Bool.false_and, Bool.true_and, Bool.and_true, Bool.and_false, Bool.not_false, Bool.not_true, Bool.false_eq_true, beq_self_eq_true, BEq.rfl, zCat1, zCat2, zCat3, zKdI, zKdL, zKdR, true_and, and_true, zSI, zSL, zSR, zu_at, and_self, and_false, false_and, lv_args, zKdZ, zKdO, zB01, zB11, Option.toList_none, Option.toList_some, List.nil_append, List.cons_append, true_or, or_true, zRow_rd, zu_rd, zo_aload_n, zo_getfield, zo_bipush, zo_icmp_ne, zo_if_le, zo_iconst, zb_6, zi_0, zKd_5_0, zKd_7_6, zKd_5_5, sh_4, rf_4_0, sh_1, zcl_6, zcl_0, zKn_0, zTs_12, zTs_13, zTs_14, zTs_15, zTs_16, zTs_17, zTs_o, zTs_u, y6, h6', j2, z0, hb', zN10, zN01, not_true_eq_false, not_false_eq_true, false_implies, true_implies, implies_true, eq_self, nI_1, nI_40, nI_7, vz0, vz1, zb1_e0, zb1_n0]
      exact key
    · have hb' : (brk ws ≤ 0) = False := eq_false hb
      clear go50
      rw [if_pos ⟨h6, by omega⟩] at hg
      refine zBlkR (M := mX5_readJoint) (nL := 2) (rt := (Option.some .boolean)) (blk := bX5_readJoint_0) (T := []) 0 hX5_readJoint_0 zChks_nil rfl rfl rfl (Nat.le_of_ble_eq_true rfl) (Nat.le_of_ble_eq_true rfl) ?_
      simp (implicitDefEqProofs := false) only [bX5_readJoint_0, zRun_cons, zRun_nil, zLk, zSto, zIns, zFil, zf0, zf1, zf2, zf3, List.filter_cons, List.filter_nil, Nat.reduceAdd, Nat.reduceEqDiff, Nat.reduceLT, Nat.reduceLeDiff, Nat.reduceBEq, Nat.reduceBNe, reduceIte, if_true, if_false, Bool.false_and, Bool.true_and, Bool.and_true, Bool.and_false, Bool.not_false, Bool.not_true, Bool.false_eq_true, beq_self_eq_true, BEq.rfl, zCat1, zCat2, zCat3, zKdI, zKdL, zKdR, true_and, and_true, zSI, zSL, zSR, zu_at, and_self, and_false, false_and, lv_args, zKdZ, zKdO, zB01, zB11, Option.toList_none, Option.toList_some, List.nil_append, List.cons_append, true_or, or_true, zRow_rd, zu_rd, zo_aload_n, zo_getfield, zo_bipush, zo_icmp_ne, zo_if_le, zo_iconst, zb_6, zi_0, zKd_5_0, zKd_7_6, zKd_5_5, sh_4, rf_4_0, sh_1, zcl_6, zcl_0, zKn_0, zTs_12, zTs_13, zTs_14, zTs_15, zTs_16, zTs_17, zTs_o, zTs_u, y6, h6', j2, z0, hb', zN10, zN01, not_true_eq_false, not_false_eq_true, false_implies, true_implies, implies_true, eq_self, nI_1, nI_40, nI_7, vz0, vz1, zb1_e0, zb1_n0]
      refine z_cV0 (M' := mX5_writeJoints) (R' := rX5_writeJoints) (i := 4) [.int (nI (1 - 1))] [] eX5_writeJoints k5_198 (by decide +kernel : decode cX5_readJoint 21 = .ok (.invokevirtual 198, 3)) (Nat.le_of_ble_eq_true rfl) ⟨Nat.le_of_ble_eq_true rfl, Nat.le_of_ble_eq_true rfl, Nat.le_of_ble_eq_true rfl, Nat.le_of_ble_eq_true rfl, Nat.le_of_ble_eq_true rfl⟩ rfl rfl rfl sh_4 ?_
      refine cl_wrJ (l := 1) hs (by omega) (by omega) hS hJ (fun J1 k1 hJ1 => ?_)
      obtain ⟨v, ev⟩ := fBind_br (X := X) (ws := ws) (by omega) hS.2.2.2.2.2.2.1
      have ebr := fBind_brk (l := 1) (by omega) ws X
      have hB := fBind_ok (l := 1) (by omega) ws X hS
      generalize fBind 1 ws X = B at hJ1 ev ebr hB hg
      obtain ⟨v0, Y⟩ := B
      simp only at ev
      subst ev
      simp only [brk, if_true] at ebr
      have q1 : J1 4 4 = nI (v.length + 1) := hJ1.1
      have q2 : J1 4 5 = nI (brk v + 1) := hJ1.2.1
      have e1 : nI (brk v + 1) - 1 = nI (brk v) := by rw [← nI_1, Int32.add_sub_cancel]
      have e2 : nI (v.length + 1) - 1 = nI v.length := by rw [← nI_1, Int32.add_sub_cancel]
      have lv := (FOk_len hB).1
      simp only [List.length_cons] at lv
      refine zBlkR (M := mX5_readJoint) (nL := 2) (rt := (Option.some .boolean)) (blk := bX5_readJoint_24) (T := []) 0 hX5_readJoint_24 zChks_nil rfl rfl rfl (Nat.le_of_ble_eq_true rfl) (Nat.le_of_ble_eq_true rfl) ?_
      simp (implicitDefEqProofs := false) only [bX5_readJoint_24, zRun_cons, zRun_nil, zLk, zSto, zIns, zFil, zf0, zf1, zf2, zf3, List.filter_cons, List.filter_nil, Nat.reduceAdd, Nat.reduceEqDiff, Nat.reduceLT, Nat.reduceLeDiff, Nat.reduceBEq, Nat.reduceBNe, reduceIte, if_true, if_false, Bool.false_and, Bool.true_and, Bool.and_true, Bool.and_false, Bool.not_false, Bool.not_true, Bool.false_eq_true, beq_self_eq_true, BEq.rfl, zCat1, zCat2, zCat3, zKdI, zKdL, zKdR, true_and, and_true, zSI, zSL, zSR, zu_at, and_self, and_false, false_and, lv_args, zKdZ, zKdO, zB01, zB11, Option.toList_none, Option.toList_some, List.nil_append, List.cons_append, true_or, or_true, zRow_rd, zu_rd, zo_aload_n, zo_dup, zo_getfield, zo_iconst, zo_isub, zo_putfield, zo_putfield_2, zo_putfield_3, zi_1, zi_0, zKd_5_5, zTy_5_5, zKd_5_4, sh_4, zcl_1, zcl_0, zPutC, zKn_0, zTs_12, zTs_13, zTs_14, zTs_15, zTs_16, zTs_17, zTs_o, zTs_u, q1, q2, e1, e2, zN10, zN01, not_true_eq_false, not_false_eq_true, false_implies, true_implies, implies_true, eq_self, nI_1, nI_40, nI_7, vz0, vz1, zb1_e0, zb1_n0]
      refine z_cS0 (M' := mJ9_max_7cf53) (R' := rJ9_max_7cf53) [.int 0, .int (nI v.length)] [.ref 4] eJ9_max_7cf53 k5_220 (by decide +kernel : decode cX5_readJoint 42 = .ok (.invokestatic 220, 3)) (Nat.le_of_ble_eq_true rfl) ⟨Nat.le_of_ble_eq_true rfl, Nat.le_of_ble_eq_true rfl, Nat.le_of_ble_eq_true rfl, Nat.le_of_ble_eq_true rfl, Nat.le_of_ble_eq_true rfl⟩ rfl rfl rfl ?_
      refine sp_max ?_
      have em : (if (0 : Int32) < nI v.length then nI v.length else 0) = nI v.length := by
        by_cases g : 0 < v.length
        · rw [if_pos (by rw [show (0 : Int32) = nI 0 from rfl, zlt_nat (by omega) (by omega)]; exact g)]
        · have g0 : v.length = 0 := by omega
          rw [g0]; rfl
      rw [em]
      refine zBlkR (M := mX5_readJoint) (nL := 2) (rt := (Option.some .boolean)) (blk := bX5_readJoint_45) (T := []) 0 hX5_readJoint_45 zChks_nil rfl rfl rfl (Nat.le_of_ble_eq_true rfl) (Nat.le_of_ble_eq_true rfl) ?_
      simp (implicitDefEqProofs := false) only [bX5_readJoint_45, zRun_cons, zRun_nil, zLk, zSto, zIns, zFil, zf0, zf1, zf2, zf3, List.filter_cons, List.filter_nil, Nat.reduceAdd, Nat.reduceEqDiff, Nat.reduceLT, Nat.reduceLeDiff, Nat.reduceBEq, Nat.reduceBNe, reduceIte, if_true, if_false, Bool.false_and, Bool.true_and, Bool.and_true, Bool.and_false, Bool.not_false, Bool.not_true, Bool.false_eq_true, beq_self_eq_true, BEq.rfl, zCat1, zCat2, zCat3, zKdI, zKdL, zKdR, true_and, and_true, zSI, zSL, zSR, zu_at, and_self, and_false, false_and, lv_args, zKdZ, zKdO, zB01, zB11, Option.toList_none, Option.toList_some, List.nil_append, List.cons_append, true_or, or_true, zRow_rd, zu_rd, zo_putfield, zo_putfield_2, zo_putfield_3, zo_iconst, zo_ireturn, zi_1, zKd_5_4, zTy_5_4, sh_4, zcl_1, zRt, zPutC, zKn_0, zTs_12, zTs_13, zTs_14, zTs_15, zTs_16, zTs_17, zTs_o, zTs_u, zN10, zN01, not_true_eq_false, not_false_eq_true, false_implies, true_implies, implies_true, eq_self, nI_1, nI_40, nI_7, vz0, vz1, zb1_e0, zb1_n0]
      exact hG _ _ _ hg ((k1.u (by unfold SFc; omega)).u (by unfold SFc; omega)) (zFc_tail hs hJ1)
  · have h6' : (t.2.2.1 = 6) = False := eq_false h6
    have key := go50 (fun q => h6 q.1)
    refine zBlkR (M := mX5_readJoint) (nL := 2) (rt := (Option.some .boolean)) (blk := bX5_readJoint_0) (T := []) 0 hX5_readJoint_0 zChks_nil rfl rfl rfl (Nat.le_of_ble_eq_true rfl) (Nat.le_of_ble_eq_true rfl) ?_
    simp (implicitDefEqProofs := false) only [bX5_readJoint_0, zRun_cons, zRun_nil, zLk, zSto, zIns, zFil, zf0, zf1, zf2, zf3, List.filter_cons, List.filter_nil, Nat.reduceAdd, Nat.reduceEqDiff, Nat.reduceLT, Nat.reduceLeDiff, Nat.reduceBEq, Nat.reduceBNe, reduceIte, if_true, if_false, Bool.false_and, Bool.true_and, Bool.and_true, Bool.and_false, Bool.not_false, Bool.not_true, Bool.false_eq_true, beq_self_eq_true, BEq.rfl, zCat1, zCat2, zCat3, zKdI, zKdL, zKdR, true_and, and_true, zSI, zSL, zSR, zu_at, and_self, and_false, false_and, lv_args, zKdZ, zKdO, zB01, zB11, Option.toList_none, Option.toList_some, List.nil_append, List.cons_append, true_or, or_true, zRow_rd, zu_rd, zo_aload_n, zo_getfield, zo_bipush, zo_icmp_ne, zo_if_le, zo_iconst, zb_6, zi_0, zKd_5_0, zKd_7_6, zKd_5_5, sh_4, rf_4_0, sh_1, zcl_6, zcl_0, zKn_0, zTs_12, zTs_13, zTs_14, zTs_15, zTs_16, zTs_17, zTs_o, zTs_u, y6, h6', zN10, zN01, not_true_eq_false, not_false_eq_true, false_implies, true_implies, implies_true, eq_self, nI_1, nI_40, nI_7, vz0, vz1, zb1_e0, zb1_n0]
    exact key
end ZN98zb
