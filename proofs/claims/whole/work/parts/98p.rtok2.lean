/-! ===== TOKENS: the reference's token, whole ===== -/
section ZN98p
variable {w : zP} {Q : Option Value → zMem → Prop} {μ : zMem} {I J : Nat → Nat → Int32} {L K : Nat → Nat → Int64} {p s : Nat} {r : Option Nat} {a b c i j k n e m sp : Nat} {x y v kd wh : Int32} {T : Nat → Nat} {W : Nat → Int32} {f g : Nat → Nat}
theorem cW_in : ∀ i, i < 27 → cWp i = mWp (cPm i) ∧ cPm i < 27 ∧ cIv (cPm i) = i ∧ rWh (20 + i) = cPm i := by decide +kernel
theorem mW_in : ∀ i, i < 27 → mWp i = cWp (cIv i) ∧ cIv i < 27 ∧ cPm (cIv i) = i ∧ rWh (20 + cIv i) = i := by decide +kernel
theorem cW_d : ∀ i, i < 27 → ∀ j, j < 27 → cWp i = cWp j → i = j := by decide +kernel
theorem mW_d : ∀ i, i < 27 → ∀ j, j < 27 → mWp i = mWp j → i = j := by decide +kernel
theorem cW_lt : ∀ i, i < 27 → cWp i < 2 ^ 31 := by decide +kernel
/-- the class's kind of a word of at most six letters, beside the reference's word -/
theorem word_rel {x : Nat} (hx : x < 2 ^ 31) (hW : ∀ i, i < 27 → W i = nI (cWp i)) (hm : ∀ k, k < 27 → mEq T i j k = decide (x = mWp k)) : (mWk T i j < 27 ∧ oWk W (nI x) < 47 ∧ 20 ≤ oWk W (nI x) ∧ rWh (oWk W (nI x)) = mWk T i j) ∨ (mWk T i j = 27 ∧ oWk W (nI x) = 3) := by
  by_cases h : mWk T i j < 27
  · left
    have h1 : mEq T i j (mWk T i j) = true := zFst_lt h
    rw [hm _ h, decide_eq_true_iff] at h1
    obtain ⟨g1, g2, g3, g4⟩ := mW_in _ h
    have hf : zFst (fun k => W k == nI x) 27 = cIv (mWk T i j) := by
      refine zFst_eq g2 ?_ (fun d hd => ?_)
      · show (W (cIv (mWk T i j)) == nI x) = true
        rw [hW _ g2, ← g1, ← h1]; simp
      · show (W d == nI x) = false
        rw [hW d (by omega)]
        rw [beq_eq_false_iff_ne]
        intro q
        have q2 := (nI_eq (cW_lt d (by omega)) hx).mp q
        rw [h1, g1] at q2
        have := cW_d d (by omega) _ g2 q2
        omega
    refine ⟨h, ?_⟩
    unfold oWk
    rw [hf, if_pos g2]
    exact ⟨by omega, by omega, g4⟩
  · right
    have hle : mWk T i j ≤ 27 := zFst_le _ _
    refine ⟨by omega, ?_⟩
    unfold oWk
    rw [if_neg]
    intro q
    have q1 := zFst_lt q
    have q2 : (W (zFst (fun k => W k == nI x) 27) == nI x) = true := q1
    generalize zFst (fun k => W k == nI x) 27 = d at q q2
    rw [hW d q, beq_iff_eq, nI_eq (cW_lt d q) hx] at q2
    obtain ⟨g1, g2, g3, g4⟩ := cW_in d q
    have : mEq T i j (cPm d) = true := by rw [hm _ g2, ← g1, q2]; simp
    have h2 : zFst (mEq T i j) 27 ≤ cPm d := by
      rcases Nat.lt_or_ge (cPm d) (zFst (mEq T i j) 27) with z | z
      · have z2 := zFst_no z
        rw [z2] at this
        cases this
      · exact z
    have : mWk T i j ≤ cPm d := h2
    omega
theorem mWk_long (h : 6 < j - i) : mWk T i j = 27 := by
  refine zFst_none (fun d hd => ?_)
  unfold mEq
  have := (mW_f d hd).2.2.1
  rw [decide_eq_false (by omega)]; rfl
set_option maxRecDepth 20000 in
theorem mo_tkWord (h6 : I 87 6 = nI e) (h10 : I 87 10 = nI sp) (hs : sp < e) (he : e ≤ 700) (hw : ∀ k, k < 136 → I 89 k = nI (mWa k)) (ht : ∀ k, k < e → I 88 k = nI (T k) ∧ T k < 256) (hW : ∀ i, i < 27 → W i = nI (cWp i)) (hQ : ∀ I', zKpt SRj I I' → I' 87 10 = nI sp → I' 87 7 = nI (oWr T (e - sp) sp 0 0).1 → tRel (if (oWr T (e - sp) sp 0 0).2.1 ≤ 6 then oWk W (oWr T (e - sp) sp 0 0).2.2 else 1) (oWr T (e - sp) sp 0 0).2.2 (I' 87 8) (I' 87 9) → Q none (SH, I', L, RF p s r)) : ∀ m, m ≤ oLn T (e - sp) sp → ∀ J, zKpt SRj I J → J 87 10 = nI sp → J 87 7 = nI (sp + m) → zX w mX10_token rX10_token Q 0 0 90 [(0, Value.ref 87)] [] (SH, J, L, RF p s r) := by
  have hM := oLn_le (T := T) (e - sp) sp
  obtain ⟨w1, w2⟩ := oWr_1 (T := T) (e - sp) sp 0 0
  intro m hm
  refine zLoop (n := oLn T (e - sp) sp) (P := fun m => ∀ J, zKpt SRj I J → J 87 10 = nI sp → J 87 7 = nI (sp + m) → zX w mX10_token rX10_token Q 0 0 90 [(0, Value.ref 87)] [] (SH, J, L, RF p s r)) (fun m hm ih => ?_) m hm
  intro J kJ j10 j7
  have j6 : J 87 6 = nI e := by rw [kJ 87 6 (by unfold SRj; omega)]; exact h6
  have jt : ∀ k, k < e → J 88 k = nI (T k) ∧ T k < 256 := fun k hk => by rw [kJ 88 k (by unfold SRj; omega)]; exact ht k hk
  refine zBlkR (M := mX10_token) (nL := 1) (rt := (Option.none : Option Jvm.ClassFile.FieldType)) (blk := bX10_token_90) (T := []) 0 hX10_token_90 zChks_nil rfl rfl rfl (Nat.le_of_ble_eq_true rfl) (Nat.le_of_ble_eq_true rfl) ?_
  simp (implicitDefEqProofs := false) only [bX10_token_90, zRun_cons, zRun_nil, zLk, zSto, zIns, zFil, zf0, zf1, zf2, zf3, List.filter_cons, List.filter_nil, Nat.reduceAdd, Nat.reduceEqDiff, Nat.reduceLT, Nat.reduceLeDiff, Nat.reduceBEq, Nat.reduceBNe, reduceIte, if_true, if_false, Bool.false_and, Bool.true_and, Bool.and_true, Bool.and_false, Bool.not_false, Bool.not_true, Bool.false_eq_true, beq_self_eq_true, BEq.rfl, zCat1, zCat2, zCat3, zKdI, zKdL, zKdR, true_and, and_true, zSI, zSL, zSR, zu_at, and_self, and_false, false_and, lv_args, zKdZ, zKdO, zB01, zB11, Option.toList_none, Option.toList_some, List.nil_append, List.cons_append, true_or, or_true, zRow_rd, zu_rd, zo_aload_n, zo_getfield, zKd_10_7, sh_87, zKn_0, j7, zN10, zN01, not_true_eq_false, not_false_eq_true, false_implies, true_implies, implies_true, eq_self, nI_1, nI_40, nI_7, vz0, vz1, zb1_e0, zb1_n0]
  refine z_cV0 (M' := mX10_isSmall) (R' := rX10_isSmall) (i := 87) [.int (nI (sp + m))] [] eX10_isSmall k10_199 (by decide +kernel : decode cX10_token 95 = .ok (.invokevirtual 199, 3)) (Nat.le_of_ble_eq_true rfl) ⟨Nat.le_of_ble_eq_true rfl, Nat.le_of_ble_eq_true rfl, Nat.le_of_ble_eq_true rfl, Nat.le_of_ble_eq_true rfl, Nat.le_of_ble_eq_true rfl⟩ rfl rfl rfl sh_87 ?_
  refine mo_isSmallN (T := T) j6 he (by omega) jt ?_
  by_cases hme : m = oLn T (e - sp) sp
  · have hno : (decide (sp + m < e) && oLet (T (sp + m))) = false := by
      by_cases q : sp + m < e
      · have := oLn_end (T := T) (e - sp) sp (by omega)
        rw [hme, this, Bool.and_false]
      · rw [decide_eq_false q]; rfl
    rw [hno]
    refine zBlkR (M := mX10_token) (nL := 1) (rt := (Option.none : Option Jvm.ClassFile.FieldType)) (blk := bX10_token_98) (T := [(114, bX10_token_114)]) 1 hX10_token_98 (zChks_cons hX10_token_114 zChks_nil) rfl rfl rfl (Nat.le_of_ble_eq_true rfl) (Nat.le_of_ble_eq_true rfl) ?_
    simp (implicitDefEqProofs := false) only [bX10_token_98, bX10_token_114, zRun_cons, zRun_nil, zLk, zSto, zIns, zFil, zf0, zf1, zf2, zf3, List.filter_cons, List.filter_nil, Nat.reduceAdd, Nat.reduceEqDiff, Nat.reduceLT, Nat.reduceLeDiff, Nat.reduceBEq, Nat.reduceBNe, reduceIte, if_true, if_false, Bool.false_and, Bool.true_and, Bool.and_true, Bool.and_false, Bool.not_false, Bool.not_true, Bool.false_eq_true, beq_self_eq_true, BEq.rfl, zCat1, zCat2, zCat3, zKdI, zKdL, zKdR, true_and, and_true, zSI, zSL, zSR, zu_at, and_self, and_false, false_and, lv_args, zKdZ, zKdO, zB01, zB11, Option.toList_none, Option.toList_some, List.nil_append, List.cons_append, true_or, or_true, zRow_rd, zu_rd, zo_if_eq, zo_aload_n, zo_dup, zo_getfield, zo_iconst, zo_iadd, zo_putfield, zo_putfield_2, zo_putfield_3, zo_goto, zi_1, zKd_10_7, zTy_10_7, zKd_10_10, sh_87, zcl_1, zPutC, zKn_s, zKn_0, zFind, zb1_f, j7, j10, zN10, zN01, not_true_eq_false, not_false_eq_true, false_implies, true_implies, implies_true, eq_self, nI_1, nI_40, nI_7, vz0, vz1, zb1_e0, zb1_n0]
    refine z_cV0 (M' := mX10_wordAt) (R' := rX10_wordAt) (i := 87) [.int (nI sp), .int (nI (sp + m))] [.ref 87] eX10_wordAt k10_203 (by decide +kernel : decode cX10_token 124 = .ok (.invokevirtual 203, 3)) (Nat.le_of_ble_eq_true rfl) ⟨Nat.le_of_ble_eq_true rfl, Nat.le_of_ble_eq_true rfl, Nat.le_of_ble_eq_true rfl, Nat.le_of_ble_eq_true rfl, Nat.le_of_ble_eq_true rfl⟩ rfl rfl rfl sh_87 ?_
    have jw : ∀ k, k < 136 → J 89 k = nI (mWa k) := fun k hk => by rw [kJ 89 k (by unfold SRj; omega)]; exact hw k hk
    refine mo_wordAt (T := T) (by omega) (by omega) jw (fun k hk => jt k (by omega)) ?_
    rw [← hme, Nat.zero_add] at w2
    rw [← hme] at w1
    have hlet : ∀ d, sp ≤ d → d < sp + m → oLet (T d) = true := fun d h1 h2 => by
      have := oLn_let (T := T) (e - sp) sp (d - sp) (by omega)
      rw [show sp + (d - sp) = d by omega] at this; exact this
    have esub : nI (sp + m) - nI sp = nI m := by rw [Nat.add_comm, ← nI_add, Int32.add_sub_cancel]
    by_cases h6m : m ≤ 6
    · -- at most six letters
      have hpk := oWr_pk (T := T) (n := e - sp) (i := sp) (by omega)
      rw [← hme] at hpk
      have hlf : ∀ k, oLf T sp (sp + m) k < 32 := fun k => by
        unfold oLf; split
        · have := oLet_lo (hlet (sp + k) (by omega) (by omega)); omega
        · omega
      have hxl : pkW (oLf T sp (sp + m)) 6 < 2 ^ 31 := Nat.lt_trans (pkW_lt hlf 6) (by decide)
      have hrel := word_rel (W := W) (T := T) (i := sp) (j := sp + m) hxl hW (fun k hk => mEq_pk hk (by omega) hlet (by omega))
      rw [w2, if_pos h6m, w1, hpk] at hQ
      rcases hrel with ⟨r1, r2, r3, r4⟩ | ⟨r1, r2⟩
      · -- a word of the language
        have e1 : mWi (mWk T sp (sp + m)) = nI (mWk T sp (sp + m)) := by unfold mWi; rw [if_pos r1]
        have x1 : (nI (mWk T sp (sp + m)) < 0) = False := eq_false (nI_nn (by omega))
        have x3 : ((1 : Int32) = 2) = False := eq_false (by decide)
        rw [e1]
        refine zBlkR (M := mX10_token) (nL := 1) (rt := (Option.none : Option Jvm.ClassFile.FieldType)) (blk := bX10_token_127) (T := [(142, bX10_token_142), (161, bX10_token_161), (162, bX10_token_162), (281, bX10_token_281)]) 3 hX10_token_127 (zChks_cons hX10_token_142 (zChks_cons hX10_token_161 (zChks_cons hX10_token_162 (zChks_cons hX10_token_281 zChks_nil)))) rfl rfl rfl (Nat.le_of_ble_eq_true rfl) (Nat.le_of_ble_eq_true rfl) ?_
        simp (implicitDefEqProofs := false) only [bX10_token_127, bX10_token_142, bX10_token_161, bX10_token_162, bX10_token_281, zRun_cons, zRun_nil, zLk, zSto, zIns, zFil, zf0, zf1, zf2, zf3, List.filter_cons, List.filter_nil, Nat.reduceAdd, Nat.reduceEqDiff, Nat.reduceLT, Nat.reduceLeDiff, Nat.reduceBEq, Nat.reduceBNe, reduceIte, if_true, if_false, Bool.false_and, Bool.true_and, Bool.and_true, Bool.and_false, Bool.not_false, Bool.not_true, Bool.false_eq_true, beq_self_eq_true, BEq.rfl, zCat1, zCat2, zCat3, zKdI, zKdL, zKdR, true_and, and_true, zSI, zSL, zSR, zu_at, and_self, and_false, false_and, lv_args, zKdZ, zKdO, zB01, zB11, Option.toList_none, Option.toList_some, List.nil_append, List.cons_append, true_or, or_true, zRow_rd, zu_rd, zo_putfield, zo_putfield_2, zo_putfield_3, zo_aload_n, zo_getfield, zo_if_lt, zo_iconst, zo_goto, zo_isub, zo_bipush, zo_icmp_le, zo_icmp_ne, zo_return_, zi_1, zb_6, zi_2, zKd_10_9, zTy_10_9, zKd_10_7, zKd_10_10, zKd_10_8, zTy_10_8, sh_87, zcl_1, zcl_6, zcl_2, zPutC, zKn_s, zKn_0, zFind, x1, x3, zN10, zN01, not_true_eq_false, not_false_eq_true, false_implies, true_implies, implies_true, eq_self, nI_1, nI_40, nI_7, vz0, vz1, zb1_e0, zb1_n0]
        refine hQ _ ((kJ.u (by unfold SRj; omega)).u (by unfold SRj; omega)) (by simp [zu_at]; exact j10) (by simp [zu_at]; exact j7) ?_
        simp only [zu_at, Nat.reduceEqDiff, and_false, and_self, if_true, if_false]
        have r5 : rKd (oWk W (nI (pkW (oLf T sp (sp + m)) 6))) = 1 := by
          clear hQ
          generalize oWk W (nI (pkW (oLf T sp (sp + m)) 6)) = q at r2 r3 r4
          unfold rKd
          rw [if_neg (by omega), if_neg (by omega), if_neg (by omega), if_neg (by omega), if_neg (by omega), if_neg (by omega), if_neg (by omega)]
        unfold tRel
        refine ⟨r2, Or.inr ⟨?_, ?_, ?_, ?_⟩⟩
        · rw [r5]; rfl
        · intro h; omega
        · intro h; omega
        · intro _; rw [r4]
      · -- a name
        have e1 : mWi (mWk T sp (sp + m)) = -1 := by unfold mWi; rw [if_neg (by omega)]
        have x1 : ((-1 : Int32) < 0) = True := eq_true (by decide)
        have x2 : (nI m ≤ 6) = True := eq_true (by rw [show (6 : Int32) = nI 6 from rfl, zle_nat (by omega) (by omega)]; omega)
        rw [e1]
        refine zBlkR (M := mX10_token) (nL := 1) (rt := (Option.none : Option Jvm.ClassFile.FieldType)) (blk := bX10_token_127) (T := [(142, bX10_token_142), (161, bX10_token_161), (162, bX10_token_162), (281, bX10_token_281)]) 3 hX10_token_127 (zChks_cons hX10_token_142 (zChks_cons hX10_token_161 (zChks_cons hX10_token_162 (zChks_cons hX10_token_281 zChks_nil)))) rfl rfl rfl (Nat.le_of_ble_eq_true rfl) (Nat.le_of_ble_eq_true rfl) ?_
        simp (implicitDefEqProofs := false) only [bX10_token_127, bX10_token_142, bX10_token_161, bX10_token_162, bX10_token_281, zRun_cons, zRun_nil, zLk, zSto, zIns, zFil, zf0, zf1, zf2, zf3, List.filter_cons, List.filter_nil, Nat.reduceAdd, Nat.reduceEqDiff, Nat.reduceLT, Nat.reduceLeDiff, Nat.reduceBEq, Nat.reduceBNe, reduceIte, if_true, if_false, Bool.false_and, Bool.true_and, Bool.and_true, Bool.and_false, Bool.not_false, Bool.not_true, Bool.false_eq_true, beq_self_eq_true, BEq.rfl, zCat1, zCat2, zCat3, zKdI, zKdL, zKdR, true_and, and_true, zSI, zSL, zSR, zu_at, and_self, and_false, false_and, lv_args, zKdZ, zKdO, zB01, zB11, Option.toList_none, Option.toList_some, List.nil_append, List.cons_append, true_or, or_true, zRow_rd, zu_rd, zo_putfield, zo_putfield_2, zo_putfield_3, zo_aload_n, zo_getfield, zo_if_lt, zo_iconst, zo_goto, zo_isub, zo_bipush, zo_icmp_le, zo_icmp_ne, zo_return_, zi_1, zb_6, zi_2, zKd_10_9, zTy_10_9, zKd_10_7, zKd_10_10, zKd_10_8, zTy_10_8, sh_87, zcl_1, zcl_6, zcl_2, zPutC, zKn_s, zKn_0, zFind, x1, j7, j10, esub, x2, zN10, zN01, not_true_eq_false, not_false_eq_true, false_implies, true_implies, implies_true, eq_self, nI_1, nI_40, nI_7, vz0, vz1, zb1_e0, zb1_n0]
        have ju : ∀ k, k < sp + m → (zu (zu J 87 9 (-1)) 87 8 2) 88 k = nI (T k) := fun k hk => by rw [zu_at, if_neg (by omega), zu_at, if_neg (by omega)]; exact (jt k (by omega)).1
        refine z_cV0 (M' := mX10_packed) (R' := rX10_packed) (i := 87) [.int (nI sp), .int (nI (sp + m))] [.ref 87] eX10_packed k10_210 (by decide +kernel : decode cX10_token 183 = .ok (.invokevirtual 210, 3)) (Nat.le_of_ble_eq_true rfl) ⟨Nat.le_of_ble_eq_true rfl, Nat.le_of_ble_eq_true rfl, Nat.le_of_ble_eq_true rfl, Nat.le_of_ble_eq_true rfl, Nat.le_of_ble_eq_true rfl⟩ rfl rfl rfl sh_87 ?_
        refine mo_packed (T := T) (by omega) (by omega) ju ?_
        rw [oPck_pk hlet 6 (Nat.le_refl _)]
        refine zBlkR (M := mX10_token) (nL := 1) (rt := (Option.none : Option Jvm.ClassFile.FieldType)) (blk := bX10_token_186) (T := [(281, bX10_token_281)]) 1 hX10_token_186 (zChks_cons hX10_token_281 zChks_nil) rfl rfl rfl (Nat.le_of_ble_eq_true rfl) (Nat.le_of_ble_eq_true rfl) ?_
        simp (implicitDefEqProofs := false) only [bX10_token_186, bX10_token_281, zRun_cons, zRun_nil, zLk, zSto, zIns, zFil, zf0, zf1, zf2, zf3, List.filter_cons, List.filter_nil, Nat.reduceAdd, Nat.reduceEqDiff, Nat.reduceLT, Nat.reduceLeDiff, Nat.reduceBEq, Nat.reduceBNe, reduceIte, if_true, if_false, Bool.false_and, Bool.true_and, Bool.and_true, Bool.and_false, Bool.not_false, Bool.not_true, Bool.false_eq_true, beq_self_eq_true, BEq.rfl, zCat1, zCat2, zCat3, zKdI, zKdL, zKdR, true_and, and_true, zSI, zSL, zSR, zu_at, and_self, and_false, false_and, lv_args, zKdZ, zKdO, zB01, zB11, Option.toList_none, Option.toList_some, List.nil_append, List.cons_append, true_or, or_true, zRow_rd, zu_rd, zo_putfield, zo_putfield_2, zo_putfield_3, zo_goto, zo_return_, zKd_10_9, zTy_10_9, sh_87, zPutC, zKn_s, zKn_0, zFind, zN10, zN01, not_true_eq_false, not_false_eq_true, false_implies, true_implies, implies_true, eq_self, nI_1, nI_40, nI_7, vz0, vz1, zb1_e0, zb1_n0]
        refine hQ _ (((kJ.u (by unfold SRj; omega)).u (by unfold SRj; omega)).u (by unfold SRj; omega)) (by simp [zu_at]; exact j10) (by simp [zu_at]; exact j7) ?_
        simp only [zu_at, Nat.reduceEqDiff, and_false, and_self, if_true, if_false]
        rw [r2]
        exact ⟨by omega, Or.inr ⟨rfl, fun h => absurd h (by omega), fun _ => rfl, fun h => absurd h (by omega)⟩⟩
    · have r1 : mWk T sp (sp + m) = 27 := mWk_long (by omega)
      rw [w2, if_neg h6m, w1] at hQ
      have e1 : mWi (mWk T sp (sp + m)) = -1 := by unfold mWi; rw [if_neg (by omega)]
      have x1 : ((-1 : Int32) < 0) = True := eq_true (by decide)
      have x2 : (nI m ≤ 6) = False := eq_false (by rw [show (6 : Int32) = nI 6 from rfl, zle_nat (by omega) (by omega)]; omega)
      have x3 : ((6 : Int32) = 2) = False := eq_false (by decide)
      rw [e1]
      refine zBlkR (M := mX10_token) (nL := 1) (rt := (Option.none : Option Jvm.ClassFile.FieldType)) (blk := bX10_token_127) (T := [(142, bX10_token_142), (161, bX10_token_161), (162, bX10_token_162), (281, bX10_token_281)]) 3 hX10_token_127 (zChks_cons hX10_token_142 (zChks_cons hX10_token_161 (zChks_cons hX10_token_162 (zChks_cons hX10_token_281 zChks_nil)))) rfl rfl rfl (Nat.le_of_ble_eq_true rfl) (Nat.le_of_ble_eq_true rfl) ?_
      simp (implicitDefEqProofs := false) only [bX10_token_127, bX10_token_142, bX10_token_161, bX10_token_162, bX10_token_281, zRun_cons, zRun_nil, zLk, zSto, zIns, zFil, zf0, zf1, zf2, zf3, List.filter_cons, List.filter_nil, Nat.reduceAdd, Nat.reduceEqDiff, Nat.reduceLT, Nat.reduceLeDiff, Nat.reduceBEq, Nat.reduceBNe, reduceIte, if_true, if_false, Bool.false_and, Bool.true_and, Bool.and_true, Bool.and_false, Bool.not_false, Bool.not_true, Bool.false_eq_true, beq_self_eq_true, BEq.rfl, zCat1, zCat2, zCat3, zKdI, zKdL, zKdR, true_and, and_true, zSI, zSL, zSR, zu_at, and_self, and_false, false_and, lv_args, zKdZ, zKdO, zB01, zB11, Option.toList_none, Option.toList_some, List.nil_append, List.cons_append, true_or, or_true, zRow_rd, zu_rd, zo_putfield, zo_putfield_2, zo_putfield_3, zo_aload_n, zo_getfield, zo_if_lt, zo_iconst, zo_goto, zo_isub, zo_bipush, zo_icmp_le, zo_icmp_ne, zo_return_, zi_1, zb_6, zi_2, zKd_10_9, zTy_10_9, zKd_10_7, zKd_10_10, zKd_10_8, zTy_10_8, sh_87, zcl_1, zcl_6, zcl_2, zPutC, zKn_s, zKn_0, zFind, x1, j7, j10, esub, x2, x3, zN10, zN01, not_true_eq_false, not_false_eq_true, false_implies, true_implies, implies_true, eq_self, nI_1, nI_40, nI_7, vz0, vz1, zb1_e0, zb1_n0]
      refine hQ _ ((kJ.u (by unfold SRj; omega)).u (by unfold SRj; omega)) (by simp [zu_at]; exact j10) (by simp [zu_at]; exact j7) ?_
      simp only [zu_at, Nat.reduceEqDiff, and_false, and_self, if_true, if_false]
      exact ⟨by omega, Or.inr ⟨rfl, fun h => absurd h (by omega), fun h => absurd h (by omega), fun h => absurd h (by omega)⟩⟩
  · have hlt : m < oLn T (e - sp) sp := by omega
    rw [show (decide (sp + m < e) && oLet (T (sp + m))) = true by rw [oLn_let (T := T) (e - sp) sp m hlt, decide_eq_true (by omega)]; rfl]
    refine zBlkR (M := mX10_token) (nL := 1) (rt := (Option.none : Option Jvm.ClassFile.FieldType)) (blk := bX10_token_98) (T := [(114, bX10_token_114)]) 1 hX10_token_98 (zChks_cons hX10_token_114 zChks_nil) rfl rfl rfl (Nat.le_of_ble_eq_true rfl) (Nat.le_of_ble_eq_true rfl) ?_
    simp (implicitDefEqProofs := false) only [bX10_token_98, bX10_token_114, zRun_cons, zRun_nil, zLk, zSto, zIns, zFil, zf0, zf1, zf2, zf3, List.filter_cons, List.filter_nil, Nat.reduceAdd, Nat.reduceEqDiff, Nat.reduceLT, Nat.reduceLeDiff, Nat.reduceBEq, Nat.reduceBNe, reduceIte, if_true, if_false, Bool.false_and, Bool.true_and, Bool.and_true, Bool.and_false, Bool.not_false, Bool.not_true, Bool.false_eq_true, beq_self_eq_true, BEq.rfl, zCat1, zCat2, zCat3, zKdI, zKdL, zKdR, true_and, and_true, zSI, zSL, zSR, zu_at, and_self, and_false, false_and, lv_args, zKdZ, zKdO, zB01, zB11, Option.toList_none, Option.toList_some, List.nil_append, List.cons_append, true_or, or_true, zRow_rd, zu_rd, zo_if_eq, zo_aload_n, zo_dup, zo_getfield, zo_iconst, zo_iadd, zo_putfield, zo_putfield_2, zo_putfield_3, zo_goto, zi_1, zKd_10_7, zTy_10_7, zKd_10_10, sh_87, zcl_1, zPutC, zKn_s, zKn_0, zFind, zb1_t, j7, nI_1, zN10, zN01, not_true_eq_false, not_false_eq_true, false_implies, true_implies, implies_true, eq_self, nI_1, nI_40, nI_7, vz0, vz1, zb1_e0, zb1_n0]
    exact ih hlt _ (kJ.u (by unfold SRj; omega)) (by simp [zu_at]; exact j10) (by simp [zu_at]; congr 1)
set_option maxRecDepth 20000 in
theorem mo_tkNum (h6 : I 87 6 = nI e) (he : e ≤ 700) (ht : ∀ k, k < e → I 88 k = nI (T k) ∧ T k < 256) : ∀ n i v J, i + n = e → v ≤ 1000000 → zKpt SRj I J → J 87 8 = 3 → J 87 9 = nI v → J 87 7 = nI i → (∀ I', zKpt SRj I I' → I' 87 10 = J 87 10 → I' 87 7 = nI (oNr T n i v).1 → I' 87 8 = 3 → I' 87 9 = nI (oNr T n i v).2 → Q none (SH, I', L, RF p s r)) → zX w mX10_token rX10_token Q 0 0 213 [(0, Value.ref 87)] [] (SH, J, L, RF p s r) := by
  intro n
  induction n with
  | zero =>
    intro i v J hi hv kJ j8 j9 j7 hQ
    have j6 : J 87 6 = nI e := by rw [kJ 87 6 (by unfold SRj; omega)]; exact h6
    have jt : ∀ k, k < e → J 88 k = nI (T k) ∧ T k < 256 := fun k hk => by rw [kJ 88 k (by unfold SRj; omega)]; exact ht k hk
    refine zBlkR (M := mX10_token) (nL := 1) (rt := (Option.none : Option Jvm.ClassFile.FieldType)) (blk := bX10_token_213) (T := []) 0 hX10_token_213 zChks_nil rfl rfl rfl (Nat.le_of_ble_eq_true rfl) (Nat.le_of_ble_eq_true rfl) ?_
    simp (implicitDefEqProofs := false) only [bX10_token_213, zRun_cons, zRun_nil, zLk, zSto, zIns, zFil, zf0, zf1, zf2, zf3, List.filter_cons, List.filter_nil, Nat.reduceAdd, Nat.reduceEqDiff, Nat.reduceLT, Nat.reduceLeDiff, Nat.reduceBEq, Nat.reduceBNe, reduceIte, if_true, if_false, Bool.false_and, Bool.true_and, Bool.and_true, Bool.and_false, Bool.not_false, Bool.not_true, Bool.false_eq_true, beq_self_eq_true, BEq.rfl, zCat1, zCat2, zCat3, zKdI, zKdL, zKdR, true_and, and_true, zSI, zSL, zSR, zu_at, and_self, and_false, false_and, lv_args, zKdZ, zKdO, zB01, zB11, Option.toList_none, Option.toList_some, List.nil_append, List.cons_append, true_or, or_true, zRow_rd, zu_rd, zo_aload_n, zo_getfield, zKd_10_7, sh_87, zKn_0, j7, zN10, zN01, not_true_eq_false, not_false_eq_true, false_implies, true_implies, implies_true, eq_self, nI_1, nI_40, nI_7, vz0, vz1, zb1_e0, zb1_n0]
    refine z_cV0 (M' := mX10_isDigit) (R' := rX10_isDigit) (i := 87) [.int (nI i)] [] eX10_isDigit k10_213 (by decide +kernel : decode cX10_token 218 = .ok (.invokevirtual 213, 3)) (Nat.le_of_ble_eq_true rfl) ⟨Nat.le_of_ble_eq_true rfl, Nat.le_of_ble_eq_true rfl, Nat.le_of_ble_eq_true rfl, Nat.le_of_ble_eq_true rfl, Nat.le_of_ble_eq_true rfl⟩ rfl rfl rfl sh_87 ?_
    refine mo_isDigitN (T := T) j6 he (by omega) jt ?_
    rw [decide_eq_false (by omega)]
    refine zBlkR (M := mX10_token) (nL := 1) (rt := (Option.none : Option Jvm.ClassFile.FieldType)) (blk := bX10_token_221) (T := [(241, bX10_token_241), (261, bX10_token_261), (281, bX10_token_281)]) 1 hX10_token_221 (zChks_cons hX10_token_241 (zChks_cons hX10_token_261 (zChks_cons hX10_token_281 zChks_nil))) rfl rfl rfl (Nat.le_of_ble_eq_true rfl) (Nat.le_of_ble_eq_true rfl) ?_
    simp (implicitDefEqProofs := false) only [bX10_token_221, bX10_token_241, bX10_token_261, bX10_token_281, zRun_cons, zRun_nil, zLk, zSto, zIns, zFil, zf0, zf1, zf2, zf3, List.filter_cons, List.filter_nil, Nat.reduceAdd, Nat.reduceEqDiff, Nat.reduceLT, Nat.reduceLeDiff, Nat.reduceBEq, Nat.reduceBNe, reduceIte, if_true, if_false, Bool.false_and, Bool.true_and, Bool.and_true, Bool.and_false, Bool.not_false, Bool.not_true, Bool.false_eq_true, beq_self_eq_true, BEq.rfl, zCat1, zCat2, zCat3, zKdI, zKdL, zKdR, true_and, and_true, zSI, zSL, zSR, zu_at, and_self, and_false, false_and, lv_args, zKdZ, zKdO, zB01, zB11, Option.toList_none, Option.toList_some, List.nil_append, List.cons_append, true_or, or_true, zRow_rd, zu_rd, zo_if_eq, zo_aload_n, zo_getfield, zo_ldc, zo_icmp_le, zo_goto, zo_bipush, zo_imul, zo_iaload, zo_iadd, zo_isub, zo_putfield, zo_putfield_2, zo_putfield_3, zo_dup, zo_iconst, zo_return_, zi_99999, zb_10, zb_48, zi_1, zKd_10_9, zKd_10_0, zKd_10_7, zTy_10_9, zTy_10_7, sh_87, zcl_10, rf_87_0, sh_88, zcl_48, zcl_1, zvi_10_700, zvi_48_700, zvi_1_700, zPutC, zKn_s, zKn_0, zFind, zb1_f, Bool.false_and, zN10, zN01, not_true_eq_false, not_false_eq_true, false_implies, true_implies, implies_true, eq_self, nI_1, nI_40, nI_7, vz0, vz1, zb1_e0, zb1_n0]
    exact hQ J kJ rfl j7 j8 j9
  | succ n ih =>
    intro i v J hi hv kJ j8 j9 j7 hQ
    have j6 : J 87 6 = nI e := by rw [kJ 87 6 (by unfold SRj; omega)]; exact h6
    have jt : ∀ k, k < e → J 88 k = nI (T k) ∧ T k < 256 := fun k hk => by rw [kJ 88 k (by unfold SRj; omega)]; exact ht k hk
    refine zBlkR (M := mX10_token) (nL := 1) (rt := (Option.none : Option Jvm.ClassFile.FieldType)) (blk := bX10_token_213) (T := []) 0 hX10_token_213 zChks_nil rfl rfl rfl (Nat.le_of_ble_eq_true rfl) (Nat.le_of_ble_eq_true rfl) ?_
    simp (implicitDefEqProofs := false) only [bX10_token_213, zRun_cons, zRun_nil, zLk, zSto, zIns, zFil, zf0, zf1, zf2, zf3, List.filter_cons, List.filter_nil, Nat.reduceAdd, Nat.reduceEqDiff, Nat.reduceLT, Nat.reduceLeDiff, Nat.reduceBEq, Nat.reduceBNe, reduceIte, if_true, if_false, Bool.false_and, Bool.true_and, Bool.and_true, Bool.and_false, Bool.not_false, Bool.not_true, Bool.false_eq_true, beq_self_eq_true, BEq.rfl, zCat1, zCat2, zCat3, zKdI, zKdL, zKdR, true_and, and_true, zSI, zSL, zSR, zu_at, and_self, and_false, false_and, lv_args, zKdZ, zKdO, zB01, zB11, Option.toList_none, Option.toList_some, List.nil_append, List.cons_append, true_or, or_true, zRow_rd, zu_rd, zo_aload_n, zo_getfield, zKd_10_7, sh_87, zKn_0, j7, zN10, zN01, not_true_eq_false, not_false_eq_true, false_implies, true_implies, implies_true, eq_self, nI_1, nI_40, nI_7, vz0, vz1, zb1_e0, zb1_n0]
    refine z_cV0 (M' := mX10_isDigit) (R' := rX10_isDigit) (i := 87) [.int (nI i)] [] eX10_isDigit k10_213 (by decide +kernel : decode cX10_token 218 = .ok (.invokevirtual 213, 3)) (Nat.le_of_ble_eq_true rfl) ⟨Nat.le_of_ble_eq_true rfl, Nat.le_of_ble_eq_true rfl, Nat.le_of_ble_eq_true rfl, Nat.le_of_ble_eq_true rfl, Nat.le_of_ble_eq_true rfl⟩ rfl rfl rfl sh_87 ?_
    refine mo_isDigitN (T := T) j6 he (by omega) jt ?_
    unfold oNr at hQ
    rw [decide_eq_true (show i < e by omega), Bool.true_and]
    cases hd : oDig (T i) with
    | false =>
      rw [if_neg (by rw [hd]; decide)] at hQ
      refine zBlkR (M := mX10_token) (nL := 1) (rt := (Option.none : Option Jvm.ClassFile.FieldType)) (blk := bX10_token_221) (T := [(241, bX10_token_241), (261, bX10_token_261), (281, bX10_token_281)]) 1 hX10_token_221 (zChks_cons hX10_token_241 (zChks_cons hX10_token_261 (zChks_cons hX10_token_281 zChks_nil))) rfl rfl rfl (Nat.le_of_ble_eq_true rfl) (Nat.le_of_ble_eq_true rfl) ?_
      simp (implicitDefEqProofs := false) only [bX10_token_221, bX10_token_241, bX10_token_261, bX10_token_281, zRun_cons, zRun_nil, zLk, zSto, zIns, zFil, zf0, zf1, zf2, zf3, List.filter_cons, List.filter_nil, Nat.reduceAdd, Nat.reduceEqDiff, Nat.reduceLT, Nat.reduceLeDiff, Nat.reduceBEq, Nat.reduceBNe, reduceIte, if_true, if_false, Bool.false_and, Bool.true_and, Bool.and_true, Bool.and_false, Bool.not_false, Bool.not_true, Bool.false_eq_true, beq_self_eq_true, BEq.rfl, zCat1, zCat2, zCat3, zKdI, zKdL, zKdR, true_and, and_true, zSI, zSL, zSR, zu_at, and_self, and_false, false_and, lv_args, zKdZ, zKdO, zB01, zB11, Option.toList_none, Option.toList_some, List.nil_append, List.cons_append, true_or, or_true, zRow_rd, zu_rd, zo_if_eq, zo_aload_n, zo_getfield, zo_ldc, zo_icmp_le, zo_goto, zo_bipush, zo_imul, zo_iaload, zo_iadd, zo_isub, zo_putfield, zo_putfield_2, zo_putfield_3, zo_dup, zo_iconst, zo_return_, zi_99999, zb_10, zb_48, zi_1, zKd_10_9, zKd_10_0, zKd_10_7, zTy_10_9, zTy_10_7, sh_87, zcl_10, rf_87_0, sh_88, zcl_48, zcl_1, zvi_10_700, zvi_48_700, zvi_1_700, zPutC, zKn_s, zKn_0, zFind, zb1_f, zN10, zN01, not_true_eq_false, not_false_eq_true, false_implies, true_implies, implies_true, eq_self, nI_1, nI_40, nI_7, vz0, vz1, zb1_e0, zb1_n0]
      exact hQ J kJ rfl j7 j8 j9
    | true =>
      rw [if_pos hd] at hQ
      have hb := oDig_lo hd
      obtain ⟨t1, t2⟩ := jt i (by omega)
      by_cases hbig : 99999 < v
      · have hx : (nI v ≤ 99999) = False := eq_false (by rw [show (99999 : Int32) = nI 99999 from rfl, zle_nat (by omega) (by omega)]; omega)
        rw [if_pos hbig] at hQ
        refine zBlkR (M := mX10_token) (nL := 1) (rt := (Option.none : Option Jvm.ClassFile.FieldType)) (blk := bX10_token_221) (T := [(241, bX10_token_241), (261, bX10_token_261), (281, bX10_token_281)]) 1 hX10_token_221 (zChks_cons hX10_token_241 (zChks_cons hX10_token_261 (zChks_cons hX10_token_281 zChks_nil))) rfl rfl rfl (Nat.le_of_ble_eq_true rfl) (Nat.le_of_ble_eq_true rfl) ?_
        simp (implicitDefEqProofs := false) only [bX10_token_221, bX10_token_241, bX10_token_261, bX10_token_281, zRun_cons, zRun_nil, zLk, zSto, zIns, zFil, zf0, zf1, zf2, zf3, List.filter_cons, List.filter_nil, Nat.reduceAdd, Nat.reduceEqDiff, Nat.reduceLT, Nat.reduceLeDiff, Nat.reduceBEq, Nat.reduceBNe, reduceIte, if_true, if_false, Bool.false_and, Bool.true_and, Bool.and_true, Bool.and_false, Bool.not_false, Bool.not_true, Bool.false_eq_true, beq_self_eq_true, BEq.rfl, zCat1, zCat2, zCat3, zKdI, zKdL, zKdR, true_and, and_true, zSI, zSL, zSR, zu_at, and_self, and_false, false_and, lv_args, zKdZ, zKdO, zB01, zB11, Option.toList_none, Option.toList_some, List.nil_append, List.cons_append, true_or, or_true, zRow_rd, zu_rd, zo_if_eq, zo_aload_n, zo_getfield, zo_ldc, zo_icmp_le, zo_goto, zo_bipush, zo_imul, zo_iaload, zo_iadd, zo_isub, zo_putfield, zo_putfield_2, zo_putfield_3, zo_dup, zo_iconst, zo_return_, zi_99999, zb_10, zb_48, zi_1, zKd_10_9, zKd_10_0, zKd_10_7, zTy_10_9, zTy_10_7, sh_87, zcl_10, rf_87_0, sh_88, zcl_48, zcl_1, zvi_10_700, zvi_48_700, zvi_1_700, zPutC, zKn_s, zKn_0, zFind, zb1_t, j9, hx, j7, nI_1, zN10, zN01, not_true_eq_false, not_false_eq_true, false_implies, true_implies, implies_true, eq_self, nI_1, nI_40, nI_7, vz0, vz1, zb1_e0, zb1_n0]
        exact ih (i + 1) v _ (by omega) hv ((kJ.u (by unfold SRj; omega)).u (by unfold SRj; omega)) (by simp [zu_at]; exact j8) (by simp [zu_at]) (by simp [zu_at]) (fun I' k' g10 => hQ I' k' (by rw [g10]; simp [zu_at]))
      · have hx : (nI v ≤ 99999) = True := eq_true (by rw [show (99999 : Int32) = nI 99999 from rfl, zle_nat (by omega) (by omega)]; omega)
        have hvi : vp_in (nI i) 700 := zvn (by omega) (by omega)
        have e1 : 10 * nI v + nI (T i) - 48 = nI (10 * v + T i - 48) := by
          rw [show (10 : Int32) = nI 10 from rfl, pk_mul, nI_add, show (48 : Int32) = nI 48 from rfl]
          obtain ⟨q, hq⟩ : ∃ q, 10 * v + T i = q + 48 := ⟨10 * v + T i - 48, by omega⟩
          rw [hq, ← nI_add, Int32.add_sub_cancel]; congr 1
        rw [if_neg hbig] at hQ
        refine zBlkR (M := mX10_token) (nL := 1) (rt := (Option.none : Option Jvm.ClassFile.FieldType)) (blk := bX10_token_221) (T := [(241, bX10_token_241), (261, bX10_token_261), (281, bX10_token_281)]) 1 hX10_token_221 (zChks_cons hX10_token_241 (zChks_cons hX10_token_261 (zChks_cons hX10_token_281 zChks_nil))) rfl rfl rfl (Nat.le_of_ble_eq_true rfl) (Nat.le_of_ble_eq_true rfl) ?_
        simp (implicitDefEqProofs := false) only [bX10_token_221, bX10_token_241, bX10_token_261, bX10_token_281, zRun_cons, zRun_nil, zLk, zSto, zIns, zFil, zf0, zf1, zf2, zf3, List.filter_cons, List.filter_nil, Nat.reduceAdd, Nat.reduceEqDiff, Nat.reduceLT, Nat.reduceLeDiff, Nat.reduceBEq, Nat.reduceBNe, reduceIte, if_true, if_false, Bool.false_and, Bool.true_and, Bool.and_true, Bool.and_false, Bool.not_false, Bool.not_true, Bool.false_eq_true, beq_self_eq_true, BEq.rfl, zCat1, zCat2, zCat3, zKdI, zKdL, zKdR, true_and, and_true, zSI, zSL, zSR, zu_at, and_self, and_false, false_and, lv_args, zKdZ, zKdO, zB01, zB11, Option.toList_none, Option.toList_some, List.nil_append, List.cons_append, true_or, or_true, zRow_rd, zu_rd, zo_if_eq, zo_aload_n, zo_getfield, zo_ldc, zo_icmp_le, zo_goto, zo_bipush, zo_imul, zo_iaload, zo_iadd, zo_isub, zo_putfield, zo_putfield_2, zo_putfield_3, zo_dup, zo_iconst, zo_return_, zi_99999, zb_10, zb_48, zi_1, zKd_10_9, zKd_10_0, zKd_10_7, zTy_10_9, zTy_10_7, sh_87, zcl_10, rf_87_0, sh_88, zcl_48, zcl_1, zvi_10_700, zvi_48_700, zvi_1_700, zPutC, zKn_s, zKn_0, zFind, zb1_t, j9, hx, j7, hvi, t1, e1, nI_1, nI_clamp (n := i) (by omega), zN10, zN01, not_true_eq_false, not_false_eq_true, false_implies, true_implies, implies_true, eq_self, nI_1, nI_40, nI_7, vz0, vz1, zb1_e0, zb1_n0]
        exact ih (i + 1) (10 * v + T i - 48) _ (by omega) (by omega) ((kJ.u (by unfold SRj; omega)).u (by unfold SRj; omega)) (by simp [zu_at]; exact j8) (by simp [zu_at]) (by simp [zu_at]) (fun I' k' g10 => hQ I' k' (by rw [g10]; simp [zu_at]))
set_option maxRecDepth 20000 in
theorem mo_tk52 (h6 : I 87 6 = nI e) (h7 : I 87 7 = nI sp) (hs : sp ≤ e) (he : e ≤ 700) (hw : ∀ k, k < 136 → I 89 k = nI (mWa k)) (ht : ∀ k, k < e → I 88 k = nI (T k) ∧ T k < 256) (hW : ∀ i, i < 27 → W i = nI (cWp i)) (hQ : ∀ I', zKpt SRj I I' → I' 87 10 = nI (oTd W T e sp).1 → I' 87 7 = nI (oTd W T e sp).2.1 → tRel (oTd W T e sp).2.2.1 (oTd W T e sp).2.2.2 (I' 87 8) (I' 87 9) → Q none (SH, I', L, RF p s r)) : zX w mX10_token rX10_token Q 0 0 52 [(0, Value.ref 87)] [] (SH, I, L, RF p s r) := by
  unfold oTd at hQ
  have kA : zKpt SRj I (zu I 87 10 (nI sp)) := zKpt_rfl.u (by unfold SRj; omega)
  by_cases hse : e ≤ sp
  · have : e = sp := by omega
    subst this
    rw [if_pos hse] at hQ
    refine zBlkR (M := mX10_token) (nL := 1) (rt := (Option.none : Option Jvm.ClassFile.FieldType)) (blk := bX10_token_52) (T := [(79, bX10_token_79), (281, bX10_token_281)]) 1 hX10_token_52 (zChks_cons hX10_token_79 (zChks_cons hX10_token_281 zChks_nil)) rfl rfl rfl (Nat.le_of_ble_eq_true rfl) (Nat.le_of_ble_eq_true rfl) ?_
    simp (implicitDefEqProofs := false) only [bX10_token_52, bX10_token_79, bX10_token_281, zRun_cons, zRun_nil, zLk, zSto, zIns, zFil, zf0, zf1, zf2, zf3, List.filter_cons, List.filter_nil, Nat.reduceAdd, Nat.reduceEqDiff, Nat.reduceLT, Nat.reduceLeDiff, Nat.reduceBEq, Nat.reduceBNe, reduceIte, if_true, if_false, Bool.false_and, Bool.true_and, Bool.and_true, Bool.and_false, Bool.not_false, Bool.not_true, Bool.false_eq_true, beq_self_eq_true, BEq.rfl, zCat1, zCat2, zCat3, zKdI, zKdL, zKdR, true_and, and_true, zSI, zSL, zSR, zu_at, and_self, and_false, false_and, lv_args, zKdZ, zKdO, zB01, zB11, Option.toList_none, Option.toList_some, List.nil_append, List.cons_append, true_or, or_true, zRow_rd, zu_rd, zo_aload_n, zo_getfield, zo_putfield, zo_putfield_2, zo_putfield_3, zo_icmp_ne, zo_iconst, zo_goto, zo_return_, zi_0, zKd_10_7, zKd_10_10, zTy_10_10, zKd_10_6, zKd_10_8, zTy_10_8, sh_87, zcl_0, zPutC, zKn_s, zKn_0, zFind, h6, h7, zN10, zN01, not_true_eq_false, not_false_eq_true, false_implies, true_implies, implies_true, eq_self, nI_1, nI_40, nI_7, vz0, vz1, zb1_e0, zb1_n0]
    refine hQ _ (kA.u (by unfold SRj; omega)) (by simp [zu_at]) (by simp [zu_at]; exact h7) ?_
    exact ⟨by show 0 < 47; omega, Or.inr ⟨by simp [zu_at]; rfl, fun h => absurd h (by show ¬ 0 = 2; omega), fun h => absurd h (by show ¬ 0 = 3; omega), fun h => absurd h (by show ¬ 4 ≤ 0; omega)⟩⟩
  · have hx : (nI sp = nI e) = False := eq_false (by rw [zeq_nat (by omega) (by omega)]; omega)
    rw [if_neg hse] at hQ
    refine zBlkR (M := mX10_token) (nL := 1) (rt := (Option.none : Option Jvm.ClassFile.FieldType)) (blk := bX10_token_52) (T := [(79, bX10_token_79), (281, bX10_token_281)]) 1 hX10_token_52 (zChks_cons hX10_token_79 (zChks_cons hX10_token_281 zChks_nil)) rfl rfl rfl (Nat.le_of_ble_eq_true rfl) (Nat.le_of_ble_eq_true rfl) ?_
    simp (implicitDefEqProofs := false) only [bX10_token_52, bX10_token_79, bX10_token_281, zRun_cons, zRun_nil, zLk, zSto, zIns, zFil, zf0, zf1, zf2, zf3, List.filter_cons, List.filter_nil, Nat.reduceAdd, Nat.reduceEqDiff, Nat.reduceLT, Nat.reduceLeDiff, Nat.reduceBEq, Nat.reduceBNe, reduceIte, if_true, if_false, Bool.false_and, Bool.true_and, Bool.and_true, Bool.and_false, Bool.not_false, Bool.not_true, Bool.false_eq_true, beq_self_eq_true, BEq.rfl, zCat1, zCat2, zCat3, zKdI, zKdL, zKdR, true_and, and_true, zSI, zSL, zSR, zu_at, and_self, and_false, false_and, lv_args, zKdZ, zKdO, zB01, zB11, Option.toList_none, Option.toList_some, List.nil_append, List.cons_append, true_or, or_true, zRow_rd, zu_rd, zo_aload_n, zo_getfield, zo_putfield, zo_putfield_2, zo_putfield_3, zo_icmp_ne, zo_iconst, zo_goto, zo_return_, zi_0, zKd_10_7, zKd_10_10, zTy_10_10, zKd_10_6, zKd_10_8, zTy_10_8, sh_87, zcl_0, zPutC, zKn_s, zKn_0, zFind, h6, h7, hx, zN10, zN01, not_true_eq_false, not_false_eq_true, false_implies, true_implies, implies_true, eq_self, nI_1, nI_40, nI_7, vz0, vz1, zb1_e0, zb1_n0]
    have j6 : (zu I 87 10 (nI sp)) 87 6 = nI e := by simp [zu_at]; exact h6
    have j7 : (zu I 87 10 (nI sp)) 87 7 = nI sp := by simp [zu_at]; exact h7
    have j10 : (zu I 87 10 (nI sp)) 87 10 = nI sp := by simp [zu_at]
    have jt : ∀ k, k < e → (zu I 87 10 (nI sp)) 88 k = nI (T k) ∧ T k < 256 := fun k hk => by rw [zu_at, if_neg (by omega)]; exact ht k hk
    have jw : ∀ k, k < 136 → (zu I 87 10 (nI sp)) 89 k = nI (mWa k) := fun k hk => by rw [zu_at, if_neg (by omega)]; exact hw k hk
    generalize zu I 87 10 (nI sp) = I1 at *
    refine z_cV0 (M' := mX10_isSmall) (R' := rX10_isSmall) (i := 87) [.int (nI sp)] [] eX10_isSmall k10_199 (by decide +kernel : decode cX10_token 84 = .ok (.invokevirtual 199, 3)) (Nat.le_of_ble_eq_true rfl) ⟨Nat.le_of_ble_eq_true rfl, Nat.le_of_ble_eq_true rfl, Nat.le_of_ble_eq_true rfl, Nat.le_of_ble_eq_true rfl, Nat.le_of_ble_eq_true rfl⟩ rfl rfl rfl sh_87 ?_
    refine mo_isSmallN (T := T) j6 he hs jt ?_
    rw [decide_eq_true (show sp < e by omega), Bool.true_and]
    cases hl : oLet (T sp) with
    | true =>
      rw [if_pos hl] at hQ
      have key := mo_tkWord (w := w) (Q := Q) (L := L) (p := p) (s := s) (r := r) (W := W) (T := T) j6 j10 (by omega) he jw jt hW (fun I' k' g10 g7 gr => hQ I' (kA.trans k') g10 g7 gr) 0 (Nat.zero_le _) I1 zKpt_rfl j10 j7
      refine zBlkR (M := mX10_token) (nL := 1) (rt := (Option.none : Option Jvm.ClassFile.FieldType)) (blk := bX10_token_87) (T := [(192, bX10_token_192)]) 1 hX10_token_87 (zChks_cons hX10_token_192 zChks_nil) rfl rfl rfl (Nat.le_of_ble_eq_true rfl) (Nat.le_of_ble_eq_true rfl) ?_
      simp (implicitDefEqProofs := false) only [bX10_token_87, bX10_token_192, zRun_cons, zRun_nil, zLk, zSto, zIns, zFil, zf0, zf1, zf2, zf3, List.filter_cons, List.filter_nil, Nat.reduceAdd, Nat.reduceEqDiff, Nat.reduceLT, Nat.reduceLeDiff, Nat.reduceBEq, Nat.reduceBNe, reduceIte, if_true, if_false, Bool.false_and, Bool.true_and, Bool.and_true, Bool.and_false, Bool.not_false, Bool.not_true, Bool.false_eq_true, beq_self_eq_true, BEq.rfl, zCat1, zCat2, zCat3, zKdI, zKdL, zKdR, true_and, and_true, zSI, zSL, zSR, zu_at, and_self, and_false, false_and, lv_args, zKdZ, zKdO, zB01, zB11, Option.toList_none, Option.toList_some, List.nil_append, List.cons_append, true_or, or_true, zRow_rd, zu_rd, zo_if_eq, zo_aload_n, zo_getfield, zKd_10_7, sh_87, zKn_s, zKn_0, zFind, zb1_t, zN10, zN01, not_true_eq_false, not_false_eq_true, false_implies, true_implies, implies_true, eq_self, nI_1, nI_40, nI_7, vz0, vz1, zb1_e0, zb1_n0]
      exact key
    | false =>
      rw [if_neg (by rw [hl]; decide)] at hQ
      refine zBlkR (M := mX10_token) (nL := 1) (rt := (Option.none : Option Jvm.ClassFile.FieldType)) (blk := bX10_token_87) (T := [(192, bX10_token_192)]) 1 hX10_token_87 (zChks_cons hX10_token_192 zChks_nil) rfl rfl rfl (Nat.le_of_ble_eq_true rfl) (Nat.le_of_ble_eq_true rfl) ?_
      simp (implicitDefEqProofs := false) only [bX10_token_87, bX10_token_192, zRun_cons, zRun_nil, zLk, zSto, zIns, zFil, zf0, zf1, zf2, zf3, List.filter_cons, List.filter_nil, Nat.reduceAdd, Nat.reduceEqDiff, Nat.reduceLT, Nat.reduceLeDiff, Nat.reduceBEq, Nat.reduceBNe, reduceIte, if_true, if_false, Bool.false_and, Bool.true_and, Bool.and_true, Bool.and_false, Bool.not_false, Bool.not_true, Bool.false_eq_true, beq_self_eq_true, BEq.rfl, zCat1, zCat2, zCat3, zKdI, zKdL, zKdR, true_and, and_true, zSI, zSL, zSR, zu_at, and_self, and_false, false_and, lv_args, zKdZ, zKdO, zB01, zB11, Option.toList_none, Option.toList_some, List.nil_append, List.cons_append, true_or, or_true, zRow_rd, zu_rd, zo_if_eq, zo_aload_n, zo_getfield, zKd_10_7, sh_87, zKn_s, zKn_0, zFind, zb1_f, j7, zN10, zN01, not_true_eq_false, not_false_eq_true, false_implies, true_implies, implies_true, eq_self, nI_1, nI_40, nI_7, vz0, vz1, zb1_e0, zb1_n0]
      refine z_cV0 (M' := mX10_isDigit) (R' := rX10_isDigit) (i := 87) [.int (nI sp)] [] eX10_isDigit k10_213 (by decide +kernel : decode cX10_token 197 = .ok (.invokevirtual 213, 3)) (Nat.le_of_ble_eq_true rfl) ⟨Nat.le_of_ble_eq_true rfl, Nat.le_of_ble_eq_true rfl, Nat.le_of_ble_eq_true rfl, Nat.le_of_ble_eq_true rfl, Nat.le_of_ble_eq_true rfl⟩ rfl rfl rfl sh_87 ?_
      refine mo_isDigitN (T := T) j6 he hs jt ?_
      rw [decide_eq_true (show sp < e by omega), Bool.true_and]
      cases hd : oDig (T sp) with
      | true =>
        rw [if_pos hd] at hQ
        obtain ⟨r1, r2⟩ := oNm_rel (T := T) (e - sp) sp 0 0 ⟨by omega, by omega, Or.inl rfl⟩
        have key := mo_tkNum (w := w) (Q := Q) (L := L) (p := p) (s := s) (r := r) (T := T) (I := I1) j6 he jt (e - sp) sp 0 (zu (zu I1 87 8 3) 87 9 0) (by omega) (by omega) ((zKpt_rfl.u (by unfold SRj; omega)).u (by unfold SRj; omega)) (by simp [zu_at]) (by simp [zu_at]; rfl) (by simp [zu_at]; exact j7) (fun I' k' g10 g7 g8 g9 => hQ I' (kA.trans k') (by rw [g10]; simp [zu_at]; exact j10) (by rw [g7, r1]) (by
          rw [g8, g9]
          exact ⟨by show 2 < 47; omega, Or.inr ⟨rfl, fun _ => ⟨_, _, rfl, rfl, r2⟩, fun h => absurd h (by show ¬ 2 = 3; omega), fun h => absurd h (by show ¬ 4 ≤ 2; omega)⟩⟩))
        refine zBlkR (M := mX10_token) (nL := 1) (rt := (Option.none : Option Jvm.ClassFile.FieldType)) (blk := bX10_token_200) (T := [(277, bX10_token_277)]) 1 hX10_token_200 (zChks_cons hX10_token_277 zChks_nil) rfl rfl rfl (Nat.le_of_ble_eq_true rfl) (Nat.le_of_ble_eq_true rfl) ?_
        simp (implicitDefEqProofs := false) only [bX10_token_200, bX10_token_277, zRun_cons, zRun_nil, zLk, zSto, zIns, zFil, zf0, zf1, zf2, zf3, List.filter_cons, List.filter_nil, Nat.reduceAdd, Nat.reduceEqDiff, Nat.reduceLT, Nat.reduceLeDiff, Nat.reduceBEq, Nat.reduceBNe, reduceIte, if_true, if_false, Bool.false_and, Bool.true_and, Bool.and_true, Bool.and_false, Bool.not_false, Bool.not_true, Bool.false_eq_true, beq_self_eq_true, BEq.rfl, zCat1, zCat2, zCat3, zKdI, zKdL, zKdR, true_and, and_true, zSI, zSL, zSR, zu_at, and_self, and_false, false_and, lv_args, zKdZ, zKdO, zB01, zB11, Option.toList_none, Option.toList_some, List.nil_append, List.cons_append, true_or, or_true, zRow_rd, zu_rd, zo_if_eq, zo_aload_n, zo_iconst, zo_putfield, zo_putfield_2, zo_putfield_3, zi_3, zi_0, zKd_10_8, zTy_10_8, zKd_10_9, zTy_10_9, zcl_3, sh_87, zcl_0, zPutC, zKn_s, zKn_0, zFind, zb1_t, zN10, zN01, not_true_eq_false, not_false_eq_true, false_implies, true_implies, implies_true, eq_self, nI_1, nI_40, nI_7, vz0, vz1, zb1_e0, zb1_n0]
        exact key
      | false =>
        rw [if_neg (by rw [hd]; decide)] at hQ
        refine zBlkR (M := mX10_token) (nL := 1) (rt := (Option.none : Option Jvm.ClassFile.FieldType)) (blk := bX10_token_200) (T := [(277, bX10_token_277)]) 1 hX10_token_200 (zChks_cons hX10_token_277 zChks_nil) rfl rfl rfl (Nat.le_of_ble_eq_true rfl) (Nat.le_of_ble_eq_true rfl) ?_
        simp (implicitDefEqProofs := false) only [bX10_token_200, bX10_token_277, zRun_cons, zRun_nil, zLk, zSto, zIns, zFil, zf0, zf1, zf2, zf3, List.filter_cons, List.filter_nil, Nat.reduceAdd, Nat.reduceEqDiff, Nat.reduceLT, Nat.reduceLeDiff, Nat.reduceBEq, Nat.reduceBNe, reduceIte, if_true, if_false, Bool.false_and, Bool.true_and, Bool.and_true, Bool.and_false, Bool.not_false, Bool.not_true, Bool.false_eq_true, beq_self_eq_true, BEq.rfl, zCat1, zCat2, zCat3, zKdI, zKdL, zKdR, true_and, and_true, zSI, zSL, zSR, zu_at, and_self, and_false, false_and, lv_args, zKdZ, zKdO, zB01, zB11, Option.toList_none, Option.toList_some, List.nil_append, List.cons_append, true_or, or_true, zRow_rd, zu_rd, zo_if_eq, zo_aload_n, zo_iconst, zo_putfield, zo_putfield_2, zo_putfield_3, zi_3, zi_0, zKd_10_8, zTy_10_8, zKd_10_9, zTy_10_9, zcl_3, sh_87, zcl_0, zPutC, zKn_s, zKn_0, zFind, zb1_f, zN10, zN01, not_true_eq_false, not_false_eq_true, false_implies, true_implies, implies_true, eq_self, nI_1, nI_40, nI_7, vz0, vz1, zb1_e0, zb1_n0]
        refine z_cV0 (M' := mX10_signToken) (R' := rX10_signToken) (i := 87) [] [] eX10_signToken k10_217 (by decide +kernel : decode cX10_token 278 = .ok (.invokevirtual 217, 3)) (Nat.le_of_ble_eq_true rfl) ⟨Nat.le_of_ble_eq_true rfl, Nat.le_of_ble_eq_true rfl, Nat.le_of_ble_eq_true rfl, Nat.le_of_ble_eq_true rfl, Nat.le_of_ble_eq_true rfl⟩ rfl rfl rfl sh_87 ?_
        refine mo_signToken (T := T) j6 j7 (by omega) he jt (fun I' k' g10 g7 gr => ?_)
        refine zBlkR (M := mX10_token) (nL := 1) (rt := (Option.none : Option Jvm.ClassFile.FieldType)) (blk := bX10_token_281) (T := []) 0 hX10_token_281 zChks_nil rfl rfl rfl (Nat.le_of_ble_eq_true rfl) (Nat.le_of_ble_eq_true rfl) ?_
        simp (implicitDefEqProofs := false) only [bX10_token_281, zRun_cons, zRun_nil, zLk, zSto, zIns, zFil, zf0, zf1, zf2, zf3, List.filter_cons, List.filter_nil, Nat.reduceAdd, Nat.reduceEqDiff, Nat.reduceLT, Nat.reduceLeDiff, Nat.reduceBEq, Nat.reduceBNe, reduceIte, if_true, if_false, Bool.false_and, Bool.true_and, Bool.and_true, Bool.and_false, Bool.not_false, Bool.not_true, Bool.false_eq_true, beq_self_eq_true, BEq.rfl, zCat1, zCat2, zCat3, zKdI, zKdL, zKdR, true_and, and_true, zSI, zSL, zSR, zu_at, and_self, and_false, false_and, lv_args, zKdZ, zKdO, zB01, zB11, Option.toList_none, Option.toList_some, List.nil_append, List.cons_append, true_or, or_true, zRow_rd, zu_rd, zo_return_, zKn_0, zN10, zN01, not_true_eq_false, not_false_eq_true, false_implies, true_implies, implies_true, eq_self, nI_1, nI_40, nI_7, vz0, vz1, zb1_e0, zb1_n0]
        exact hQ I' (kA.trans k') (by rw [g10]; exact j10) g7 gr
set_option maxRecDepth 20000 in
theorem mo_token : ∀ (n i : Nat) (I : Nat → Nat → Int32), (∀ k, k < 136 → I 89 k = nI (mWa k)) → (∀ i, i < 27 → W i = nI (cWp i)) → I 87 6 = nI (i + n) → I 87 7 = nI i → i + n ≤ 700 → (∀ k, k < i + n → I 88 k = nI (T k) ∧ T k < 256) → (∀ I', zKpt SRj I I' → I' 87 10 = nI (oTc W T (i + n) i).1 → I' 87 7 = nI (oTc W T (i + n) i).2.1 → tRel (oTc W T (i + n) i).2.2.1 (oTc W T (i + n) i).2.2.2 (I' 87 8) (I' 87 9) → Q none (SH, I', L, RF p s r)) → zXM w mX10_token rX10_token [.ref 87] (SH, I, L, RF p s r) Q := by
  intro n
  induction n with
  | zero =>
    intro i I hw hW h6 h7 he ht hQ
    unfold zXM
    have hx : (nI i ≤ nI i) = True := eq_true (by rw [zle_nat (by omega) (by omega)]; omega)
    have h6' : I 87 6 = nI i := h6
    rw [oTc_d, Nat.add_sub_cancel_left] at hQ
    have key := mo_tk52 (w := w) (Q := Q) (L := L) (p := p) (s := s) (r := r) (T := T) h6 h7 (by omega) he hw ht hW hQ
    refine zBlkR (M := mX10_token) (nL := 1) (rt := (Option.none : Option Jvm.ClassFile.FieldType)) (blk := bX10_token_0) (T := [(39, bX10_token_39)]) 1 hX10_token_0 (zChks_cons hX10_token_39 zChks_nil) rfl rfl rfl (Nat.le_of_ble_eq_true rfl) (Nat.le_of_ble_eq_true rfl) ?_
    simp (implicitDefEqProofs := false) only [bX10_token_0, bX10_token_39, zRun_cons, zRun_nil, zLk, zSto, zIns, zFil, zf0, zf1, zf2, zf3, List.filter_cons, List.filter_nil, Nat.reduceAdd, Nat.reduceEqDiff, Nat.reduceLT, Nat.reduceLeDiff, Nat.reduceBEq, Nat.reduceBNe, reduceIte, if_true, if_false, Bool.false_and, Bool.true_and, Bool.and_true, Bool.and_false, Bool.not_false, Bool.not_true, Bool.false_eq_true, beq_self_eq_true, BEq.rfl, zCat1, zCat2, zCat3, zKdI, zKdL, zKdR, true_and, and_true, zSI, zSL, zSR, zu_at, and_self, and_false, false_and, lv_args, zKdZ, zKdO, zB01, zB11, Option.toList_none, Option.toList_some, List.nil_append, List.cons_append, true_or, or_true, zRow_rd, zu_rd, zo_aload_n, zo_getfield, zo_icmp_ge, zo_iaload, zo_bipush, zo_icmp_eq, zo_icmp_ne, zo_dup, zo_iconst, zo_iadd, zo_putfield, zo_putfield_2, zo_putfield_3, zo_goto, zb_10, zb_32, zi_1, zKd_10_7, zKd_10_6, zKd_10_0, zTy_10_7, sh_87, rf_87_0, sh_88, zcl_10, zcl_32, zcl_1, zvi_10_700, zvi_32_700, zvi_1_700, zPutC, zKn_s, zKn_0, zFind, h6', h7, hx, zN10, zN01, not_true_eq_false, not_false_eq_true, false_implies, true_implies, implies_true, eq_self, nI_1, nI_40, nI_7, vz0, vz1, zb1_e0, zb1_n0]
    exact key
  | succ n ih =>
    intro i I hw hW h6 h7 he ht hQ
    unfold zXM
    have hx : (nI (i + (n + 1)) ≤ nI i) = False := eq_false (by rw [zle_nat (by omega) (by omega)]; omega)
    have hv : vp_in (nI i) 700 := zvn (by omega) (by omega)
    obtain ⟨t1, t2⟩ := ht i (by omega)
    have y10 : (nI (T i) = 10) = (T i = 10) := zeq_nat (b := 10) (by omega) (by omega)
    have y32 : (nI (T i) = 32) = (T i = 32) := zeq_nat (b := 32) (by omega) (by omega)
    rw [oTc_d, Nat.add_sub_cancel_left] at hQ
    unfold oSk at hQ
    cases hb : oSpc (T i) with
    | true =>
      rw [if_pos hb] at hQ
      have go : zX w mX10_token rX10_token Q 0 0 0 [(0, Value.ref 87)] [] (SH, zu I 87 7 (nI (i + 1)), L, RF p s r) := by
        have := ih (i + 1) (zu I 87 7 (nI (i + 1))) (fun k hk => by rw [zu_at, if_neg (by omega)]; exact hw k hk) hW (by simp [zu_at]; rw [h6]; congr 1; omega) (by simp [zu_at]) (by omega) (fun k hk => by rw [zu_at, if_neg (by omega)]; exact ht k (by omega)) (fun I' k' => by
          rw [oTc_d, show i + 1 + n - (i + 1) = n by omega, show i + 1 + n = i + (n + 1) by omega]
          exact hQ I' ((zKpt_rfl.u (by unfold SRj; omega)).trans k'))
        unfold zXM at this
        exact this
      have hsp : T i = 32 ∨ T i = 10 := by unfold oSpc at hb; simpa using hb
      refine zBlkR (M := mX10_token) (nL := 1) (rt := (Option.none : Option Jvm.ClassFile.FieldType)) (blk := bX10_token_0) (T := [(39, bX10_token_39)]) 1 hX10_token_0 (zChks_cons hX10_token_39 zChks_nil) rfl rfl rfl (Nat.le_of_ble_eq_true rfl) (Nat.le_of_ble_eq_true rfl) ?_
      simp (implicitDefEqProofs := false) only [bX10_token_0, bX10_token_39, zRun_cons, zRun_nil, zLk, zSto, zIns, zFil, zf0, zf1, zf2, zf3, List.filter_cons, List.filter_nil, Nat.reduceAdd, Nat.reduceEqDiff, Nat.reduceLT, Nat.reduceLeDiff, Nat.reduceBEq, Nat.reduceBNe, reduceIte, if_true, if_false, Bool.false_and, Bool.true_and, Bool.and_true, Bool.and_false, Bool.not_false, Bool.not_true, Bool.false_eq_true, beq_self_eq_true, BEq.rfl, zCat1, zCat2, zCat3, zKdI, zKdL, zKdR, true_and, and_true, zSI, zSL, zSR, zu_at, and_self, and_false, false_and, lv_args, zKdZ, zKdO, zB01, zB11, Option.toList_none, Option.toList_some, List.nil_append, List.cons_append, true_or, or_true, zRow_rd, zu_rd, zo_aload_n, zo_getfield, zo_icmp_ge, zo_iaload, zo_bipush, zo_icmp_eq, zo_icmp_ne, zo_dup, zo_iconst, zo_iadd, zo_putfield, zo_putfield_2, zo_putfield_3, zo_goto, zb_10, zb_32, zi_1, zKd_10_7, zKd_10_6, zKd_10_0, zTy_10_7, sh_87, rf_87_0, sh_88, zcl_10, zcl_32, zcl_1, zvi_10_700, zvi_32_700, zvi_1_700, zPutC, zKn_s, zKn_0, zFind, h6, h7, hx, hv, t1, y10, y32, nI_1, nI_clamp (n := i) (by omega), zN10, zN01, not_true_eq_false, not_false_eq_true, false_implies, true_implies, implies_true, eq_self, nI_1, nI_40, nI_7, vz0, vz1, zb1_e0, zb1_n0]
      rcases hsp with g | g
      · simp [g]; exact go
      · simp [g]; exact go
    | false =>
      rw [if_neg (by rw [hb]; decide)] at hQ
      have hsp : ¬ (T i = 32 ∨ T i = 10) := by
        unfold oSpc at hb
        intro q
        simp at hb
        omega
      have n32 : (T i = 32) = False := eq_false (fun g => hsp (Or.inl g))
      have n10 : (T i = 10) = False := eq_false (fun g => hsp (Or.inr g))
      have key := mo_tk52 (w := w) (Q := Q) (L := L) (p := p) (s := s) (r := r) (T := T) h6 h7 (by omega) he hw ht hW hQ
      refine zBlkR (M := mX10_token) (nL := 1) (rt := (Option.none : Option Jvm.ClassFile.FieldType)) (blk := bX10_token_0) (T := [(39, bX10_token_39)]) 1 hX10_token_0 (zChks_cons hX10_token_39 zChks_nil) rfl rfl rfl (Nat.le_of_ble_eq_true rfl) (Nat.le_of_ble_eq_true rfl) ?_
      simp (implicitDefEqProofs := false) only [bX10_token_0, bX10_token_39, zRun_cons, zRun_nil, zLk, zSto, zIns, zFil, zf0, zf1, zf2, zf3, List.filter_cons, List.filter_nil, Nat.reduceAdd, Nat.reduceEqDiff, Nat.reduceLT, Nat.reduceLeDiff, Nat.reduceBEq, Nat.reduceBNe, reduceIte, if_true, if_false, Bool.false_and, Bool.true_and, Bool.and_true, Bool.and_false, Bool.not_false, Bool.not_true, Bool.false_eq_true, beq_self_eq_true, BEq.rfl, zCat1, zCat2, zCat3, zKdI, zKdL, zKdR, true_and, and_true, zSI, zSL, zSR, zu_at, and_self, and_false, false_and, lv_args, zKdZ, zKdO, zB01, zB11, Option.toList_none, Option.toList_some, List.nil_append, List.cons_append, true_or, or_true, zRow_rd, zu_rd, zo_aload_n, zo_getfield, zo_icmp_ge, zo_iaload, zo_bipush, zo_icmp_eq, zo_icmp_ne, zo_dup, zo_iconst, zo_iadd, zo_putfield, zo_putfield_2, zo_putfield_3, zo_goto, zb_10, zb_32, zi_1, zKd_10_7, zKd_10_6, zKd_10_0, zTy_10_7, sh_87, rf_87_0, sh_88, zcl_10, zcl_32, zcl_1, zvi_10_700, zvi_32_700, zvi_1_700, zPutC, zKn_s, zKn_0, zFind, h6, h7, hx, hv, t1, y10, y32, n32, n10, nI_clamp (n := i) (by omega), zN10, zN01, not_true_eq_false, not_false_eq_true, false_implies, true_implies, implies_true, eq_self, nI_1, nI_40, nI_7, vz0, vz1, zb1_e0, zb1_n0]
      exact key
end ZN98p
