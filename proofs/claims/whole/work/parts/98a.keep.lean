/-! ===== KEEP AND BACK: both sides ===== -/
def SCp (i k : Nat) : Prop := (28 ≤ i ∧ i ≤ 36) ∨ (i = 0 ∧ k = 14)
def SCpL (i _k : Nat) : Prop := i = 28
def SCb (i k : Nat) : Prop := (10 ≤ i ∧ i ≤ 18) ∨ (i = 43 ∧ k = 4)
def SCbL (i _k : Nat) : Prop := i = 10
/-- the reference's image -/
def zrIm (I : Nat → Nat → Int32) (L : Nat → Nat → Int64) (V : Nat → Nat → Int32) (d : Int64) (t kc : Nat) (rt : oRt) : Prop := (∀ i c, 1 ≤ i → i ≤ 5 → c < 40 → I (131 + i) c = V i c) ∧ (∀ c, c < 7 → I 137 c = V 8 c) ∧ I 87 91 = nI t ∧ I 87 92 = nI kc ∧ I 87 93 = nI rt.1 ∧ I 87 94 = nI rt.2.1 ∧ (∀ k, k < rt.1 → I 138 k = nI (rt.2.2 k)) ∧ L 87 95 = d ∧ zV V = V
def SRi (i k : Nat) : Prop := (i = 87 ∧ (k = 2 ∨ (90 ≤ k ∧ k ≤ 94))) ∨ (132 ≤ i ∧ i ≤ 138)
def SRiL (i k : Nat) : Prop := i = 87 ∧ k = 95
def zS132 (i _k : Nat) : Prop := 132 ≤ i ∧ i ≤ 136
def SRb (i k : Nat) : Prop := (i = 87 ∧ (k = 2 ∨ k = 55 ∨ k = 56 ∨ k = 64 ∨ k = 65 ∨ k = 78)) ∨ (114 ≤ i ∧ i ≤ 118 ∧ k < 40) ∨ (i = 119 ∧ k < 7) ∨ i = 121
def SRbL (i k : Nat) : Prop := i = 120 ∧ k = 0
def zS118 (i k : Nat) : Prop := 114 ≤ i ∧ i ≤ 118 ∧ k < 40
def zS119 (i k : Nat) : Prop := i = 119 ∧ k < 7
section ZK98
variable {w : zP} {Q : Option Value → zMem → Prop} {μ : zMem} {I J V V' S : Nat → Nat → Int32} {L K : Nat → Nat → Int64} {p s t kc kc' t' : Nat} {r : Option Nat} {P : oPn} {a b c i k q n l : Nat} {d d' : Int64} {rt rt' : oRt} {u : oUd} {x y wm : Int32} {m : oTm}
theorem zV_id {g : Nat → Nat → Int32} : zV (zV g) = zV g := by
  funext i c
  unfold zV
  split
  · rename_i h; subst h; split <;> simp [*]
  · split <;> simp [*]
theorem vR_id : zV (vR b I) = vR b I := zV_id
set_option maxRecDepth 20000 in
theorem cl_keep (hC : zKl I L p P V d t kc rt) (hQ : ∀ I' L', zKpt SCp I I' → zKpt SCpL L L' → zcFr I' L' 28 P V d t kc rt → I' 0 14 = 1 → Q (some (.int (nI t))) (SH, I', L', RF p s r)) : zXM w mX9_keep rX9_keep [.ref 0] (SH, I, L, RF p s r) Q := by
  unfold zXM
  obtain ⟨g1, g2, g3, g4, g5⟩ := hC.2.2.2.2.1
  refine zBlkR (M := mX9_keep) (nL := 1) (rt := (Option.some .int)) (blk := bX9_keep_0) (T := []) 0 hX9_keep_0 zChks_nil rfl rfl rfl (Nat.le_of_ble_eq_true rfl) (Nat.le_of_ble_eq_true rfl) ?_
  simp (implicitDefEqProofs := false) only [bX9_keep_0, zRun_cons, zRun_nil, zLk, zSto, zIns, zFil, zf0, zf1, zf2, zf3, List.filter_cons, List.filter_nil, Nat.reduceAdd, Nat.reduceEqDiff, Nat.reduceLT, Nat.reduceLeDiff, Nat.reduceBEq, Nat.reduceBNe, reduceIte, if_true, if_false, Bool.false_and, Bool.true_and, Bool.and_true, Bool.and_false, Bool.not_false, Bool.not_true, Bool.false_eq_true, beq_self_eq_true, BEq.rfl, zCat1, zCat2, zCat3, zKdI, zKdL, zKdR, true_and, and_true, zSI, zSL, zSR, zu_at, and_self, and_false, false_and, lv_args, zKdZ, zKdO, zB01, zB11, Option.toList_none, Option.toList_some, List.nil_append, List.cons_append, true_or, or_true, zRow_rd, zu_rd, zo_aload_n, zo_getfield, zKd_9_6, zKd_9_4, sh_0, rf_0_6, sh_28, rf_0_4, sh_10, zKn_0, zN10, zN01, not_true_eq_false, not_false_eq_true, false_implies, true_implies, implies_true, eq_self, nI_1, nI_40, nI_7, vz0, vz1, zb1_e0, zb1_n0]
  refine z_cV0 (M' := mX2_copyFrom) (R' := rX2_copyFrom) (i := 28) [.ref 10] [] eX2_copyFrom k9_319 (by decide +kernel : decode cX9_keep 8 = .ok (.invokevirtual 319, 3)) (Nat.le_of_ble_eq_true rfl) ⟨Nat.le_of_ble_eq_true rfl, Nat.le_of_ble_eq_true rfl, Nat.le_of_ble_eq_true rfl, Nat.le_of_ble_eq_true rfl, Nat.le_of_ble_eq_true rfl⟩ rfl rfl rfl sh_28 ?_
  refine cl_copy_10_28 (fun I1 L1 hc => ?_)
  have e10 : I1 10 10 = nI t := by rw [hc.1 10 10 (by unfold zIn9; omega)]; exact g2
  refine zBlkR (M := mX9_keep) (nL := 1) (rt := (Option.some .int)) (blk := bX9_keep_11) (T := []) 0 hX9_keep_11 zChks_nil rfl rfl rfl (Nat.le_of_ble_eq_true rfl) (Nat.le_of_ble_eq_true rfl) ?_
  simp (implicitDefEqProofs := false) only [bX9_keep_11, zRun_cons, zRun_nil, zLk, zSto, zIns, zFil, zf0, zf1, zf2, zf3, List.filter_cons, List.filter_nil, Nat.reduceAdd, Nat.reduceEqDiff, Nat.reduceLT, Nat.reduceLeDiff, Nat.reduceBEq, Nat.reduceBNe, reduceIte, if_true, if_false, Bool.false_and, Bool.true_and, Bool.and_true, Bool.and_false, Bool.not_false, Bool.not_true, Bool.false_eq_true, beq_self_eq_true, BEq.rfl, zCat1, zCat2, zCat3, zKdI, zKdL, zKdR, true_and, and_true, zSI, zSL, zSR, zu_at, and_self, and_false, false_and, lv_args, zKdZ, zKdO, zB01, zB11, Option.toList_none, Option.toList_some, List.nil_append, List.cons_append, true_or, or_true, zRow_rd, zu_rd, zo_aload_n, zo_iconst, zo_putfield, zo_putfield_2, zo_putfield_3, zo_getfield, zo_ireturn, zi_1, zKd_9_14, zTy_9_14, zKd_9_4, zKd_2_10, zcl_1, sh_0, rf_0_4, sh_10, sh_19, sh_28, zRt, zPutC, zKn_0, e10, zN10, zN01, not_true_eq_false, not_false_eq_true, false_implies, true_implies, implies_true, eq_self, nI_1, nI_40, nI_7, vz0, vz1, zb1_e0, zb1_n0]
  have rr : ∀ i, i ≠ 0 → zu I1 0 14 1 i = I1 i := fun i hi => funext fun j => by rw [zu_at, if_neg (fun g => hi g.1)]
  refine hQ _ L1 ((hc.1.mono (fun i k g => by unfold zIn9 at g; unfold SCp; omega)).u (by unfold SCp; omega)) (hc.2.1.mono (fun i k g => g)) ⟨?_, ?_, ?_, ?_, ?_⟩ (by simp [zu_at])
  · exact zFC_row (fun j hj => rr (28 + j) (by omega)) (zCop_FC hc g1)
  · rw [rr 28 (by omega), hc.2.2.2.2.2.1 10 (by omega) (by omega)]; exact g2
  · rw [rr 28 (by omega), hc.2.2.2.2.2.1 11 (by omega) (by omega)]; exact g3
  · have := zCop_Rt hc g4
    unfold zRtC at this ⊢
    rw [rr 28 (by omega)]; exact this
  · rw [hc.2.2.2.2.2.2.2]; exact g5
set_option maxRecDepth 20000 in
theorem cl_back (hC : zKl I L p P V d t kc rt) (h0 : I 0 14 = 0 → Q (some (.int (-1))) (SH, I, L, RF p s r)) (h1 : I 0 14 ≠ 0 → zcFr I L 28 P V' d' t' kc' rt' ∧ FrOk P V' t' kc' rt') (hQ : I 0 14 ≠ 0 → ∀ I' L', zKpt SCb I I' → zKpt SCbL L L' → zKl I' L' p P V' d' t' kc' rt' → I' 43 4 = 0 → Q (some (.int (nI t'))) (SH, I', L', RF p s r)) : zXM w mX9_back rX9_back [.ref 0] (SH, I, L, RF p s r) Q := by
  unfold zXM
  have hp := hC.1
  refine zBlkR (M := mX9_back) (nL := 1) (rt := (Option.some .int)) (blk := bX9_back_0) (T := [(9, bX9_back_9)]) 1 hX9_back_0 (zChks_cons hX9_back_9 zChks_nil) rfl rfl rfl (Nat.le_of_ble_eq_true rfl) (Nat.le_of_ble_eq_true rfl) ?_
  simp (implicitDefEqProofs := false) only [bX9_back_0, bX9_back_9, zRun_cons, zRun_nil, zLk, zSto, zIns, zFil, zf0, zf1, zf2, zf3, List.filter_cons, List.filter_nil, Nat.reduceAdd, Nat.reduceEqDiff, Nat.reduceLT, Nat.reduceLeDiff, Nat.reduceBEq, Nat.reduceBNe, reduceIte, if_true, if_false, Bool.false_and, Bool.true_and, Bool.and_true, Bool.and_false, Bool.not_false, Bool.not_true, Bool.false_eq_true, beq_self_eq_true, BEq.rfl, zCat1, zCat2, zCat3, zKdI, zKdL, zKdR, true_and, and_true, zSI, zSL, zSR, zu_at, and_self, and_false, false_and, lv_args, zKdZ, zKdO, zB01, zB11, Option.toList_none, Option.toList_some, List.nil_append, List.cons_append, true_or, or_true, zRow_rd, zu_rd, zo_aload_n, zo_getfield, zo_if_ne, zo_iconst, zo_ireturn, zi_m1, zKd_9_14, zKd_9_4, zKd_9_6, sh_0, rf_0_4, sh_10, rf_0_6, sh_28, zRt, zKn_s, zKn_0, zFind, zN10, zN01, not_true_eq_false, not_false_eq_true, false_implies, true_implies, implies_true, eq_self, nI_1, nI_40, nI_7, vz0, vz1, zb1_e0, zb1_n0]
  refine ⟨fun h => ?_, h0⟩
  obtain ⟨⟨g1, g2, g3, g4, g5⟩, hF⟩ := h1 h
  refine z_cV0 (M' := mX2_copyFrom) (R' := rX2_copyFrom) (i := 10) [.ref 28] [] eX2_copyFrom k9_319 (by decide +kernel : decode cX9_back 17 = .ok (.invokevirtual 319, 3)) (Nat.le_of_ble_eq_true rfl) ⟨Nat.le_of_ble_eq_true rfl, Nat.le_of_ble_eq_true rfl, Nat.le_of_ble_eq_true rfl, Nat.le_of_ble_eq_true rfl, Nat.le_of_ble_eq_true rfl⟩ rfl rfl rfl sh_10 ?_
  refine cl_copy_28_10 (fun I1 L1 hc => ?_)
  have e10 : I1 10 10 = nI t' := by rw [hc.2.2.2.2.2.1 10 (by omega) (by omega)]; exact g2
  refine zBlkR (M := mX9_back) (nL := 1) (rt := (Option.some .int)) (blk := bX9_back_20) (T := []) 0 hX9_back_20 zChks_nil rfl rfl rfl (Nat.le_of_ble_eq_true rfl) (Nat.le_of_ble_eq_true rfl) ?_
  simp (implicitDefEqProofs := false) only [bX9_back_20, zRun_cons, zRun_nil, zLk, zSto, zIns, zFil, zf0, zf1, zf2, zf3, List.filter_cons, List.filter_nil, Nat.reduceAdd, Nat.reduceEqDiff, Nat.reduceLT, Nat.reduceLeDiff, Nat.reduceBEq, Nat.reduceBNe, reduceIte, if_true, if_false, Bool.false_and, Bool.true_and, Bool.and_true, Bool.and_false, Bool.not_false, Bool.not_true, Bool.false_eq_true, beq_self_eq_true, BEq.rfl, zCat1, zCat2, zCat3, zKdI, zKdL, zKdR, true_and, and_true, zSI, zSL, zSR, zu_at, and_self, and_false, false_and, lv_args, zKdZ, zKdO, zB01, zB11, Option.toList_none, Option.toList_some, List.nil_append, List.cons_append, true_or, or_true, zRow_rd, zu_rd, zo_aload_n, zo_getfield, zo_iconst, zo_putfield, zo_putfield_2, zo_putfield_3, zo_ireturn, zi_0, zKd_9_9, zKd_1_4, zTy_1_4, zKd_9_4, zKd_2_10, sh_0, rf_0_9, sh_43, zcl_0, rf_0_4, sh_10, sh_19, sh_28, zRt, zPutC, zKn_0, e10, zN10, zN01, not_true_eq_false, not_false_eq_true, false_implies, true_implies, implies_true, eq_self, nI_1, nI_40, nI_7, vz0, vz1, zb1_e0, zb1_n0]
  have rr : ∀ i, i ≠ 43 → zu I1 43 4 0 i = I1 i := fun i hi => funext fun j => by rw [zu_at, if_neg (fun g => hi g.1)]
  have kk : zKpt SCb I (zu I1 43 4 0) := (hc.1.mono (fun i k g => by unfold zIn9 at g; unfold SCb; omega)).u (by unfold SCb; omega)
  refine hQ h _ L1 kk (hc.2.1.mono (fun i k g => g)) (zKl_fr hC (fun j => ?_) ⟨?_, ?_, ?_, ?_, ?_⟩ hF) (by simp [zu_at])
  · funext k
    exact kk (p + j) k (by unfold SCb; rcases hp with rfl | rfl <;> omega)
  · exact zFC_row (fun j hj => rr (10 + j) (by omega)) (zCop_FC hc g1)
  · rw [rr 10 (by omega)]; exact e10
  · rw [rr 10 (by omega), hc.2.2.2.2.2.1 11 (by omega) (by omega)]; exact g3
  · have := zCop_Rt hc g4
    unfold zRtC at this ⊢
    rw [rr 10 (by omega)]; exact this
  · rw [hc.2.2.2.2.2.2.2]; exact g5
set_option maxRecDepth 20000 in
theorem mo_keep (hR : zRl I L P V d t kc rt) (hQ : ∀ I' L', zKpt SRi I I' → zKpt SRiL L L' → zrIm I' L' V d t kc rt → I' 87 90 = 1 → Q (some (.int (nI t))) (SH, I', L', RF p s r)) : zXM w mX10_keep rX10_keep [.ref 87] (SH, I, L, RF p s r) Q := by
  unfold zXM
  obtain ⟨f1, f2, f3, f4, f5, f6, f7⟩ := hR.2.2.2.2.1
  have hpa : ∀ c, c < 40 → V 5 c = 0 ∨ V 5 c = 1 := fun c hc => oOk_pa hR.2.2.2.2.2.1 hc
  have r8 := hR.2.2.2.2.2.2.1.1
  have hV : ∀ i c, 1 ≤ i → i ≤ 5 → c < 40 → I (113 + i) c = V i c := fun i c h1 h2 h3 => by rw [← f1, vR_at ⟨h1, h2⟩ h3]; simp
  have hV8 : ∀ c, c < 7 → I 119 c = V 8 c := fun c h => by rw [← f1, vR_8 h]; simp
  have hid : zV V = V := by rw [← f1]; exact vR_id
  refine zBlkR (M := mX10_keep) (nL := 2) (rt := (Option.some .int)) (blk := bX10_keep_0) (T := []) 0 hX10_keep_0 zChks_nil rfl rfl rfl (Nat.le_of_ble_eq_true rfl) (Nat.le_of_ble_eq_true rfl) ?_
  simp (implicitDefEqProofs := false) only [bX10_keep_0, zRun_cons, zRun_nil, zLk, zSto, zIns, zFil, zf0, zf1, zf2, zf3, List.filter_cons, List.filter_nil, Nat.reduceAdd, Nat.reduceEqDiff, Nat.reduceLT, Nat.reduceLeDiff, Nat.reduceBEq, Nat.reduceBNe, reduceIte, if_true, if_false, Bool.false_and, Bool.true_and, Bool.and_true, Bool.and_false, Bool.not_false, Bool.not_true, Bool.false_eq_true, beq_self_eq_true, BEq.rfl, zCat1, zCat2, zCat3, zKdI, zKdL, zKdR, true_and, and_true, zSI, zSL, zSR, zu_at, and_self, and_false, false_and, lv_args, zKdZ, zKdO, zB01, zB11, Option.toList_none, Option.toList_some, List.nil_append, List.cons_append, true_or, or_true, zRow_rd, zu_rd, zo_aload_n, zo_iconst, zo_putfield, zo_putfield_2, zo_putfield_3, zo_getfield, zo_laload, zo_istore_n, zi_0, zi_1, zKd_10_2, zTy_10_2, zKd_10_90, zTy_10_90, zKd_10_55, zKd_10_91, zTy_10_91, zKd_10_56, zKd_10_92, zTy_10_92, zKd_10_64, zKd_10_93, zTy_10_93, zKd_10_65, zKd_10_94, zTy_10_94, zKd_10_63, zKd_10_95, zTy_10_95, zcl_0, sh_87, zcl_1, rf_87_63, sh_120, zvi_0_2, zvi_1_2, zPutC, zKn_0, f2, f3, f4, f5, f7, zN10, zN01, not_true_eq_false, not_false_eq_true, false_implies, true_implies, implies_true, eq_self, nI_1, nI_40, nI_7, vz0, vz1, zb1_e0, zb1_n0]
  have kI : zKpt SRi I (zu (zu (zu (zu (zu (zu I 87 2 0) 87 90 1) 87 91 (nI t)) 87 92 (nI kc)) 87 93 (nI rt.1)) 87 94 (nI rt.2.1)) := by
    refine (((((zKpt_rfl.u ?_).u ?_).u ?_).u ?_).u ?_).u ?_ <;> unfold SRi <;> omega
  have kL : zKpt SRiL L (zu L 87 95 d) := zKpt_rfl.u (by unfold SRiL; omega)
  have eL : zu L 87 95 d 87 95 = d := by simp [zu_at]
  have j90 : (zu (zu (zu (zu (zu (zu I 87 2 0) 87 90 1) 87 91 (nI t)) 87 92 (nI kc)) 87 93 (nI rt.1)) 87 94 (nI rt.2.1)) 87 90 = 1 := by simp [zu_at]
  have j91 : (zu (zu (zu (zu (zu (zu I 87 2 0) 87 90 1) 87 91 (nI t)) 87 92 (nI kc)) 87 93 (nI rt.1)) 87 94 (nI rt.2.1)) 87 91 = nI t := by simp [zu_at]
  have j92 : (zu (zu (zu (zu (zu (zu I 87 2 0) 87 90 1) 87 91 (nI t)) 87 92 (nI kc)) 87 93 (nI rt.1)) 87 94 (nI rt.2.1)) 87 92 = nI kc := by simp [zu_at]
  have j93 : (zu (zu (zu (zu (zu (zu I 87 2 0) 87 90 1) 87 91 (nI t)) 87 92 (nI kc)) 87 93 (nI rt.1)) 87 94 (nI rt.2.1)) 87 93 = nI rt.1 := by simp [zu_at]
  have j94 : (zu (zu (zu (zu (zu (zu I 87 2 0) 87 90 1) 87 91 (nI t)) 87 92 (nI kc)) 87 93 (nI rt.1)) 87 94 (nI rt.2.1)) 87 94 = nI rt.2.1 := by simp [zu_at]
  generalize zu (zu (zu (zu (zu (zu I 87 2 0) 87 90 1) 87 91 (nI t)) 87 92 (nI kc)) 87 93 (nI rt.1)) 87 94 (nI rt.2.1) = I1 at *
  generalize zu L 87 95 d = L1 at *
  have rI : ∀ i c, i ≠ 87 → ¬ (132 ≤ i ∧ i ≤ 138) → I1 i c = I i c := fun i c h1 h2 => kI i c (by unfold SRi; omega)
  have l3 : ∀ J0, zKpt SRi I J0 → (∀ k, 90 ≤ k → k ≤ 94 → J0 87 k = I1 87 k) → J0 87 55 = nI t → (∀ i c, 1 ≤ i → i ≤ 5 → c < 40 → J0 (131 + i) c = V i c) → (∀ c, c < 7 → J0 137 c = V 8 c) → zX w mX10_keep rX10_keep Q 0 0 154 [(0, Value.ref 87), (1, Value.int (nI 0))] [] (SH, J0, L1, RF p s r) := by
    intro J0 k0 h87 h55 h1 h2
    refine zLoop (n := 8) (P := fun a => ∀ J, zKpt (zS1 138) J0 J → (∀ i, i < a → J 138 i = I 121 i) → zX w mX10_keep rX10_keep Q 0 0 154 [(0, Value.ref 87), (1, Value.int (nI a))] [] (SH, J, L1, RF p s r)) (fun a ha ih => ?_) 0 (Nat.zero_le _) J0 zKpt_rfl (fun i hi => absurd hi (by omega))
    intro J hJ hnew
    have hr : ∀ i, i ≠ 138 → J i = J0 i := fun i hi => funext fun j => hJ i j hi
    by_cases hke : a = 8
    · subst hke
      have hx : ((8 : Int32) ≤ nI 8) = True := eq_true (by decide)
      have q55 : J 87 55 = nI t := by rw [hr 87 (by omega)]; exact h55
      refine zBlkR (M := mX10_keep) (nL := 2) (rt := (Option.some .int)) (blk := bX10_keep_154) (T := [(178, bX10_keep_178)]) 1 hX10_keep_154 (zChks_cons hX10_keep_178 zChks_nil) rfl rfl rfl (Nat.le_of_ble_eq_true rfl) (Nat.le_of_ble_eq_true rfl) ?_
      simp (implicitDefEqProofs := false) only [bX10_keep_154, bX10_keep_178, zRun_cons, zRun_nil, zLk, zSto, zIns, zFil, zf0, zf1, zf2, zf3, List.filter_cons, List.filter_nil, Nat.reduceAdd, Nat.reduceEqDiff, Nat.reduceLT, Nat.reduceLeDiff, Nat.reduceBEq, Nat.reduceBNe, reduceIte, if_true, if_false, Bool.false_and, Bool.true_and, Bool.and_true, Bool.and_false, Bool.not_false, Bool.not_true, Bool.false_eq_true, beq_self_eq_true, BEq.rfl, zCat1, zCat2, zCat3, zKdI, zKdL, zKdR, true_and, and_true, zSI, zSL, zSR, zu_at, and_self, and_false, false_and, lv_args, zKdZ, zKdO, zB01, zB11, Option.toList_none, Option.toList_some, List.nil_append, List.cons_append, true_or, or_true, zRow_rd, zu_rd, zo_iload_n, zo_bipush, zo_icmp_ge, zo_aload_n, zo_getfield, zo_iaload, zo_iastore, zo_iinc, zo_goto, zo_ireturn, zb_8, zi_1, zKd_10_102, zKd_10_66, zKd_10_55, zcl_8, sh_87, rf_87_102, sh_138, rf_87_66, sh_121, zRt, zKn_s, zKn_0, zFind, hx, q55, zN10, zN01, not_true_eq_false, not_false_eq_true, false_implies, true_implies, implies_true, eq_self, nI_1, nI_40, nI_7, vz0, vz1, zb1_e0, zb1_n0]
      refine hQ J L1 (k0.trans (hJ.mono (fun i k g => by unfold zS1 at g; unfold SRi; omega))) kL ⟨?_, ?_, ?_, ?_, ?_, ?_, ?_, eL, hid⟩ ?_
      · intro i c g1 g2 g3; rw [hr (131 + i) (by omega)]; exact h1 i c g1 g2 g3
      · intro c g; rw [hr 137 (by omega)]; exact h2 c g
      · rw [hr 87 (by omega), h87 91 (by omega) (by omega)]; exact j91
      · rw [hr 87 (by omega), h87 92 (by omega) (by omega)]; exact j92
      · rw [hr 87 (by omega), h87 93 (by omega) (by omega)]; exact j93
      · rw [hr 87 (by omega), h87 94 (by omega) (by omega)]; exact j94
      · intro k hk; rw [hnew k (by omega)]; exact f6 k hk
      · rw [hr 87 (by omega), h87 90 (by omega) (by omega)]; exact j90
    · have hx : ((8 : Int32) ≤ nI a) = False := eq_false (by rw [show (8 : Int32) = nI 8 from rfl, zle_nat (by omega) (by omega)]; omega)
      have hv : vp_in (nI a) 8 := zvn (by omega) (by omega)
      have q : J 121 a = I 121 a := by rw [hr 121 (by omega)]; exact k0 121 a (by unfold SRi; omega)
      refine zBlkR (M := mX10_keep) (nL := 2) (rt := (Option.some .int)) (blk := bX10_keep_154) (T := [(178, bX10_keep_178)]) 1 hX10_keep_154 (zChks_cons hX10_keep_178 zChks_nil) rfl rfl rfl (Nat.le_of_ble_eq_true rfl) (Nat.le_of_ble_eq_true rfl) ?_
      simp (implicitDefEqProofs := false) only [bX10_keep_154, bX10_keep_178, zRun_cons, zRun_nil, zLk, zSto, zIns, zFil, zf0, zf1, zf2, zf3, List.filter_cons, List.filter_nil, Nat.reduceAdd, Nat.reduceEqDiff, Nat.reduceLT, Nat.reduceLeDiff, Nat.reduceBEq, Nat.reduceBNe, reduceIte, if_true, if_false, Bool.false_and, Bool.true_and, Bool.and_true, Bool.and_false, Bool.not_false, Bool.not_true, Bool.false_eq_true, beq_self_eq_true, BEq.rfl, zCat1, zCat2, zCat3, zKdI, zKdL, zKdR, true_and, and_true, zSI, zSL, zSR, zu_at, and_self, and_false, false_and, lv_args, zKdZ, zKdO, zB01, zB11, Option.toList_none, Option.toList_some, List.nil_append, List.cons_append, true_or, or_true, zRow_rd, zu_rd, zo_iload_n, zo_bipush, zo_icmp_ge, zo_aload_n, zo_getfield, zo_iaload, zo_iastore, zo_iinc, zo_goto, zo_ireturn, zb_8, zi_1, zKd_10_102, zKd_10_66, zKd_10_55, zcl_8, sh_87, rf_87_102, sh_138, rf_87_66, sh_121, zRt, zKn_s, zKn_0, zFind, hx, hv, q, nI_clamp (n := a) (by omega), zN10, zN01, not_true_eq_false, not_false_eq_true, false_implies, true_implies, implies_true, eq_self, nI_1, nI_40, nI_7, vz0, vz1, zb1_e0, zb1_n0]
      refine ih (by omega) _ (hJ.u rfl) (fun i hi => ?_)
      by_cases e : i = a
      · subst e; rw [zu_at, if_pos ⟨rfl, rfl⟩]
      · rw [zu_at, if_neg (by omega)]; exact hnew i (by omega)
  have l2 : ∀ J0, zKpt SRi I J0 → (∀ k, J0 87 k = I1 87 k) → (∀ i c, 1 ≤ i → i ≤ 5 → c < 40 → J0 (131 + i) c = V i c) → zX w mX10_keep rX10_keep Q 0 0 128 [(0, Value.ref 87), (1, Value.int (nI 0))] [] (SH, J0, L1, RF p s r) := by
    intro J0 k0 h87 h1
    refine zLoop (n := 7) (P := fun a => ∀ J, zKpt (zS1 137) J0 J → (∀ i, i < a → J 137 i = V 8 i) → zX w mX10_keep rX10_keep Q 0 0 128 [(0, Value.ref 87), (1, Value.int (nI a))] [] (SH, J, L1, RF p s r)) (fun a ha ih => ?_) 0 (Nat.zero_le _) J0 zKpt_rfl (fun i hi => absurd hi (by omega))
    intro J hJ hnew
    have hr : ∀ i, i ≠ 137 → J i = J0 i := fun i hi => funext fun j => hJ i j hi
    by_cases hke : a = 7
    · subst hke
      have hx : ((7 : Int32) ≤ nI 7) = True := eq_true (by decide)
      refine zBlkR (M := mX10_keep) (nL := 2) (rt := (Option.some .int)) (blk := bX10_keep_128) (T := [(152, bX10_keep_152)]) 1 hX10_keep_128 (zChks_cons hX10_keep_152 zChks_nil) rfl rfl rfl (Nat.le_of_ble_eq_true rfl) (Nat.le_of_ble_eq_true rfl) ?_
      simp (implicitDefEqProofs := false) only [bX10_keep_128, bX10_keep_152, zRun_cons, zRun_nil, zLk, zSto, zIns, zFil, zf0, zf1, zf2, zf3, List.filter_cons, List.filter_nil, Nat.reduceAdd, Nat.reduceEqDiff, Nat.reduceLT, Nat.reduceLeDiff, Nat.reduceBEq, Nat.reduceBNe, reduceIte, if_true, if_false, Bool.false_and, Bool.true_and, Bool.and_true, Bool.and_false, Bool.not_false, Bool.not_true, Bool.false_eq_true, beq_self_eq_true, BEq.rfl, zCat1, zCat2, zCat3, zKdI, zKdL, zKdR, true_and, and_true, zSI, zSL, zSR, zu_at, and_self, and_false, false_and, lv_args, zKdZ, zKdO, zB01, zB11, Option.toList_none, Option.toList_some, List.nil_append, List.cons_append, true_or, or_true, zRow_rd, zu_rd, zo_iload_n, zo_bipush, zo_icmp_ge, zo_aload_n, zo_getfield, zo_iaload, zo_iastore, zo_iinc, zo_goto, zo_iconst, zo_istore_n, zb_7, zi_1, zi_0, zKd_10_101, zKd_10_62, zcl_7, sh_87, rf_87_101, sh_137, rf_87_62, sh_119, zcl_0, zvi_7_14, zvi_0_7, zvi_0_14, zKn_s, zKn_0, zFind, hx, zN10, zN01, not_true_eq_false, not_false_eq_true, false_implies, true_implies, implies_true, eq_self, nI_1, nI_40, nI_7, vz0, vz1, zb1_e0, zb1_n0]
      refine l3 J (k0.trans (hJ.mono (fun i k g => by unfold zS1 at g; unfold SRi; omega))) (fun k _ _ => by rw [hr 87 (by omega)]; exact h87 k) (by rw [hr 87 (by omega), k0 87 55 (by unfold SRi; omega)]; exact f2) (fun i c g1 g2 g3 => by rw [hr (131 + i) (by omega)]; exact h1 i c g1 g2 g3) hnew
    · have hx : ((7 : Int32) ≤ nI a) = False := eq_false (by rw [show (7 : Int32) = nI 7 from rfl, zle_nat (by omega) (by omega)]; omega)
      have hv : vp_in (nI a) 7 := zvn (by omega) (by omega)
      have hv1 : vp_in (nI a) 14 := zvn (by omega) (by omega)
      have q : J 119 a = V 8 a := by rw [hr 119 (by omega), k0 119 a (by unfold SRi; omega)]; exact hV8 a (by omega)
      refine zBlkR (M := mX10_keep) (nL := 2) (rt := (Option.some .int)) (blk := bX10_keep_128) (T := [(152, bX10_keep_152)]) 1 hX10_keep_128 (zChks_cons hX10_keep_152 zChks_nil) rfl rfl rfl (Nat.le_of_ble_eq_true rfl) (Nat.le_of_ble_eq_true rfl) ?_
      simp (implicitDefEqProofs := false) only [bX10_keep_128, bX10_keep_152, zRun_cons, zRun_nil, zLk, zSto, zIns, zFil, zf0, zf1, zf2, zf3, List.filter_cons, List.filter_nil, Nat.reduceAdd, Nat.reduceEqDiff, Nat.reduceLT, Nat.reduceLeDiff, Nat.reduceBEq, Nat.reduceBNe, reduceIte, if_true, if_false, Bool.false_and, Bool.true_and, Bool.and_true, Bool.and_false, Bool.not_false, Bool.not_true, Bool.false_eq_true, beq_self_eq_true, BEq.rfl, zCat1, zCat2, zCat3, zKdI, zKdL, zKdR, true_and, and_true, zSI, zSL, zSR, zu_at, and_self, and_false, false_and, lv_args, zKdZ, zKdO, zB01, zB11, Option.toList_none, Option.toList_some, List.nil_append, List.cons_append, true_or, or_true, zRow_rd, zu_rd, zo_iload_n, zo_bipush, zo_icmp_ge, zo_aload_n, zo_getfield, zo_iaload, zo_iastore, zo_iinc, zo_goto, zo_iconst, zo_istore_n, zb_7, zi_1, zi_0, zKd_10_101, zKd_10_62, zcl_7, sh_87, rf_87_101, sh_137, rf_87_62, sh_119, zcl_0, zvi_7_14, zvi_0_7, zvi_0_14, zKn_s, zKn_0, zFind, hx, hv, hv1, q, nI_clamp (n := a) (by omega), zN10, zN01, not_true_eq_false, not_false_eq_true, false_implies, true_implies, implies_true, eq_self, nI_1, nI_40, nI_7, vz0, vz1, zb1_e0, zb1_n0]
      refine ih (by omega) _ (hJ.u rfl) (fun i hi => ?_)
      by_cases e : i = a
      · subst e; rw [zu_at, if_pos ⟨rfl, rfl⟩]
      · rw [zu_at, if_neg (by omega)]; exact hnew i (by omega)
  refine zLoop (n := 40) (P := fun a => ∀ J, zKpt zS132 I1 J → (∀ i c, 1 ≤ i → i ≤ 5 → c < a → J (131 + i) c = V i c) → zX w mX10_keep rX10_keep Q 0 0 54 [(0, Value.ref 87), (1, Value.int (nI a))] [] (SH, J, L1, RF p s r)) (fun a ha ih => ?_) 0 (Nat.zero_le _) I1 zKpt_rfl (fun i c _ _ hi => absurd hi (by omega))
  intro J hJ hnew
  by_cases hke : a = 40
  · subst hke
    have hx : ((40 : Int32) ≤ nI 40) = True := eq_true (by decide)
    refine zBlkR (M := mX10_keep) (nL := 2) (rt := (Option.some .int)) (blk := bX10_keep_54) (T := [(126, bX10_keep_126)]) 1 hX10_keep_54 (zChks_cons hX10_keep_126 zChks_nil) rfl rfl rfl (Nat.le_of_ble_eq_true rfl) (Nat.le_of_ble_eq_true rfl) ?_
    simp (implicitDefEqProofs := false) only [bX10_keep_54, bX10_keep_126, zRun_cons, zRun_nil, zLk, zSto, zIns, zFil, zf0, zf1, zf2, zf3, List.filter_cons, List.filter_nil, Nat.reduceAdd, Nat.reduceEqDiff, Nat.reduceLT, Nat.reduceLeDiff, Nat.reduceBEq, Nat.reduceBNe, reduceIte, if_true, if_false, Bool.false_and, Bool.true_and, Bool.and_true, Bool.and_false, Bool.not_false, Bool.not_true, Bool.false_eq_true, beq_self_eq_true, BEq.rfl, zCat1, zCat2, zCat3, zKdI, zKdL, zKdR, true_and, and_true, zSI, zSL, zSR, zu_at, and_self, and_false, false_and, lv_args, zKdZ, zKdO, zB01, zB11, Option.toList_none, Option.toList_some, List.nil_append, List.cons_append, true_or, or_true, zRow_rd, zu_rd, zo_iload_n, zo_bipush, zo_icmp_ge, zo_aload_n, zo_getfield, zo_iaload, zo_iastore, zo_baload, zo_bastore, zo_iinc, zo_goto, zo_iconst, zo_istore_n, zb_40, zi_1, zi_0, zKd_10_96, zKd_10_57, zKd_10_97, zKd_10_58, zKd_10_98, zKd_10_59, zKd_10_99, zKd_10_60, zKd_10_100, zKd_10_61, zcl_40, sh_87, rf_87_96, sh_132, rf_87_57, sh_114, rf_87_97, sh_133, rf_87_58, sh_115, rf_87_98, sh_134, rf_87_59, sh_116, rf_87_99, sh_135, rf_87_60, sh_117, rf_87_100, sh_136, rf_87_61, sh_118, zcl_0, zvi_40_80, zvi_0_40, zvi_0_80, zKn_s, zKn_0, zFind, hx, zN10, zN01, not_true_eq_false, not_false_eq_true, false_implies, true_implies, implies_true, eq_self, nI_1, nI_40, nI_7, vz0, vz1, zb1_e0, zb1_n0]
    exact l2 J (kI.trans (hJ.mono (fun i k g => by unfold zS132 at g; unfold SRi; omega))) (fun k => hJ 87 k (by unfold zS132; omega)) hnew
  · have hx : ((40 : Int32) ≤ nI a) = False := eq_false (by rw [show (40 : Int32) = nI 40 from rfl, zle_nat (by omega) (by omega)]; omega)
    have hv : vp_in (nI a) 40 := zvn (by omega) (by omega)
    have hv1 : vp_in (nI a) 80 := zvn (by omega) (by omega)
    have q : ∀ i, 1 ≤ i → i ≤ 5 → J (113 + i) a = V i a := fun i h1 h2 => by rw [hJ _ a (by unfold zS132; omega), rI _ a (by omega) (by omega)]; exact hV i a h1 h2 (by omega)
    have q1 : J 114 a = V 1 a := q 1 (by omega) (by omega)
    have q2 : J 115 a = V 2 a := q 2 (by omega) (by omega)
    have q3 : J 116 a = V 3 a := q 3 (by omega) (by omega)
    have q4 : J 117 a = V 4 a := q 4 (by omega) (by omega)
    have q5 : J 118 a = V 5 a := q 5 (by omega) (by omega)
    have q5b := vnb (hpa a (by omega))
    refine zBlkR (M := mX10_keep) (nL := 2) (rt := (Option.some .int)) (blk := bX10_keep_54) (T := [(126, bX10_keep_126)]) 1 hX10_keep_54 (zChks_cons hX10_keep_126 zChks_nil) rfl rfl rfl (Nat.le_of_ble_eq_true rfl) (Nat.le_of_ble_eq_true rfl) ?_
    simp (implicitDefEqProofs := false) only [bX10_keep_54, bX10_keep_126, zRun_cons, zRun_nil, zLk, zSto, zIns, zFil, zf0, zf1, zf2, zf3, List.filter_cons, List.filter_nil, Nat.reduceAdd, Nat.reduceEqDiff, Nat.reduceLT, Nat.reduceLeDiff, Nat.reduceBEq, Nat.reduceBNe, reduceIte, if_true, if_false, Bool.false_and, Bool.true_and, Bool.and_true, Bool.and_false, Bool.not_false, Bool.not_true, Bool.false_eq_true, beq_self_eq_true, BEq.rfl, zCat1, zCat2, zCat3, zKdI, zKdL, zKdR, true_and, and_true, zSI, zSL, zSR, zu_at, and_self, and_false, false_and, lv_args, zKdZ, zKdO, zB01, zB11, Option.toList_none, Option.toList_some, List.nil_append, List.cons_append, true_or, or_true, zRow_rd, zu_rd, zo_iload_n, zo_bipush, zo_icmp_ge, zo_aload_n, zo_getfield, zo_iaload, zo_iastore, zo_baload, zo_bastore, zo_iinc, zo_goto, zo_iconst, zo_istore_n, zb_40, zi_1, zi_0, zKd_10_96, zKd_10_57, zKd_10_97, zKd_10_58, zKd_10_98, zKd_10_59, zKd_10_99, zKd_10_60, zKd_10_100, zKd_10_61, zcl_40, sh_87, rf_87_96, sh_132, rf_87_57, sh_114, rf_87_97, sh_133, rf_87_58, sh_115, rf_87_98, sh_134, rf_87_59, sh_116, rf_87_99, sh_135, rf_87_60, sh_117, rf_87_100, sh_136, rf_87_61, sh_118, zcl_0, zvi_40_80, zvi_0_40, zvi_0_80, zKn_s, zKn_0, zFind, hx, hv, hv1, q1, q2, q3, q4, q5, q5b, nI_clamp (n := a) (by omega), zN10, zN01, not_true_eq_false, not_false_eq_true, false_implies, true_implies, implies_true, eq_self, nI_1, nI_40, nI_7, vz0, vz1, zb1_e0, zb1_n0]
    refine ih (by omega) _ (((((hJ.u ?_).u ?_).u ?_).u ?_).u ?_) (fun i c g1 g2 hi => ?_)
    · unfold zS132; omega
    · unfold zS132; omega
    · unfold zS132; omega
    · unfold zS132; omega
    · unfold zS132; omega
    · by_cases e : c = a
      · subst e
        have : i = 1 ∨ i = 2 ∨ i = 3 ∨ i = 4 ∨ i = 5 := by omega
        rcases this with rfl | rfl | rfl | rfl | rfl <;> simp [zu_at]
      · simp [zu_at, e]; exact hnew i c g1 g2 (by omega)
end ZK98
