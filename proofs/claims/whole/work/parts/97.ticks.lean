/-! ===== TICKS: both sides ===== -/
def SCk (i k : Nat) : Prop := (10 ≤ i ∧ i ≤ 18) ∨ (i = 43 ∧ k = 4)
def SCkL (i _k : Nat) : Prop := i = 10 ∨ i = 38 ∨ i = 39
def SRk (i k : Nat) : Prop := (i = 87 ∧ (k = 55 ∨ k = 56 ∨ k = 78)) ∨ SRt i k ∨ zFR 0 i k
def SRkL (i _k : Nat) : Prop := i = 112 ∨ i = 113 ∨ i = 120
def zFRt (i k : Nat) : Prop := (i = 87 ∧ (k = 55 ∨ k = 56)) ∨ zFR 0 i k
/-- nothing to undo -/
def uNil (V : Nat → Nat → Int32) (K : Nat) (R : oRt) : oUd := (0, fun _ => 0, fun _ => 0, fun _ => 0, fun _ => 0, fun _ => V, fun _ => K, fun _ => R)
section ZT97
variable {w : zP} {Q : Option Value → zMem → Prop} {μ : zMem} {I J V V' S : Nat → Nat → Int32} {L K : Nat → Nat → Int64} {p s t kc kc' : Nat} {r : Option Nat} {P : oPn} {a b c i k q n l : Nat} {d d' : Int64} {rt rt' : oRt} {u : oUd} {x y wm : Int32} {m : oTm}
theorem UdOk_nil : UdOk P t V kc rt (uNil V kc rt) := ⟨by show 0 ≤ 20; omega, fun _ _ => ⟨rfl, rfl⟩, rfl, rfl, fun k hk => absurd hk (by show ¬ k < 0; omega)⟩
theorem zcDeeds_nil (h : I 43 4 = 0) : zcDeeds I L (uNil V kc rt) := ⟨h, fun k hk => absurd hk (by show ¬ k < 0; omega)⟩
theorem zrUndo_nil (h : I 87 78 = 0) : zrUndo I (uNil V kc rt) := ⟨h, fun k hk => absurd hk (by show ¬ k < 0; omega)⟩
set_option maxRecDepth 20000 in
theorem cl_ticks (hw : zOk w) (hC : zKl I L p P V d t kc rt) (hM : zClsM (I 8) (mTold P)) (h82 : I 8 2 = -1) (hbad : pRun t x = false → Q (some (.int (-1))) (SH, I, L, RF p s r)) (hQ : ∀ n, x = nI n → t + n ≤ 96 → ∀ I' L', zKpt SCk I I' → zKpt SCkL L L' → zKl I' L' p P (oGs P (mTold P) rt t n (V, d)).1 (oGs P (mTold P) rt t n (V, d)).2 (t + n) (if n = 0 then kc else 0) rt → I' 43 4 = (if n = 0 then I 43 4 else 0) → Q (some (.int (nI (t + n)))) (SH, I', L', RF p s r)) : zXM w mX9_ticks rX9_ticks [.ref 0, .int x] (SH, I, L, RF p s r) Q := by
  unfold zXM
  have hp := hC.1
  have h9 := hC.2.2.2.2.2.2.2.1
  obtain ⟨g1, g2, g3, g4, g5⟩ := hC.2.2.2.2.1
  refine zBlkR (M := mX9_ticks) (nL := 2) (rt := (Option.some .int)) (blk := bX9_ticks_0) (T := []) 0 hX9_ticks_0 zChks_nil rfl rfl rfl (Nat.le_of_ble_eq_true rfl) (Nat.le_of_ble_eq_true rfl) ?_
  simp (implicitDefEqProofs := false) only [bX9_ticks_0, zRun_cons, zRun_nil, zLk, zSto, zIns, zFil, zf0, zf1, zf2, zf3, List.filter_cons, List.filter_nil, Nat.reduceAdd, Nat.reduceEqDiff, Nat.reduceLT, Nat.reduceLeDiff, Nat.reduceBEq, Nat.reduceBNe, reduceIte, if_true, if_false, Bool.false_and, Bool.true_and, Bool.and_true, Bool.and_false, Bool.not_false, Bool.not_true, Bool.false_eq_true, beq_self_eq_true, BEq.rfl, zCat1, zCat2, zCat3, zKdI, zKdL, zKdR, true_and, and_true, zSI, zSL, zSR, zu_at, and_self, and_false, false_and, lv_args, zKdZ, zKdO, zB01, zB11, Option.toList_none, Option.toList_some, List.nil_append, List.cons_append, true_or, or_true, zRow_rd, zu_rd, zo_aload_n, zo_iload_n, zKn_0, zN10, zN01, not_true_eq_false, not_false_eq_true, false_implies, true_implies, implies_true, eq_self, nI_1, nI_40, nI_7, vz0, vz1, zb1_e0, zb1_n0]
  refine z_cV0 (M' := mX9_hasRun) (R' := rX9_hasRun) (i := 0) [.int x] [] eX9_hasRun k9_217 (by decide +kernel : decode cX9_ticks 2 = .ok (.invokevirtual 217, 3)) (Nat.le_of_ble_eq_true rfl) ⟨Nat.le_of_ble_eq_true rfl, Nat.le_of_ble_eq_true rfl, Nat.le_of_ble_eq_true rfl, Nat.le_of_ble_eq_true rfl, Nat.le_of_ble_eq_true rfl⟩ rfl rfl rfl sh_0 ?_
  refine cl_hasRun g2 h9 ?_
  cases hr : pRun t x with
  | false =>
    refine zBlkR (M := mX9_ticks) (nL := 2) (rt := (Option.some .int)) (blk := bX9_ticks_5) (T := [(10, bX9_ticks_10), (30, bX9_ticks_30)]) 2 hX9_ticks_5 (zChks_cons hX9_ticks_10 (zChks_cons hX9_ticks_30 zChks_nil)) rfl rfl rfl (Nat.le_of_ble_eq_true rfl) (Nat.le_of_ble_eq_true rfl) ?_
    simp (implicitDefEqProofs := false) only [bX9_ticks_5, bX9_ticks_10, bX9_ticks_30, zRun_cons, zRun_nil, zLk, zSto, zIns, zFil, zf0, zf1, zf2, zf3, List.filter_cons, List.filter_nil, Nat.reduceAdd, Nat.reduceEqDiff, Nat.reduceLT, Nat.reduceLeDiff, Nat.reduceBEq, Nat.reduceBNe, reduceIte, if_true, if_false, Bool.false_and, Bool.true_and, Bool.and_true, Bool.and_false, Bool.not_false, Bool.not_true, Bool.false_eq_true, beq_self_eq_true, BEq.rfl, zCat1, zCat2, zCat3, zKdI, zKdL, zKdR, true_and, and_true, zSI, zSL, zSR, zu_at, and_self, and_false, false_and, lv_args, zKdZ, zKdO, zB01, zB11, Option.toList_none, Option.toList_some, List.nil_append, List.cons_append, true_or, or_true, zRow_rd, zu_rd, zo_if_ne, zo_iconst, zo_ireturn, zo_iload_n, zo_if_le, zo_aload_n, zo_getfield, zi_m1, zKd_9_7, zKd_9_4, zKd_2_10, sh_0, rf_0_7, sh_37, rf_0_4, sh_10, sh_19, sh_28, zRt, zKn_s, zKn_0, zFind, zb1_f, zN10, zN01, not_true_eq_false, not_false_eq_true, false_implies, true_implies, implies_true, eq_self, nI_1, nI_40, nI_7, vz0, vz1, zb1_e0, zb1_n0]
    exact hbad hr
  | true =>
    obtain ⟨n, e, hn⟩ := pRun_t hr h9
    subst e
    have hQ := hQ n rfl hn
    by_cases h0 : n = 0
    · subst h0
      have hx : (nI 0 ≤ 0) = True := eq_true (by decide)
      refine zBlkR (M := mX9_ticks) (nL := 2) (rt := (Option.some .int)) (blk := bX9_ticks_5) (T := [(10, bX9_ticks_10), (30, bX9_ticks_30)]) 2 hX9_ticks_5 (zChks_cons hX9_ticks_10 (zChks_cons hX9_ticks_30 zChks_nil)) rfl rfl rfl (Nat.le_of_ble_eq_true rfl) (Nat.le_of_ble_eq_true rfl) ?_
      simp (implicitDefEqProofs := false) only [bX9_ticks_5, bX9_ticks_10, bX9_ticks_30, zRun_cons, zRun_nil, zLk, zSto, zIns, zFil, zf0, zf1, zf2, zf3, List.filter_cons, List.filter_nil, Nat.reduceAdd, Nat.reduceEqDiff, Nat.reduceLT, Nat.reduceLeDiff, Nat.reduceBEq, Nat.reduceBNe, reduceIte, if_true, if_false, Bool.false_and, Bool.true_and, Bool.and_true, Bool.and_false, Bool.not_false, Bool.not_true, Bool.false_eq_true, beq_self_eq_true, BEq.rfl, zCat1, zCat2, zCat3, zKdI, zKdL, zKdR, true_and, and_true, zSI, zSL, zSR, zu_at, and_self, and_false, false_and, lv_args, zKdZ, zKdO, zB01, zB11, Option.toList_none, Option.toList_some, List.nil_append, List.cons_append, true_or, or_true, zRow_rd, zu_rd, zo_if_ne, zo_iconst, zo_ireturn, zo_iload_n, zo_if_le, zo_aload_n, zo_getfield, zi_m1, zKd_9_7, zKd_9_4, zKd_2_10, sh_0, rf_0_7, sh_37, rf_0_4, sh_10, sh_19, sh_28, zRt, zKn_s, zKn_0, zFind, zb1_t, hx, g2, zN10, zN01, not_true_eq_false, not_false_eq_true, false_implies, true_implies, implies_true, eq_self, nI_1, nI_40, nI_7, vz0, vz1, zb1_e0, zb1_n0]
      exact hQ I L zKpt_rfl zKpt_rfl hC rfl
    · have hx : (nI n ≤ 0) = False := eq_false (nI_nle (by omega) (by omega))
      refine zBlkR (M := mX9_ticks) (nL := 2) (rt := (Option.some .int)) (blk := bX9_ticks_5) (T := [(10, bX9_ticks_10), (30, bX9_ticks_30)]) 2 hX9_ticks_5 (zChks_cons hX9_ticks_10 (zChks_cons hX9_ticks_30 zChks_nil)) rfl rfl rfl (Nat.le_of_ble_eq_true rfl) (Nat.le_of_ble_eq_true rfl) ?_
      simp (implicitDefEqProofs := false) only [bX9_ticks_5, bX9_ticks_10, bX9_ticks_30, zRun_cons, zRun_nil, zLk, zSto, zIns, zFil, zf0, zf1, zf2, zf3, List.filter_cons, List.filter_nil, Nat.reduceAdd, Nat.reduceEqDiff, Nat.reduceLT, Nat.reduceLeDiff, Nat.reduceBEq, Nat.reduceBNe, reduceIte, if_true, if_false, Bool.false_and, Bool.true_and, Bool.and_true, Bool.and_false, Bool.not_false, Bool.not_true, Bool.false_eq_true, beq_self_eq_true, BEq.rfl, zCat1, zCat2, zCat3, zKdI, zKdL, zKdR, true_and, and_true, zSI, zSL, zSR, zu_at, and_self, and_false, false_and, lv_args, zKdZ, zKdO, zB01, zB11, Option.toList_none, Option.toList_some, List.nil_append, List.cons_append, true_or, or_true, zRow_rd, zu_rd, zo_if_ne, zo_iconst, zo_ireturn, zo_iload_n, zo_if_le, zo_aload_n, zo_getfield, zi_m1, zKd_9_7, zKd_9_4, zKd_2_10, sh_0, rf_0_7, sh_37, rf_0_4, sh_10, sh_19, sh_28, zRt, zKn_s, zKn_0, zFind, zb1_t, hx, zN10, zN01, not_true_eq_false, not_false_eq_true, false_implies, true_implies, implies_true, eq_self, nI_1, nI_40, nI_7, vz0, vz1, zb1_e0, zb1_n0]
      refine z_cV0 (M' := mX8_advance) (R' := rX8_advance) (i := 37) [.int (nI n)] [] eX8_advance k9_220 (by decide +kernel : decode cX9_ticks 19 = .ok (.invokevirtual 220, 3)) (Nat.le_of_ble_eq_true rfl) ⟨Nat.le_of_ble_eq_true rfl, Nat.le_of_ble_eq_true rfl, Nat.le_of_ble_eq_true rfl, Nat.le_of_ble_eq_true rfl, Nat.le_of_ble_eq_true rfl⟩ rfl rfl rfl sh_37 ?_
      have hCa : zCa I 37 10 8 p P (mTold P) t (V, d).1 := ⟨Or.inl ⟨rfl, rfl, rfl⟩, hp, hC.2.1, hC.2.2.1, hC.2.2.2.1, hM, g1, g2, hC.2.2.2.2.2.1⟩
      refine cl_advance (S := (V, d)) hw hCa g5 hC.2.2.2.2.2.2.1 g4 hn h82 (fun I1 L1 k1 k2 c1 c2 c3 => ?_)
      rw [oGsb_m1 hn] at c1 c2
      rw [if_neg h0] at c3
      rw [if_neg h0, if_neg h0] at hQ
      have e10 := c1.2.2.2.2.2.2.2.1
      refine zBlkR (M := mX9_ticks) (nL := 2) (rt := (Option.some .int)) (blk := bX9_ticks_22) (T := []) 0 hX9_ticks_22 zChks_nil rfl rfl rfl (Nat.le_of_ble_eq_true rfl) (Nat.le_of_ble_eq_true rfl) ?_
      simp (implicitDefEqProofs := false) only [bX9_ticks_22, zRun_cons, zRun_nil, zLk, zSto, zIns, zFil, zf0, zf1, zf2, zf3, List.filter_cons, List.filter_nil, Nat.reduceAdd, Nat.reduceEqDiff, Nat.reduceLT, Nat.reduceLeDiff, Nat.reduceBEq, Nat.reduceBNe, reduceIte, if_true, if_false, Bool.false_and, Bool.true_and, Bool.and_true, Bool.and_false, Bool.not_false, Bool.not_true, Bool.false_eq_true, beq_self_eq_true, BEq.rfl, zCat1, zCat2, zCat3, zKdI, zKdL, zKdR, true_and, and_true, zSI, zSL, zSR, zu_at, and_self, and_false, false_and, lv_args, zKdZ, zKdO, zB01, zB11, Option.toList_none, Option.toList_some, List.nil_append, List.cons_append, true_or, or_true, zRow_rd, zu_rd, zo_aload_n, zo_getfield, zo_iconst, zo_putfield, zo_putfield_2, zo_putfield_3, zo_ireturn, zi_0, zKd_9_9, zKd_1_4, zTy_1_4, zKd_9_4, zKd_2_10, sh_0, rf_0_9, sh_43, zcl_0, rf_0_4, sh_10, sh_19, sh_28, zRt, zPutC, zKn_0, e10, zN10, zN01, not_true_eq_false, not_false_eq_true, false_implies, true_implies, implies_true, eq_self, nI_1, nI_40, nI_7, vz0, vz1, zb1_e0, zb1_n0]
      have kk : zKpt SCk I (zu I1 43 4 0) := (k1.mono (fun i k g => by unfold zFW at g; unfold SCk; omega)).u (by unfold SCk; omega)
      have rr : ∀ i, i ≠ 43 → zu I1 43 4 0 i = I1 i := fun i hi => funext fun j => by rw [zu_at, if_neg (fun g => hi g.1)]
      refine hQ _ L1 kk (k2.mono (fun i k g => by unfold zFWL at g; unfold SCkL; omega)) (zKl_fr hC (fun j => ?_) ⟨?_, ?_, ?_, ⟨?_, ?_, ?_⟩, c2⟩ ⟨c1.2.2.2.2.2.2.2.2, ROk_mono hC.2.2.2.2.2.2.1 (by omega), hn, ?_⟩) (by simp [zu_at])
      · rw [rr (p + j) (by rcases hp with rfl | rfl <;> omega)]
        exact zFW_out (Or.inl rfl) k1 (by rcases hp with rfl | rfl <;> omega)
      · exact zFC_row (fun j hj => rr (10 + j) (by omega)) c1.2.2.2.2.2.2.1
      · rw [rr 10 (by omega)]; exact e10
      · rw [rr 10 (by omega)]; exact c3
      · rw [rr 10 (by omega), k1 10 12 (by unfold zFW; omega)]; exact g4.1
      · rw [rr 10 (by omega), k1 10 13 (by unfold zFW; omega)]; exact g4.2.1
      · rw [k2 10 14 (by unfold zFWL; omega)]; exact g4.2.2
      · obtain ⟨cr, y1, y2, y3⟩ := hC.2.2.2.2.2.2.2.2
        exact ⟨cr, y1, by omega, y3⟩
theorem zRefP_k (h : zKpt zFRt I J) (hP : zRefP I P) : zRefP J P := by
  obtain ⟨h1, h2, h3, h4, h5⟩ := hP
  have e : ∀ k, k < 50 → J 87 k = I 87 k := fun k h1 => h 87 k (by unfold zFRt zFR; omega)
  exact ⟨fun i a c => by rw [show J i = I i from funext fun k => h i k (by unfold zFRt zFR; omega)]; exact h1 i a c, by rw [e 12 (by omega), h2], by rw [e 13 (by omega), h3], by rw [e 14 (by omega), h4], by rw [e 15 (by omega), h5]⟩
theorem zRefM_k (h : zKpt zFRt I J) (hM : zRefM I m rt) : zRefM J m rt := by
  have e : ∀ k, 60 < k → J 87 k = I 87 k := fun k h1 => h 87 k (by unfold zFRt zFR; omega)
  have e2 : J 122 = I 122 := funext fun k => h 122 k (by unfold zFRt zFR; omega)
  unfold zRefM at hM ⊢
  rw [e 67 (by omega), e 72 (by omega), e 73 (by omega), e 68 (by omega), e 69 (by omega), e 70 (by omega), e 71 (by omega), e 74 (by omega), e 75 (by omega), e 76 (by omega), e2]
  exact hM
set_option maxRecDepth 20000 in
theorem mo_ticks (hR : zRl I L P V d t kc rt) (hbad : pRun t x = false → Q (some (.int (-1))) (SH, zu I 87 2 0, L, RF p s r)) (hQ : ∀ n, x = nI n → t + n ≤ 96 → ∀ I' L', zKpt SRk I I' → zKpt SRkL L L' → zRl I' L' P (oGs P (mTold P) rt t n (V, d)).1 (oGs P (mTold P) rt t n (V, d)).2 (t + n) (if n = 0 then kc else 0) rt → I' 87 78 = (if n = 0 then I 87 78 else 0) → Q (some (.int (nI (t + n)))) (SH, I', L', RF p s r)) : zXM w mX10_ticks rX10_ticks [.ref 87, .int x] (SH, I, L, RF p s r) Q := by
  unfold zXM
  refine zBlkR (M := mX10_ticks) (nL := 3) (rt := (Option.some .int)) (blk := bX10_ticks_0) (T := []) 0 hX10_ticks_0 zChks_nil rfl rfl rfl (Nat.le_of_ble_eq_true rfl) (Nat.le_of_ble_eq_true rfl) ?_
  simp (implicitDefEqProofs := false) only [bX10_ticks_0, zRun_cons, zRun_nil, zLk, zSto, zIns, zFil, zf0, zf1, zf2, zf3, List.filter_cons, List.filter_nil, Nat.reduceAdd, Nat.reduceEqDiff, Nat.reduceLT, Nat.reduceLeDiff, Nat.reduceBEq, Nat.reduceBNe, reduceIte, if_true, if_false, Bool.false_and, Bool.true_and, Bool.and_true, Bool.and_false, Bool.not_false, Bool.not_true, Bool.false_eq_true, beq_self_eq_true, BEq.rfl, zCat1, zCat2, zCat3, zKdI, zKdL, zKdR, true_and, and_true, zSI, zSL, zSR, zu_at, and_self, and_false, false_and, lv_args, zKdZ, zKdO, zB01, zB11, Option.toList_none, Option.toList_some, List.nil_append, List.cons_append, true_or, or_true, zRow_rd, zu_rd, zo_aload_n, zo_iconst, zo_putfield, zo_putfield_2, zo_putfield_3, zo_iload_n, zi_0, zKd_10_2, zTy_10_2, zcl_0, sh_87, zPutC, zKn_0, zN10, zN01, not_true_eq_false, not_false_eq_true, false_implies, true_implies, implies_true, eq_self, nI_1, nI_40, nI_7, vz0, vz1, zb1_e0, zb1_n0]
  have h0 : zKpt SRt I (zu I 87 2 0) := zKpt_rfl.u (by unfold SRt; omega)
  have hR := zRl_t h0 zKpt_rfl hR
  have h9 := hR.2.2.2.2.2.2.2.1
  generalize zu I 87 2 0 = I0 at *
  refine z_cV0 (M' := mX10_isRun) (R' := rX10_isRun) (i := 87) [.int x] [] eX10_isRun k10_530 (by decide +kernel : decode cX10_ticks 7 = .ok (.invokevirtual 530, 3)) (Nat.le_of_ble_eq_true rfl) ⟨Nat.le_of_ble_eq_true rfl, Nat.le_of_ble_eq_true rfl, Nat.le_of_ble_eq_true rfl, Nat.le_of_ble_eq_true rfl, Nat.le_of_ble_eq_true rfl⟩ rfl rfl rfl sh_87 ?_
  refine mo_isRun hR.2.2.2.2.1.2.1 h9 ?_
  cases hr : pRun t x with
  | false =>
    refine zBlkR (M := mX10_ticks) (nL := 3) (rt := (Option.some .int)) (blk := bX10_ticks_10) (T := [(15, bX10_ticks_15)]) 1 hX10_ticks_10 (zChks_cons hX10_ticks_15 zChks_nil) rfl rfl rfl (Nat.le_of_ble_eq_true rfl) (Nat.le_of_ble_eq_true rfl) ?_
    simp (implicitDefEqProofs := false) only [bX10_ticks_10, bX10_ticks_15, zRun_cons, zRun_nil, zLk, zSto, zIns, zFil, zf0, zf1, zf2, zf3, List.filter_cons, List.filter_nil, Nat.reduceAdd, Nat.reduceEqDiff, Nat.reduceLT, Nat.reduceLeDiff, Nat.reduceBEq, Nat.reduceBNe, reduceIte, if_true, if_false, Bool.false_and, Bool.true_and, Bool.and_true, Bool.and_false, Bool.not_false, Bool.not_true, Bool.false_eq_true, beq_self_eq_true, BEq.rfl, zCat1, zCat2, zCat3, zKdI, zKdL, zKdR, true_and, and_true, zSI, zSL, zSR, zu_at, and_self, and_false, false_and, lv_args, zKdZ, zKdO, zB01, zB11, Option.toList_none, Option.toList_some, List.nil_append, List.cons_append, true_or, or_true, zRow_rd, zu_rd, zo_if_ne, zo_iconst, zo_ireturn, zo_aload_n, zi_m1, zRt, zKn_s, zKn_0, zFind, zb1_f, zN10, zN01, not_true_eq_false, not_false_eq_true, false_implies, true_implies, implies_true, eq_self, nI_1, nI_40, nI_7, vz0, vz1, zb1_e0, zb1_n0]
    exact hbad hr
  | true =>
  obtain ⟨n, e, hn⟩ := pRun_t hr h9
  subst e
  have hQ := hQ n rfl hn
  refine zBlkR (M := mX10_ticks) (nL := 3) (rt := (Option.some .int)) (blk := bX10_ticks_10) (T := [(15, bX10_ticks_15)]) 1 hX10_ticks_10 (zChks_cons hX10_ticks_15 zChks_nil) rfl rfl rfl (Nat.le_of_ble_eq_true rfl) (Nat.le_of_ble_eq_true rfl) ?_
  simp (implicitDefEqProofs := false) only [bX10_ticks_10, bX10_ticks_15, zRun_cons, zRun_nil, zLk, zSto, zIns, zFil, zf0, zf1, zf2, zf3, List.filter_cons, List.filter_nil, Nat.reduceAdd, Nat.reduceEqDiff, Nat.reduceLT, Nat.reduceLeDiff, Nat.reduceBEq, Nat.reduceBNe, reduceIte, if_true, if_false, Bool.false_and, Bool.true_and, Bool.and_true, Bool.and_false, Bool.not_false, Bool.not_true, Bool.false_eq_true, beq_self_eq_true, BEq.rfl, zCat1, zCat2, zCat3, zKdI, zKdL, zKdR, true_and, and_true, zSI, zSL, zSR, zu_at, and_self, and_false, false_and, lv_args, zKdZ, zKdO, zB01, zB11, Option.toList_none, Option.toList_some, List.nil_append, List.cons_append, true_or, or_true, zRow_rd, zu_rd, zo_if_ne, zo_iconst, zo_ireturn, zo_aload_n, zi_m1, zRt, zKn_s, zKn_0, zFind, zb1_t, zN10, zN01, not_true_eq_false, not_false_eq_true, false_implies, true_implies, implies_true, eq_self, nI_1, nI_40, nI_7, vz0, vz1, zb1_e0, zb1_n0]
  refine z_cV0 (M' := mX10_plainRun) (R' := rX10_plainRun) (i := 87) [] [] eX10_plainRun k10_513 (by decide +kernel : decode cX10_ticks 16 = .ok (.invokevirtual 513, 3)) (Nat.le_of_ble_eq_true rfl) ⟨Nat.le_of_ble_eq_true rfl, Nat.le_of_ble_eq_true rfl, Nat.le_of_ble_eq_true rfl, Nat.le_of_ble_eq_true rfl, Nat.le_of_ble_eq_true rfl⟩ rfl rfl rfl sh_87 ?_
  refine mo_plainRun hR (fun I1 k1 hM => ?_)
  have k01 := h0.trans k1
  have hR1 := zRl_t k1 zKpt_rfl hR
  have hok := hR1.2.2.2.2.2.1
  obtain ⟨f1, f2, f3, f4, f5, f6, f7⟩ := hR1.2.2.2.2.1
  refine zBlkR (M := mX10_ticks) (nL := 3) (rt := (Option.some .int)) (blk := bX10_ticks_19) (T := []) 0 hX10_ticks_19 zChks_nil rfl rfl rfl (Nat.le_of_ble_eq_true rfl) (Nat.le_of_ble_eq_true rfl) ?_
  simp (implicitDefEqProofs := false) only [bX10_ticks_19, zRun_cons, zRun_nil, zLk, zSto, zIns, zFil, zf0, zf1, zf2, zf3, List.filter_cons, List.filter_nil, Nat.reduceAdd, Nat.reduceEqDiff, Nat.reduceLT, Nat.reduceLeDiff, Nat.reduceBEq, Nat.reduceBNe, reduceIte, if_true, if_false, Bool.false_and, Bool.true_and, Bool.and_true, Bool.and_false, Bool.not_false, Bool.not_true, Bool.false_eq_true, beq_self_eq_true, BEq.rfl, zCat1, zCat2, zCat3, zKdI, zKdL, zKdR, true_and, and_true, zSI, zSL, zSR, zu_at, and_self, and_false, false_and, lv_args, zKdZ, zKdO, zB01, zB11, Option.toList_none, Option.toList_some, List.nil_append, List.cons_append, true_or, or_true, zRow_rd, zu_rd, zo_iconst, zo_istore_n, zi_0, zcl_0, zKn_0, zN10, zN01, not_true_eq_false, not_false_eq_true, false_implies, true_implies, implies_true, eq_self, nI_1, nI_40, nI_7, vz0, vz1, zb1_e0, zb1_n0]
  refine zLoop (n := n) (P := fun j => ∀ J K, zKpt zFRt I1 J → zKpt (zFRL 0) L K → vR 0 J = (oGs P (mTold P) rt t j (V, d)).1 → K 120 0 = (oGs P (mTold P) rt t j (V, d)).2 → J 87 55 = nI (t + j) → J 87 56 = nI (if j = 0 then kc else 0) → zX w mX10_ticks rX10_ticks Q 0 0 21 [(0, Value.ref 87), (1, Value.int (nI n)), (2, Value.int (nI j))] [] (SH, J, K, RF p s r)) (fun j hj ih => ?_) 0 (Nat.zero_le _) I1 L zKpt_rfl zKpt_rfl f1 f7 f2 f3
  intro J K hJ hK hVJ hdK h55 h56
  have hPJ := zRefP_k hJ hR1.2.2.1
  have hMJ := zRefM_k hJ hM
  by_cases hje : j = n
  · subst hje
    have hx : (nI j ≤ nI j) = True := eq_true (by rw [zle_nat (by omega) (by omega)]; omega)
    have fin : ∀ v, v = (if j = 0 then I 87 78 else 0) → Q (some (.int (nI (t + j)))) (SH, zu J 87 78 v, K, RF p s r) := by
      intro v hv
      have kA : zKpt SRk I1 J := hJ.mono (fun i k g => g.elim (fun h => Or.inl ⟨h.1, by omega⟩) (fun h => Or.inr (Or.inr h)))
      have kk : zKpt SRk I (zu J 87 78 v) := ((k01.mono (fun i k g => Or.inr (Or.inl g))).trans kA).u (Or.inl ⟨rfl, by omega⟩)
      have r87 : ∀ k, k < 50 → k ≠ 2 → zu J 87 78 v 87 k = I1 87 k := fun k h1 h2 => by rw [zu_at, if_neg (by omega)]; exact hJ 87 k (by unfold zFRt zFR; omega)
      refine hQ _ K kk (hK.mono (fun i k g => by unfold zFRL at g; unfold SRkL; omega)) ⟨hR.1, hR.2.1, ?_, ⟨?_, ?_⟩, ⟨?_, ?_, ?_, ?_, ?_, ?_, hdK⟩, ⟨oOk_Gs hR.1.1 hok, ROk_mono hR.2.2.2.2.2.2.1 (by omega), hn, ?_⟩⟩ (by simp [zu_at]; exact hv)
      · obtain ⟨h1, h2, h3, h4, h5⟩ := hPJ
        exact ⟨fun i a c => by rw [show zu J 87 78 v i = J i from funext fun k => by rw [zu_at, if_neg (by omega)]]; exact h1 i a c, by simp [zu_at]; exact h2, by simp [zu_at]; exact h3, by simp [zu_at]; exact h4, by simp [zu_at]; exact h5⟩
      · rw [r87 16 (by omega) (by omega)]; exact hR1.2.2.2.1.1
      · rw [r87 17 (by omega) (by omega)]; exact hR1.2.2.2.1.2
      · rw [vR_un (by omega)]; exact hVJ
      · simp [zu_at]; exact h55
      · simp [zu_at]; exact h56
      · simp [zu_at]; rw [hJ 87 64 (by unfold zFRt zFR; omega)]; exact f4
      · simp [zu_at]; rw [hJ 87 65 (by unfold zFRt zFR; omega)]; exact f5
      · intro k hk
        simp [zu_at]; rw [hJ 121 k (by unfold zFRt zFR; omega)]; exact f6 k hk
      · obtain ⟨cr, y1, y2, y3⟩ := hR.2.2.2.2.2.2.2.2
        refine ⟨cr, y1, ?_, y3⟩
        split <;> omega
    have e78 : J 87 78 = I 87 78 := by rw [hJ 87 78 (by unfold zFRt zFR; omega), k01 87 78 (by unfold SRt; omega)]
    by_cases hn0 : j = 0
    · subst hn0
      have hx2 : (nI 0 ≤ 0) = True := eq_true (by decide)
      have h55' : J 87 55 = nI t := h55
      refine zBlkR (M := mX10_ticks) (nL := 3) (rt := (Option.some .int)) (blk := bX10_ticks_21) (T := [(56, bX10_ticks_56), (65, bX10_ticks_65), (69, bX10_ticks_69)]) 2 hX10_ticks_21 (zChks_cons hX10_ticks_56 (zChks_cons hX10_ticks_65 (zChks_cons hX10_ticks_69 zChks_nil))) rfl rfl rfl (Nat.le_of_ble_eq_true rfl) (Nat.le_of_ble_eq_true rfl) ?_
      simp (implicitDefEqProofs := false) only [bX10_ticks_21, bX10_ticks_56, bX10_ticks_65, bX10_ticks_69, zRun_cons, zRun_nil, zLk, zSto, zIns, zFil, zf0, zf1, zf2, zf3, List.filter_cons, List.filter_nil, Nat.reduceAdd, Nat.reduceEqDiff, Nat.reduceLT, Nat.reduceLeDiff, Nat.reduceBEq, Nat.reduceBNe, reduceIte, if_true, if_false, Bool.false_and, Bool.true_and, Bool.and_true, Bool.and_false, Bool.not_false, Bool.not_true, Bool.false_eq_true, beq_self_eq_true, BEq.rfl, zCat1, zCat2, zCat3, zKdI, zKdL, zKdR, true_and, and_true, zSI, zSL, zSR, zu_at, and_self, and_false, false_and, lv_args, zKdZ, zKdO, zB01, zB11, Option.toList_none, Option.toList_some, List.nil_append, List.cons_append, true_or, or_true, zRow_rd, zu_rd, zo_iload_n, zo_icmp_ge, zo_aload_n, zo_iconst, zo_getfield, zo_if_le, zo_goto, zo_putfield, zo_putfield_2, zo_putfield_3, zo_ireturn, zi_0, zKd_10_55, zKd_10_78, zTy_10_78, zcl_0, sh_87, zRt, zPutC, zKn_s, zKn_0, zFind, hx, hx2, h55', e78, zN10, zN01, not_true_eq_false, not_false_eq_true, false_implies, true_implies, implies_true, eq_self, nI_1, nI_40, nI_7, vz0, vz1, zb1_e0, zb1_n0]
      exact fin _ rfl
    · have hx2 : (nI j ≤ 0) = False := eq_false (nI_nle (by omega) (by omega))
      refine zBlkR (M := mX10_ticks) (nL := 3) (rt := (Option.some .int)) (blk := bX10_ticks_21) (T := [(56, bX10_ticks_56), (65, bX10_ticks_65), (69, bX10_ticks_69)]) 2 hX10_ticks_21 (zChks_cons hX10_ticks_56 (zChks_cons hX10_ticks_65 (zChks_cons hX10_ticks_69 zChks_nil))) rfl rfl rfl (Nat.le_of_ble_eq_true rfl) (Nat.le_of_ble_eq_true rfl) ?_
      simp (implicitDefEqProofs := false) only [bX10_ticks_21, bX10_ticks_56, bX10_ticks_65, bX10_ticks_69, zRun_cons, zRun_nil, zLk, zSto, zIns, zFil, zf0, zf1, zf2, zf3, List.filter_cons, List.filter_nil, Nat.reduceAdd, Nat.reduceEqDiff, Nat.reduceLT, Nat.reduceLeDiff, Nat.reduceBEq, Nat.reduceBNe, reduceIte, if_true, if_false, Bool.false_and, Bool.true_and, Bool.and_true, Bool.and_false, Bool.not_false, Bool.not_true, Bool.false_eq_true, beq_self_eq_true, BEq.rfl, zCat1, zCat2, zCat3, zKdI, zKdL, zKdR, true_and, and_true, zSI, zSL, zSR, zu_at, and_self, and_false, false_and, lv_args, zKdZ, zKdO, zB01, zB11, Option.toList_none, Option.toList_some, List.nil_append, List.cons_append, true_or, or_true, zRow_rd, zu_rd, zo_iload_n, zo_icmp_ge, zo_aload_n, zo_iconst, zo_getfield, zo_if_le, zo_goto, zo_putfield, zo_putfield_2, zo_putfield_3, zo_ireturn, zi_0, zKd_10_55, zKd_10_78, zTy_10_78, zcl_0, sh_87, zRt, zPutC, zKn_s, zKn_0, zFind, hx, hx2, h55, zN10, zN01, not_true_eq_false, not_false_eq_true, false_implies, true_implies, implies_true, eq_self, nI_1, nI_40, nI_7, vz0, vz1, zb1_e0, zb1_n0]
      exact fin _ (by rw [if_neg hn0])
  · have hx : (nI n ≤ nI j) = False := eq_false (by rw [zle_nat (by omega) (by omega)]; omega)
    refine zBlkR (M := mX10_ticks) (nL := 3) (rt := (Option.some .int)) (blk := bX10_ticks_21) (T := [(56, bX10_ticks_56), (65, bX10_ticks_65), (69, bX10_ticks_69)]) 2 hX10_ticks_21 (zChks_cons hX10_ticks_56 (zChks_cons hX10_ticks_65 (zChks_cons hX10_ticks_69 zChks_nil))) rfl rfl rfl (Nat.le_of_ble_eq_true rfl) (Nat.le_of_ble_eq_true rfl) ?_
    simp (implicitDefEqProofs := false) only [bX10_ticks_21, bX10_ticks_56, bX10_ticks_65, bX10_ticks_69, zRun_cons, zRun_nil, zLk, zSto, zIns, zFil, zf0, zf1, zf2, zf3, List.filter_cons, List.filter_nil, Nat.reduceAdd, Nat.reduceEqDiff, Nat.reduceLT, Nat.reduceLeDiff, Nat.reduceBEq, Nat.reduceBNe, reduceIte, if_true, if_false, Bool.false_and, Bool.true_and, Bool.and_true, Bool.and_false, Bool.not_false, Bool.not_true, Bool.false_eq_true, beq_self_eq_true, BEq.rfl, zCat1, zCat2, zCat3, zKdI, zKdL, zKdR, true_and, and_true, zSI, zSL, zSR, zu_at, and_self, and_false, false_and, lv_args, zKdZ, zKdO, zB01, zB11, Option.toList_none, Option.toList_some, List.nil_append, List.cons_append, true_or, or_true, zRow_rd, zu_rd, zo_iload_n, zo_icmp_ge, zo_aload_n, zo_iconst, zo_getfield, zo_if_le, zo_goto, zo_putfield, zo_putfield_2, zo_putfield_3, zo_ireturn, zi_0, zKd_10_55, zKd_10_78, zTy_10_78, zcl_0, sh_87, zRt, zPutC, zKn_s, zKn_0, zFind, hx, h55, zN10, zN01, not_true_eq_false, not_false_eq_true, false_implies, true_implies, implies_true, eq_self, nI_1, nI_40, nI_7, vz0, vz1, zb1_e0, zb1_n0]
    refine z_cV0 (M' := mX10_step) (R' := rX10_step) (i := 87) [.int 0, .int (nI (t + j))] [] eX10_step k10_498 (by decide +kernel : decode cX10_ticks 32 = .ok (.invokevirtual 498, 3)) (Nat.le_of_ble_eq_true rfl) ⟨Nat.le_of_ble_eq_true rfl, Nat.le_of_ble_eq_true rfl, Nat.le_of_ble_eq_true rfl, Nat.le_of_ble_eq_true rfl, Nat.le_of_ble_eq_true rfl⟩ rfl rfl rfl sh_87 ?_
    refine mo_step (b := 0) (S := oGs P (mTold P) rt t j (V, d)) (by omega) (by omega) hR.1 (ROk_mono hR.2.2.2.2.2.2.1 (by omega)) hPJ hMJ hVJ hdK (oOk_Gs hR.1.1 hok) (fun I2 L2 l1 l2 l3 l4 => ?_)
    have q55 : I2 87 55 = nI (t + j) := by rw [zFR_87 l1 (by omega)]; exact h55
    refine zBlkR (M := mX10_ticks) (nL := 3) (rt := (Option.some .int)) (blk := bX10_ticks_35) (T := []) 0 hX10_ticks_35 zChks_nil rfl rfl rfl (Nat.le_of_ble_eq_true rfl) (Nat.le_of_ble_eq_true rfl) ?_
    simp (implicitDefEqProofs := false) only [bX10_ticks_35, zRun_cons, zRun_nil, zLk, zSto, zIns, zFil, zf0, zf1, zf2, zf3, List.filter_cons, List.filter_nil, Nat.reduceAdd, Nat.reduceEqDiff, Nat.reduceLT, Nat.reduceLeDiff, Nat.reduceBEq, Nat.reduceBNe, reduceIte, if_true, if_false, Bool.false_and, Bool.true_and, Bool.and_true, Bool.and_false, Bool.not_false, Bool.not_true, Bool.false_eq_true, beq_self_eq_true, BEq.rfl, zCat1, zCat2, zCat3, zKdI, zKdL, zKdR, true_and, and_true, zSI, zSL, zSR, zu_at, and_self, and_false, false_and, lv_args, zKdZ, zKdO, zB01, zB11, Option.toList_none, Option.toList_some, List.nil_append, List.cons_append, true_or, or_true, zRow_rd, zu_rd, zo_aload_n, zo_dup, zo_getfield, zo_iconst, zo_iadd, zo_putfield, zo_putfield_2, zo_putfield_3, zo_iinc, zo_goto, zi_1, zi_0, zKd_10_55, zTy_10_55, zKd_10_56, zTy_10_56, sh_87, zcl_1, zcl_0, zPutC, zKn_0, q55, nI_1, zN10, zN01, not_true_eq_false, not_false_eq_true, false_implies, true_implies, implies_true, eq_self, nI_1, nI_40, nI_7, vz0, vz1, zb1_e0, zb1_n0]
    refine ih (by omega) _ L2 (((hJ.trans (l1.mono (fun i k g => Or.inr g))).u ?_).u ?_) (hK.trans l2) ?_ l4 ?_ ?_
    · unfold zFRt; omega
    · unfold zFRt; omega
    · rw [vR_un (by omega), vR_un (by omega)]; exact l3
    · simp [zu_at]; rfl
    · simp [zu_at]; rfl
end ZT97
