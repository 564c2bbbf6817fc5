/-! ===== TEXT: text in the reference ===== -/
def SXr (i k : Nat) : Prop := SPr i k ∨ (i = 87 ∧ (k = 1 ∨ k = 2 ∨ (6 ≤ k ∧ k ≤ 10)))
section ZN98zl
variable {w : zP} {Q : Option Value → zMem → Prop} {μ : zMem} {I J J' : Nat → Nat → Int32} {L K : Nat → Nat → Int64} {p s : Nat} {r : Option Nat} {a b c i j k n h e m lo hi l F q ch : Nat} {x y v kd wh : Int32} {E : oEn} {t u : oTk} {D : oDf} {W : Nat → Int32} {T : oTp}
theorem gAll_m : ∀ (n : Nat) (D : oDf) (t : oTk) (m : Nat) {D' : oDf} {m' : Nat}, gAll E n D t m = .inr (D', m') → m' ≤ m + n
  | 0, D, t, m, D', m', h => by cases h; exact Nat.le_refl _
  | n + 1, D, t, m, D', m', h => by
    unfold gAll at h
    split at h
    · cases h; omega
    · split at h
      · cases h
      · split at h
        · have := gAll_m n _ _ _ h; omega
        · cases h
set_option maxRecDepth 20000 in
theorem mo_textLoop : ∀ (n : Nat) (t : oTk) (D : oDf) (m : Nat) (J : Nat → Nat → Int32) (kd wh : Int32), n ≤ 700 → (tKd t = 0 ∨ E.2.2 - t.2.1 + 1 ≤ n) → zEr J E → tOk E t → tRel t.2.2.1 t.2.2.2 kd wh → zDr J D → DOk D → (∀ f J' t' kd' wh', gAll E n D t m = .inl f → zKpt SPr J J' → J' 87 4 = nI f.1 → J' 87 5 = nI f.2 → Q (some (.int (-1))) (SH, zTq J' t' kd' wh', L, RF p s r)) → (∀ t' D' m' J' kd' wh', gAll E n D t m = .inr (D', m') → zKpt SPr J J' → zDr J' D' → DOk D' → zX w mX10_text rX10_text Q 0 0 77 [(0, Value.ref 87), (1, Value.int x), (2, Value.int (nI m'))] [] (SH, zTq J' t' kd' wh', L, RF p s r)) → zX w mX10_text rX10_text Q 0 0 55 [(0, Value.ref 87), (1, Value.int x), (2, Value.int (nI m))] [] (SH, zTq J t kd wh, L, RF p s r) := by
  intro n
  induction n with
  | zero =>
    intro t D m J kd wh hn hfu hE ht hr hD hO hF hG
    have k0 : t.2.2.1 = 0 := hfu.resolve_right (by omega)
    have x0 := tD0 hr
    have k0' : (t.2.2.1 = 0) = True := eq_true k0
    have key := hG t D m J kd wh rfl zKpt_rfl hD hO
    refine zBlkR (M := mX10_text) (nL := 3) (rt := (Option.some .int)) (blk := bX10_text_55) (T := []) 0 hX10_text_55 zChks_nil rfl rfl rfl (Nat.le_of_ble_eq_true rfl) (Nat.le_of_ble_eq_true rfl) ?_
    simp (implicitDefEqProofs := false) only [bX10_text_55, zRun_cons, zRun_nil, zLk, zSto, zIns, zFil, zf0, zf1, zf2, zf3, List.filter_cons, List.filter_nil, Nat.reduceAdd, Nat.reduceEqDiff, Nat.reduceLT, Nat.reduceLeDiff, Nat.reduceBEq, Nat.reduceBNe, reduceIte, if_true, if_false, Bool.false_and, Bool.true_and, Bool.and_true, Bool.and_false, Bool.not_false, Bool.not_true, Bool.false_eq_true, beq_self_eq_true, BEq.rfl, zCat1, zCat2, zCat3, zKdI, zKdL, zKdR, true_and, and_true, zSI, zSL, zSR, zu_at, and_self, and_false, false_and, lv_args, zKdZ, zKdO, zB01, zB11, Option.toList_none, Option.toList_some, List.nil_append, List.cons_append, true_or, or_true, zRow_rd, zu_rd, zo_aload_n, zo_getfield, zo_if_eq, zKd_10_8, sh_87, zKn_0, zTq_7, zTq_8, zTq_9, zTq_10, zTq_o, zTq_k, zTq_u, zTq_uk, x0, k0', zN10, zN01, not_true_eq_false, not_false_eq_true, false_implies, true_implies, implies_true, eq_self, nI_1, nI_40, nI_7, vz0, vz1, zb1_e0, zb1_n0]
    exact key
  | succ n ih =>
    intro t D m J kd wh hn hfu hE ht hr hD hO hF hG
    have x0 := tD0 hr
    have hg : gAll E (n + 1) D t m = gAll E (n + 1) D t m := rfl
    conv at hg => rhs; unfold gAll
    by_cases k0 : t.2.2.1 = 0
    · have k0' : (t.2.2.1 = 0) = True := eq_true k0
      rw [if_pos k0] at hg
      have key := hG t D m J kd wh hg zKpt_rfl hD hO
      refine zBlkR (M := mX10_text) (nL := 3) (rt := (Option.some .int)) (blk := bX10_text_55) (T := []) 0 hX10_text_55 zChks_nil rfl rfl rfl (Nat.le_of_ble_eq_true rfl) (Nat.le_of_ble_eq_true rfl) ?_
      simp (implicitDefEqProofs := false) only [bX10_text_55, zRun_cons, zRun_nil, zLk, zSto, zIns, zFil, zf0, zf1, zf2, zf3, List.filter_cons, List.filter_nil, Nat.reduceAdd, Nat.reduceEqDiff, Nat.reduceLT, Nat.reduceLeDiff, Nat.reduceBEq, Nat.reduceBNe, reduceIte, if_true, if_false, Bool.false_and, Bool.true_and, Bool.and_true, Bool.and_false, Bool.not_false, Bool.not_true, Bool.false_eq_true, beq_self_eq_true, BEq.rfl, zCat1, zCat2, zCat3, zKdI, zKdL, zKdR, true_and, and_true, zSI, zSL, zSR, zu_at, and_self, and_false, false_and, lv_args, zKdZ, zKdO, zB01, zB11, Option.toList_none, Option.toList_some, List.nil_append, List.cons_append, true_or, or_true, zRow_rd, zu_rd, zo_aload_n, zo_getfield, zo_if_eq, zKd_10_8, sh_87, zKn_0, zTq_7, zTq_8, zTq_9, zTq_10, zTq_o, zTq_k, zTq_u, zTq_uk, x0, k0', zN10, zN01, not_true_eq_false, not_false_eq_true, false_implies, true_implies, implies_true, eq_self, nI_1, nI_40, nI_7, vz0, vz1, zb1_e0, zb1_n0]
      exact key
    · have k0' : (t.2.2.1 = 0) = False := eq_false k0
      rw [if_neg k0] at hg
      have hfu' := hfu.resolve_left k0
      have hte := ht.2.1
      refine zBlkR (M := mX10_text) (nL := 3) (rt := (Option.some .int)) (blk := bX10_text_55) (T := []) 0 hX10_text_55 zChks_nil rfl rfl rfl (Nat.le_of_ble_eq_true rfl) (Nat.le_of_ble_eq_true rfl) ?_
      simp (implicitDefEqProofs := false) only [bX10_text_55, zRun_cons, zRun_nil, zLk, zSto, zIns, zFil, zf0, zf1, zf2, zf3, List.filter_cons, List.filter_nil, Nat.reduceAdd, Nat.reduceEqDiff, Nat.reduceLT, Nat.reduceLeDiff, Nat.reduceBEq, Nat.reduceBNe, reduceIte, if_true, if_false, Bool.false_and, Bool.true_and, Bool.and_true, Bool.and_false, Bool.not_false, Bool.not_true, Bool.false_eq_true, beq_self_eq_true, BEq.rfl, zCat1, zCat2, zCat3, zKdI, zKdL, zKdR, true_and, and_true, zSI, zSL, zSR, zu_at, and_self, and_false, false_and, lv_args, zKdZ, zKdO, zB01, zB11, Option.toList_none, Option.toList_some, List.nil_append, List.cons_append, true_or, or_true, zRow_rd, zu_rd, zo_aload_n, zo_getfield, zo_if_eq, zKd_10_8, sh_87, zKn_0, zTq_7, zTq_8, zTq_9, zTq_10, zTq_o, zTq_k, zTq_u, zTq_uk, x0, k0', zN10, zN01, not_true_eq_false, not_false_eq_true, false_implies, true_implies, implies_true, eq_self, nI_1, nI_40, nI_7, vz0, vz1, zb1_e0, zb1_n0]
      refine z_cV0 (M' := mX10_lineRead) (R' := rX10_lineRead) (i := 87) [] [] eX10_lineRead k10_319 (by decide +kernel : decode cX10_text 63 = .ok (.invokevirtual 319, 3)) (Nat.le_of_ble_eq_true rfl) ⟨Nat.le_of_ble_eq_true rfl, Nat.le_of_ble_eq_true rfl, Nat.le_of_ble_eq_true rfl, Nat.le_of_ble_eq_true rfl, Nat.le_of_ble_eq_true rfl⟩ rfl rfl rfl sh_87 ?_
      refine mo_lineRead (by omega) hE ht hr hD hO (fun c a J' t' kd' wh' h0 h1 h2 h3 => ?_) (fun t1 D' J' kd' wh' h0 h4 h1 h2 h3 => ?_)
      · refine zBlkR (M := mX10_text) (nL := 3) (rt := (Option.some .int)) (blk := bX10_text_66) (T := [(71, bX10_text_71)]) 1 hX10_text_66 (zChks_cons hX10_text_71 zChks_nil) rfl rfl rfl (Nat.le_of_ble_eq_true rfl) (Nat.le_of_ble_eq_true rfl) ?_
        simp (implicitDefEqProofs := false) only [bX10_text_66, bX10_text_71, zRun_cons, zRun_nil, zLk, zSto, zIns, zFil, zf0, zf1, zf2, zf3, List.filter_cons, List.filter_nil, Nat.reduceAdd, Nat.reduceEqDiff, Nat.reduceLT, Nat.reduceLeDiff, Nat.reduceBEq, Nat.reduceBNe, reduceIte, if_true, if_false, Bool.false_and, Bool.true_and, Bool.and_true, Bool.and_false, Bool.not_false, Bool.not_true, Bool.false_eq_true, beq_self_eq_true, BEq.rfl, zCat1, zCat2, zCat3, zKdI, zKdL, zKdR, true_and, and_true, zSI, zSL, zSR, zu_at, and_self, and_false, false_and, lv_args, zKdZ, zKdO, zB01, zB11, Option.toList_none, Option.toList_some, List.nil_append, List.cons_append, true_or, or_true, zRow_rd, zu_rd, zo_if_ne, zo_iconst, zo_ireturn, zo_iinc, zo_goto, zi_m1, zi_1, zRt, zKn_s, zKn_0, zFind, zN10, zN01, not_true_eq_false, not_false_eq_true, false_implies, true_implies, implies_true, eq_self, nI_1, nI_40, nI_7, vz0, vz1, zb1_e0, zb1_n0]
        refine hF (c, a) J' t' kd' wh' ?_ h1 h2 h3
        rcases h0 with h0 | ⟨t1, D1, h0, hk4, rfl, rfl⟩
        · rw [h0] at hg; exact hg
        · simp only [h0] at hg
          rw [if_neg hk4] at hg; exact hg
      · simp only [h0] at hg
        rw [if_pos h4] at hg
        obtain ⟨hO', hbe⟩ := gLine_ok ht hO h0
        have ht1 := tBe_ok hbe
        obtain ⟨u, hu1, hu2, hu3⟩ := hbe
        have hq := (tNx_end hu1).2 (by rw [← hu3, h4]; omega)
        rw [← hu3] at hq
        have hq2 := (tNx_end ht1).1
        have hq3 := (tOk_nx ht1).2.1
        refine zBlkR (M := mX10_text) (nL := 3) (rt := (Option.some .int)) (blk := bX10_text_66) (T := [(71, bX10_text_71)]) 1 hX10_text_66 (zChks_cons hX10_text_71 zChks_nil) rfl rfl rfl (Nat.le_of_ble_eq_true rfl) (Nat.le_of_ble_eq_true rfl) ?_
        simp (implicitDefEqProofs := false) only [bX10_text_66, bX10_text_71, zRun_cons, zRun_nil, zLk, zSto, zIns, zFil, zf0, zf1, zf2, zf3, List.filter_cons, List.filter_nil, Nat.reduceAdd, Nat.reduceEqDiff, Nat.reduceLT, Nat.reduceLeDiff, Nat.reduceBEq, Nat.reduceBNe, reduceIte, if_true, if_false, Bool.false_and, Bool.true_and, Bool.and_true, Bool.and_false, Bool.not_false, Bool.not_true, Bool.false_eq_true, beq_self_eq_true, BEq.rfl, zCat1, zCat2, zCat3, zKdI, zKdL, zKdR, true_and, and_true, zSI, zSL, zSR, zu_at, and_self, and_false, false_and, lv_args, zKdZ, zKdO, zB01, zB11, Option.toList_none, Option.toList_some, List.nil_append, List.cons_append, true_or, or_true, zRow_rd, zu_rd, zo_if_ne, zo_iconst, zo_ireturn, zo_iinc, zo_goto, zi_m1, zi_1, zRt, zKn_s, zKn_0, zFind, nI_1, zN10, zN01, not_true_eq_false, not_false_eq_true, false_implies, true_implies, implies_true, eq_self, nI_1, nI_40, nI_7, vz0, vz1, zb1_e0, zb1_n0]
        exact ih (tNx E t1) D' (m + 1) J' kd' wh' (by omega) (Or.inr (by omega)) (zEr_k h1 hE) (tOk_nx ht1) h3 h2 hO' (fun f J2 t2 kd2 wh2 e0 e1 e2 e3 => hF f J2 t2 kd2 wh2 (hg.trans e0) (h1.trans e1) e2 e3) (fun t2 D2 m2 J2 kd2 wh2 e0 e1 e2 e3 => hG t2 D2 m2 J2 kd2 wh2 (hg.trans e0) (h1.trans e1) e2 e3)
theorem zTq_self (h10 : I 87 10 = nI u.1) (h7 : I 87 7 = nI u.2.1) : zTq I u (I 87 8) (I 87 9) = I := by
  funext a b
  unfold zTq
  by_cases g : a = 87
  · subst g
    rw [if_pos rfl]
    by_cases q4 : b = 7
    · rw [if_pos q4, q4, h7]
    · rw [if_neg q4]
      by_cases q5 : b = 10
      · rw [if_pos q5, q5, h10]
      · rw [if_neg q5]
        by_cases q6 : b = 8
        · rw [if_pos q6, q6]
        · rw [if_neg q6]
          by_cases q7 : b = 9
          · rw [if_pos q7, q7]
          · rw [if_neg q7]
  · rw [if_neg g]
theorem zTq_kpt : zKpt SRj J (zTq J t kd wh) := by
  intro i k h
  unfold SRj at h
  unfold zTq
  by_cases g : i = 87
  · subst g
    rw [if_pos rfl, if_neg (by omega), if_neg (by omega), if_neg (by omega), if_neg (by omega)]
  · rw [if_neg g]
theorem zDr_k {S : Nat → Nat → Prop} (hD : zDr J D) (hK : zKpt S J J') (h1 : ∀ i k, S i k → i = 87 ∧ (k = 1 ∨ k = 2 ∨ (6 ≤ k ∧ k ≤ 10))) : zDr J' D := by
  have e : ∀ i k, ¬ (i = 87 ∧ (k = 1 ∨ k = 2 ∨ (6 ≤ k ∧ k ≤ 10))) → J' i k = J i k := fun i k h => hK i k (fun q => h (h1 i k q))
  obtain ⟨⟨c18, c19, c20, c21, c22, c23, c49⟩, dp, dc, dsk, dbd, dst, dsg, dkn, dlw, dto, dbo, dfl⟩ := hD
  refine ⟨⟨by rw [e _ _ (by omega)]; exact c18, by rw [e _ _ (by omega)]; exact c19, by rw [e _ _ (by omega)]; exact c20, by rw [e _ _ (by omega)]; exact c21, by rw [e _ _ (by omega)]; exact c22, by rw [e _ _ (by omega)]; exact c23, by rw [e _ _ (by omega)]; exact c49⟩, fun k hk => ?_, fun k hk => ?_, fun k hk => ?_, fun k hk => ?_, fun k hk => ?_, fun k hk => ?_, fun k hk => ?_, fun k hk => ?_, fun k hk => ?_, fun k => ?_, ⟨by rw [e _ _ (by omega)]; exact dfl.1, by rw [e _ _ (by omega)]; exact dfl.2⟩⟩
  · rw [e _ _ (by omega), e _ _ (by omega), e _ _ (by omega), e _ _ (by omega)]; exact dp k hk
  · rw [e _ _ (by omega), e _ _ (by omega)]; exact dc k hk
  · rw [e _ _ (by omega), e _ _ (by omega)]; exact dsk k hk
  · rw [e _ _ (by omega), e _ _ (by omega), e _ _ (by omega)]; exact dbd k hk
  · rw [e _ _ (by omega)]; exact dst k hk
  · rw [e _ _ (by omega)]; exact dsg k hk
  · rw [e _ _ (by omega), e _ _ (by omega), e _ _ (by omega)]; exact dkn k hk
  · rw [e _ _ (by omega), e _ _ (by omega), e _ _ (by omega)]; exact dlw k hk
  · rw [e _ _ (by omega)]; exact dto k hk
  · rw [e _ _ (by omega)]; exact dbo k
theorem zDr_0 (h4 : I 87 4 = 0) (h5 : I 87 5 = -1) (hb : ∀ b, (3 ≤ b ∧ b < 6) ∨ I 104 b = 0 ∨ I 104 b = 1) : zDr (zPlainM I) dD0 := by
  have hp : ∀ j, j < 7 → (fun b : Nat => if b = 25 then (5 : Int32) else if b = 24 then 3 else if b = 23 then 10 else if b = 21 then 2 else 0) (16 + sIx j) = dR dD0 102 (sIx j) := by decide
  refine ⟨⟨by simp [zPlainM, zPlainF, zRow_at, zu_at]; rfl, by simp [zPlainM, zPlainF, zRow_at, zu_at]; rfl, by simp [zPlainM, zPlainF, zRow_at, zu_at]; rfl, by simp [zPlainM, zPlainF, zRow_at, zu_at]; rfl, by simp [zPlainM, zPlainF, zRow_at, zu_at]; rfl, by simp [zPlainM, zPlainF, zRow_at, zu_at]; rfl, by simp [zPlainM, zPlainF, zRow_at, zu_at]; rfl⟩, fun k hk => absurd hk (by show ¬ k < 0; omega), fun k hk => absurd hk (by show ¬ k < 0; omega), fun k hk => absurd hk (by show ¬ k < 0; omega), fun k hk => absurd hk (by show ¬ k < 0; omega), fun j hj => ?_, fun k hk => absurd hk (by show ¬ k < 0; omega), fun k hk => absurd hk (by show ¬ k < 0; omega), fun h hh => ?_, fun j hj => ?_, fun b => ?_, ⟨by simp [zPlainM, zPlainF, zRow_at, zu_at]; exact h4, by simp [zPlainM, zPlainF, zRow_at, zu_at]; exact h5⟩⟩
  · rw [← hp j hj]
    have := sIx_r j hj
    have h32 : 16 + sIx j < 32 := by omega
    simp [zPlainM, zPlainF, zRow_at, zu_at, zPlainOnce, zSeg, h32]
  · refine ⟨?_, (fun q => by cases q)⟩
    simp [zPlainM, zPlainF, zRow_at, zu_at, zSeg]
    rw [if_pos (by omega)]; rfl
  · have := sIx_r j hj
    simp [zPlainM, zPlainF, zRow_at, zu_at, zFill, this]; rfl
  · have e : zPlainM I 104 b = if 3 ≤ b ∧ b < 3 + 3 then 0 else I 104 b := by simp only [zPlainM, zRow_at, if_true, zSeg]
    rw [e]
    split
    · left; rfl
    · rcases hb b with q | q
      · exact absurd q (by omega)
      · exact q
theorem zPlainM_kpt : zKpt SPr I (zPlainM I) := by
  unfold zPlainM zPlainF
  intro i k hn
  unfold SPr at hn
  simp only [zRow_at]
  by_cases e4 : i = 104
  · subst e4
    simp only [if_true, Nat.reduceEqDiff, if_false, zSeg]
    rw [if_neg (by omega)]
  · rw [if_neg e4]
    by_cases e3 : i = 103
    · exact absurd hn (by omega)
    · rw [if_neg e3]
      by_cases e2 : i = 102
      · subst e2
        simp only [if_true, zPlainOnce, zSeg]
        rw [if_neg (by omega), if_neg (by omega), if_neg (by omega), if_neg (by omega), if_neg (by omega)]
      · rw [if_neg e2]
        simp only [zu_at]
        rw [if_neg (by omega), if_neg (by omega), if_neg (by omega), if_neg (by omega), if_neg (by omega), if_neg (by omega), if_neg (by omega)]
set_option maxRecDepth 20000 in
theorem mo_text (hw : ∀ k, k < 136 → I 89 k = nI (mWa k)) (hW : ∀ i, i < 27 → W i = nI (cWp i)) (hb : ∀ b, (3 ≤ b ∧ b < 6) ∨ I 104 b = 0 ∨ I 104 b = 1) (hT : zrTp I T) (hTO : TpOk T)
    (hB : (x < 0 ∨ nI T.1 < x) → Q (some (.int (-2))) (SH, zu I 87 2 0, L, RF p s r))
    (hF : ∀ n f I', x = nI n → n ≤ T.1 → oText W T.2 n = .inl f → zKpt SXr I I' → I' 87 1 = 0 → I' 87 2 = 0 → I' 87 4 = nI f.1 → I' 87 5 = nI f.2 → Q (some (.int (-1))) (SH, I', L, RF p s r))
    (hG : ∀ n D q I', x = nI n → n ≤ T.1 → oText W T.2 n = .inr (D, q) → zKpt SXr I I' → I' 87 1 = 0 → I' 87 2 = 0 → zDr I' D → DOk D → Q (some (.int (nI q))) (SH, zBegM (zKeepR I'), zu L 120 0 (zKeepR I' 102 10).toInt64, RF p s r)) : zXM w mX10_text rX10_text [.ref 87, .int x] (SH, I, L, RF p s r) Q := by
  unfold zXM
  obtain ⟨t1, t2⟩ := hT
  by_cases x0 : x < 0
  · have x0' : (x < 0) = True := eq_true x0
    refine zBlkR (M := mX10_text) (nL := 3) (rt := (Option.some .int)) (blk := bX10_text_0) (T := [(17, bX10_text_17), (20, bX10_text_20)]) 1 hX10_text_0 (zChks_cons hX10_text_17 (zChks_cons hX10_text_20 zChks_nil)) rfl rfl rfl (Nat.le_of_ble_eq_true rfl) (Nat.le_of_ble_eq_true rfl) ?_
    simp (implicitDefEqProofs := false) only [bX10_text_0, bX10_text_17, bX10_text_20, zRun_cons, zRun_nil, zLk, zSto, zIns, zFil, zf0, zf1, zf2, zf3, List.filter_cons, List.filter_nil, Nat.reduceAdd, Nat.reduceEqDiff, Nat.reduceLT, Nat.reduceLeDiff, Nat.reduceBEq, Nat.reduceBNe, reduceIte, if_true, if_false, Bool.false_and, Bool.true_and, Bool.and_true, Bool.and_false, Bool.not_false, Bool.not_true, Bool.false_eq_true, beq_self_eq_true, BEq.rfl, zCat1, zCat2, zCat3, zKdI, zKdL, zKdR, true_and, and_true, zSI, zSL, zSR, zu_at, and_self, and_false, false_and, lv_args, zKdZ, zKdO, zB01, zB11, Option.toList_none, Option.toList_some, List.nil_append, List.cons_append, true_or, or_true, zRow_rd, zu_rd, zo_aload_n, zo_iconst, zo_putfield, zo_putfield_2, zo_putfield_3, zo_iload_n, zo_if_lt, zo_getfield, zo_icmp_le, zo_bipush, zo_ireturn, zi_0, zb_m2, zi_m1, zKd_10_2, zTy_10_2, zKd_10_1, zKd_10_6, zTy_10_6, zTy_10_1, zKd_10_4, zTy_10_4, zKd_10_5, zTy_10_5, zKd_10_7, zTy_10_7, zcl_0, sh_87, zRt, zPutC, zKn_s, zKn_0, zFind, x0', zN10, zN01, not_true_eq_false, not_false_eq_true, false_implies, true_implies, implies_true, eq_self, nI_1, nI_40, nI_7, vz0, vz1, zb1_e0, zb1_n0]
    exact hB (Or.inl x0)
  · have x0' : (x < 0) = False := eq_false x0
    by_cases xm : nI T.1 < x
    · have xm' : (x ≤ nI T.1) = False := eq_false (Int32.not_le.mpr xm)
      refine zBlkR (M := mX10_text) (nL := 3) (rt := (Option.some .int)) (blk := bX10_text_0) (T := [(17, bX10_text_17), (20, bX10_text_20)]) 1 hX10_text_0 (zChks_cons hX10_text_17 (zChks_cons hX10_text_20 zChks_nil)) rfl rfl rfl (Nat.le_of_ble_eq_true rfl) (Nat.le_of_ble_eq_true rfl) ?_
      simp (implicitDefEqProofs := false) only [bX10_text_0, bX10_text_17, bX10_text_20, zRun_cons, zRun_nil, zLk, zSto, zIns, zFil, zf0, zf1, zf2, zf3, List.filter_cons, List.filter_nil, Nat.reduceAdd, Nat.reduceEqDiff, Nat.reduceLT, Nat.reduceLeDiff, Nat.reduceBEq, Nat.reduceBNe, reduceIte, if_true, if_false, Bool.false_and, Bool.true_and, Bool.and_true, Bool.and_false, Bool.not_false, Bool.not_true, Bool.false_eq_true, beq_self_eq_true, BEq.rfl, zCat1, zCat2, zCat3, zKdI, zKdL, zKdR, true_and, and_true, zSI, zSL, zSR, zu_at, and_self, and_false, false_and, lv_args, zKdZ, zKdO, zB01, zB11, Option.toList_none, Option.toList_some, List.nil_append, List.cons_append, true_or, or_true, zRow_rd, zu_rd, zo_aload_n, zo_iconst, zo_putfield, zo_putfield_2, zo_putfield_3, zo_iload_n, zo_if_lt, zo_getfield, zo_icmp_le, zo_bipush, zo_ireturn, zi_0, zb_m2, zi_m1, zKd_10_2, zTy_10_2, zKd_10_1, zKd_10_6, zTy_10_6, zTy_10_1, zKd_10_4, zTy_10_4, zKd_10_5, zTy_10_5, zKd_10_7, zTy_10_7, zcl_0, sh_87, zRt, zPutC, zKn_s, zKn_0, zFind, x0', t1, xm', zN10, zN01, not_true_eq_false, not_false_eq_true, false_implies, true_implies, implies_true, eq_self, nI_1, nI_40, nI_7, vz0, vz1, zb1_e0, zb1_n0]
      exact hB (Or.inr xm)
    · have xm' : (x ≤ nI T.1) = True := eq_true (Int32.not_lt.mp xm)
      have hT7 := hTO.1
      obtain ⟨n, hn, e⟩ := nI_of2 (x := x) (M := nI T.1) (n := T.1) (nI_toInt (by omega)) x0 (Int32.not_lt.mp xm)
      subst e
      refine zBlkR (M := mX10_text) (nL := 3) (rt := (Option.some .int)) (blk := bX10_text_0) (T := [(17, bX10_text_17), (20, bX10_text_20)]) 1 hX10_text_0 (zChks_cons hX10_text_17 (zChks_cons hX10_text_20 zChks_nil)) rfl rfl rfl (Nat.le_of_ble_eq_true rfl) (Nat.le_of_ble_eq_true rfl) ?_
      simp (implicitDefEqProofs := false) only [bX10_text_0, bX10_text_17, bX10_text_20, zRun_cons, zRun_nil, zLk, zSto, zIns, zFil, zf0, zf1, zf2, zf3, List.filter_cons, List.filter_nil, Nat.reduceAdd, Nat.reduceEqDiff, Nat.reduceLT, Nat.reduceLeDiff, Nat.reduceBEq, Nat.reduceBNe, reduceIte, if_true, if_false, Bool.false_and, Bool.true_and, Bool.and_true, Bool.and_false, Bool.not_false, Bool.not_true, Bool.false_eq_true, beq_self_eq_true, BEq.rfl, zCat1, zCat2, zCat3, zKdI, zKdL, zKdR, true_and, and_true, zSI, zSL, zSR, zu_at, and_self, and_false, false_and, lv_args, zKdZ, zKdO, zB01, zB11, Option.toList_none, Option.toList_some, List.nil_append, List.cons_append, true_or, or_true, zRow_rd, zu_rd, zo_aload_n, zo_iconst, zo_putfield, zo_putfield_2, zo_putfield_3, zo_iload_n, zo_if_lt, zo_getfield, zo_icmp_le, zo_bipush, zo_ireturn, zi_0, zb_m2, zi_m1, zKd_10_2, zTy_10_2, zKd_10_1, zKd_10_6, zTy_10_6, zTy_10_1, zKd_10_4, zTy_10_4, zKd_10_5, zTy_10_5, zKd_10_7, zTy_10_7, zcl_0, sh_87, zRt, zPutC, zKn_s, zKn_0, zFind, x0', t1, xm', zN10, zN01, not_true_eq_false, not_false_eq_true, false_implies, true_implies, implies_true, eq_self, nI_1, nI_40, nI_7, vz0, vz1, zb1_e0, zb1_n0]
      generalize hI1 : zu (zu (zu (zu (zu (zu I 87 2 0) 87 6 (nI n)) 87 1 0) 87 4 0) 87 5 (-1)) 87 7 0 = I1
      have k1 : zKpt SXr I I1 := by
        rw [← hI1]
        exact (((((zKpt_rfl.u (by unfold SXr SPr; omega)).u (by unfold SXr SPr; omega)).u (by unfold SXr SPr; omega)).u (by unfold SXr SPr; omega)).u (by unfold SXr SPr; omega)).u (by unfold SXr SPr; omega)
      refine z_cV0 (M' := mX10_plain) (R' := rX10_plain) (i := 87) [] [] eX10_plain k10_172 (by decide +kernel : decode cX10_text 46 = .ok (.invokevirtual 172, 3)) (Nat.le_of_ble_eq_true rfl) ⟨Nat.le_of_ble_eq_true rfl, Nat.le_of_ble_eq_true rfl, Nat.le_of_ble_eq_true rfl, Nat.le_of_ble_eq_true rfl, Nat.le_of_ble_eq_true rfl⟩ rfl rfl rfl sh_87 ?_
      refine mo_plain zMo_all ?_
      have hD1 : zDr (zPlainM I1) dD0 := zDr_0 (by rw [← hI1]; simp [zu_at]) (by rw [← hI1]; simp [zu_at]) (fun b => by rw [show I1 104 b = I 104 b by rw [← hI1]; simp [zu_at]]; exact hb b)
      have k2 : zKpt SPr I1 (zPlainM I1) := zPlainM_kpt
      have f6 : zPlainM I1 87 6 = nI n := by rw [k2 87 6 (by unfold SPr; omega), ← hI1]; simp [zu_at]
      have f7 : zPlainM I1 87 7 = nI 0 := by rw [k2 87 7 (by unfold SPr; omega), ← hI1]; simp [zu_at]; rfl
      have f1 : zPlainM I1 87 1 = 0 := by rw [k2 87 1 (by unfold SPr; omega), ← hI1]; simp [zu_at]
      have f2 : zPlainM I1 87 2 = 0 := by rw [k2 87 2 (by unfold SPr; omega), ← hI1]; simp [zu_at]
      have fw : ∀ k, k < 136 → zPlainM I1 89 k = nI (mWa k) := fun k hk => by rw [k2 89 k (by unfold SPr; omega), k1 89 k (by unfold SXr SPr; omega)]; exact hw k hk
      have ft : ∀ k, k < n → zPlainM I1 88 k = nI (T.2 k) ∧ T.2 k < 256 := fun k hk => by
        rw [k2 88 k (by unfold SPr; omega), k1 88 k (by unfold SXr SPr; omega)]
        exact ⟨t2 k (by omega), hTO.2 k (by omega)⟩
      have k3 : zKpt SXr I (zPlainM I1) := k1.trans (k2.mono (fun i k h => Or.inl h))
      generalize zPlainM I1 = I2 at hD1 f6 f7 f1 f2 fw ft k3
      refine zBlkR (M := mX10_text) (nL := 3) (rt := (Option.some .int)) (blk := bX10_text_49) (T := []) 0 hX10_text_49 zChks_nil rfl rfl rfl (Nat.le_of_ble_eq_true rfl) (Nat.le_of_ble_eq_true rfl) ?_
      simp (implicitDefEqProofs := false) only [bX10_text_49, zRun_cons, zRun_nil, zLk, zSto, zIns, zFil, zf0, zf1, zf2, zf3, List.filter_cons, List.filter_nil, Nat.reduceAdd, Nat.reduceEqDiff, Nat.reduceLT, Nat.reduceLeDiff, Nat.reduceBEq, Nat.reduceBNe, reduceIte, if_true, if_false, Bool.false_and, Bool.true_and, Bool.and_true, Bool.and_false, Bool.not_false, Bool.not_true, Bool.false_eq_true, beq_self_eq_true, BEq.rfl, zCat1, zCat2, zCat3, zKdI, zKdL, zKdR, true_and, and_true, zSI, zSL, zSR, zu_at, and_self, and_false, false_and, lv_args, zKdZ, zKdO, zB01, zB11, Option.toList_none, Option.toList_some, List.nil_append, List.cons_append, true_or, or_true, zRow_rd, zu_rd, zo_aload_n, zKn_0, zN10, zN01, not_true_eq_false, not_false_eq_true, false_implies, true_implies, implies_true, eq_self, nI_1, nI_40, nI_7, vz0, vz1, zb1_e0, zb1_n0]
      refine z_cV0 (M' := mX10_token) (R' := rX10_token) (i := 87) [] [] eX10_token k10_230 (by decide +kernel : decode cX10_text 50 = .ok (.invokevirtual 230, 3)) (Nat.le_of_ble_eq_true rfl) ⟨Nat.le_of_ble_eq_true rfl, Nat.le_of_ble_eq_true rfl, Nat.le_of_ble_eq_true rfl, Nat.le_of_ble_eq_true rfl, Nat.le_of_ble_eq_true rfl⟩ rfl rfl rfl sh_87 ?_
      refine mo_token (W := W) (T := T.2) n 0 I2 fw hW (by rw [Nat.zero_add]; exact f6) f7 (by omega) (fun k hk => ft k (by omega)) (fun I3 k4 g10 g7 gr => ?_)
      rw [Nat.zero_add] at g10 g7 gr
      have k5 : zKpt SXr I I3 := k3.trans (k4.mono (fun i k h => by unfold SRj at h; unfold SXr; omega))
      have hE : zEr I3 (W, T.2, n) := ⟨by rw [k4 87 6 (by unfold SRj; omega)]; exact f6, fun k hk => by rw [k4 89 k (by unfold SRj; omega)]; exact fw k hk, hW, by show n ≤ 700; omega, fun k hk => by rw [k4 88 k (by unfold SRj; omega)]; exact ft k hk⟩
      have hD3 : zDr I3 dD0 := zDr_k hD1 k4 (fun i k h => by unfold SRj at h; omega)
      have ht0 : tOk (W, T.2, n) (oTc W T.2 n 0) := by
        obtain ⟨a1, a2, a3, a4, a5, a6⟩ := oTc_ok (W := W) (T := T.2) (e := n) (i := 0) (Nat.zero_le _)
        exact ⟨a1, a2, a5, a6⟩
      have hfu : tKd (oTc W T.2 n 0) = 0 ∨ (W, T.2, n).2.2 - (oTc W T.2 n 0).2.1 + 1 ≤ 700 := by
        obtain ⟨a1, a2, a3, a4, a5, a6⟩ := oTc_ok (W := W) (T := T.2) (e := n) (i := 0) (Nat.zero_le _)
        by_cases g : tKd (oTc W T.2 n 0) = 0
        · exact Or.inl g
        · have := a4 g
          right
          show n - (oTc W T.2 n 0).2.1 + 1 ≤ 700
          omega
      have h1 : I3 87 1 = 0 := by rw [k4 87 1 (by unfold SRj; omega)]; exact f1
      have h2 : I3 87 2 = 0 := by rw [k4 87 2 (by unfold SRj; omega)]; exact f2
      have mq : ∀ (J' : Nat → Nat → Int32) (t' : oTk) (kd' wh' : Int32), zKpt SPr I3 J' → zKpt SXr I (zTq J' t' kd' wh') := fun J' t' kd' wh' h => (k5.trans (h.mono (fun i k h => Or.inl h))).trans (zTq_kpt.mono (fun i k h => by unfold SRj at h; unfold SXr; omega))
      have key := mo_textLoop (w := w) (Q := Q) (L := L) (p := p) (s := s) (r := r) (x := nI n) (E := (W, T.2, n)) 700 (oTc W T.2 n 0) dD0 0 I3 (I3 87 8) (I3 87 9) (by omega) hfu hE ht0 gr hD3 DOk_0 (fun f J' t' kd' wh' h0 q1 q2 q3 => hF n f _ rfl hn h0 (mq J' t' kd' wh' q1) (by rw [zTq_k (by simp) (by simp) (by simp) (by simp), q1 87 1 (by unfold SPr; omega)]; exact h1) (by rw [zTq_k (by simp) (by simp) (by simp) (by simp), q1 87 2 (by unfold SPr; omega)]; exact h2) (by rw [zTq_k (by simp) (by simp) (by simp) (by simp)]; exact q2) (by rw [zTq_k (by simp) (by simp) (by simp) (by simp)]; exact q3)) (fun t' D' m' J' kd' wh' h0 q1 q2 q3 => ?_)
      · rw [zTq_self g10 g7] at key
        refine zBlkR (M := mX10_text) (nL := 3) (rt := (Option.some .int)) (blk := bX10_text_53) (T := []) 0 hX10_text_53 zChks_nil rfl rfl rfl (Nat.le_of_ble_eq_true rfl) (Nat.le_of_ble_eq_true rfl) ?_
        simp (implicitDefEqProofs := false) only [bX10_text_53, zRun_cons, zRun_nil, zLk, zSto, zIns, zFil, zf0, zf1, zf2, zf3, List.filter_cons, List.filter_nil, Nat.reduceAdd, Nat.reduceEqDiff, Nat.reduceLT, Nat.reduceLeDiff, Nat.reduceBEq, Nat.reduceBNe, reduceIte, if_true, if_false, Bool.false_and, Bool.true_and, Bool.and_true, Bool.and_false, Bool.not_false, Bool.not_true, Bool.false_eq_true, beq_self_eq_true, BEq.rfl, zCat1, zCat2, zCat3, zKdI, zKdL, zKdR, true_and, and_true, zSI, zSL, zSR, zu_at, and_self, and_false, false_and, lv_args, zKdZ, zKdO, zB01, zB11, Option.toList_none, Option.toList_some, List.nil_append, List.cons_append, true_or, or_true, zRow_rd, zu_rd, zo_iconst, zo_istore_n, zi_0, zcl_0, zKn_0, zN10, zN01, not_true_eq_false, not_false_eq_true, false_implies, true_implies, implies_true, eq_self, nI_1, nI_40, nI_7, vz0, vz1, zb1_e0, zb1_n0]
        exact key
      · have hDq : zDr (zTq J' t' kd' wh') D' := zDr_k q2 zTq_kpt (fun i k h => by unfold SRj at h; omega)
        have hM1 : zTq J' t' kd' wh' 87 1 = 0 := by rw [zTq_k (by simp) (by simp) (by simp) (by simp), q1 87 1 (by unfold SPr; omega)]; exact h1
        have hM2 : zTq J' t' kd' wh' 87 2 = 0 := by rw [zTq_k (by simp) (by simp) (by simp) (by simp), q1 87 2 (by unfold SPr; omega)]; exact h2
        have hMk := mq J' t' kd' wh' q1
        generalize zTq J' t' kd' wh' = M at hDq hM1 hM2 hMk
        refine zBlkR (M := mX10_text) (nL := 3) (rt := (Option.some .int)) (blk := bX10_text_77) (T := []) 0 hX10_text_77 zChks_nil rfl rfl rfl (Nat.le_of_ble_eq_true rfl) (Nat.le_of_ble_eq_true rfl) ?_
        simp (implicitDefEqProofs := false) only [bX10_text_77, zRun_cons, zRun_nil, zLk, zSto, zIns, zFil, zf0, zf1, zf2, zf3, List.filter_cons, List.filter_nil, Nat.reduceAdd, Nat.reduceEqDiff, Nat.reduceLT, Nat.reduceLeDiff, Nat.reduceBEq, Nat.reduceBNe, reduceIte, if_true, if_false, Bool.false_and, Bool.true_and, Bool.and_true, Bool.and_false, Bool.not_false, Bool.not_true, Bool.false_eq_true, beq_self_eq_true, BEq.rfl, zCat1, zCat2, zCat3, zKdI, zKdL, zKdR, true_and, and_true, zSI, zSL, zSR, zu_at, and_self, and_false, false_and, lv_args, zKdZ, zKdO, zB01, zB11, Option.toList_none, Option.toList_some, List.nil_append, List.cons_append, true_or, or_true, zRow_rd, zu_rd, zo_aload_n, zKn_0, zN10, zN01, not_true_eq_false, not_false_eq_true, false_implies, true_implies, implies_true, eq_self, nI_1, nI_40, nI_7, vz0, vz1, zb1_e0, zb1_n0]
        refine z_cV0 (M' := mX10_keepText) (R' := rX10_keepText) (i := 87) [] [] eX10_keepText k10_175 (by decide +kernel : decode cX10_text 78 = .ok (.invokevirtual 175, 3)) (Nat.le_of_ble_eq_true rfl) ⟨Nat.le_of_ble_eq_true rfl, Nat.le_of_ble_eq_true rfl, Nat.le_of_ble_eq_true rfl, Nat.le_of_ble_eq_true rfl, Nat.le_of_ble_eq_true rfl⟩ rfl rfl rfl sh_87 ?_
        refine mo_keepText zMo_all hDq.2.2.2.2.2.2.2.2.2.2.1 ?_
        refine zBlkR (M := mX10_text) (nL := 3) (rt := (Option.some .int)) (blk := bX10_text_81) (T := []) 0 hX10_text_81 zChks_nil rfl rfl rfl (Nat.le_of_ble_eq_true rfl) (Nat.le_of_ble_eq_true rfl) ?_
        simp (implicitDefEqProofs := false) only [bX10_text_81, zRun_cons, zRun_nil, zLk, zSto, zIns, zFil, zf0, zf1, zf2, zf3, List.filter_cons, List.filter_nil, Nat.reduceAdd, Nat.reduceEqDiff, Nat.reduceLT, Nat.reduceLeDiff, Nat.reduceBEq, Nat.reduceBNe, reduceIte, if_true, if_false, Bool.false_and, Bool.true_and, Bool.and_true, Bool.and_false, Bool.not_false, Bool.not_true, Bool.false_eq_true, beq_self_eq_true, BEq.rfl, zCat1, zCat2, zCat3, zKdI, zKdL, zKdR, true_and, and_true, zSI, zSL, zSR, zu_at, and_self, and_false, false_and, lv_args, zKdZ, zKdO, zB01, zB11, Option.toList_none, Option.toList_some, List.nil_append, List.cons_append, true_or, or_true, zRow_rd, zu_rd, zo_iload_n, zo_ireturn, zRt, zKn_0, zN10, zN01, not_true_eq_false, not_false_eq_true, false_implies, true_implies, implies_true, eq_self, nI_1, nI_40, nI_7, vz0, vz1, zb1_e0, zb1_n0]
        exact hG n D' m' M rfl hn h0 hMk hM1 hM2 hDq q3
end ZN98zl
