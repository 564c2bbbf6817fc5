/-! ===== TEXT: formulas and laws in the reference, whole ===== -/
section ZN98zg
variable {w : zP} {Q : Option Value → zMem → Prop} {μ : zMem} {I J J' : Nat → Nat → Int32} {L K : Nat → Nat → Int64} {p s : Nat} {r : Option Nat} {a b c i j k n h e m lo hi l F q : Nat} {x y v kd wh : Int32} {E : oEn} {t u : oTk} {D : oDf} {ws hd hd' : List Nat} {R R0 : Nat → Nat → Int32} {X : oFx} {S S' : oFm} {f g f' g' : Nat → Int32} {w' wb : Bool}
theorem fLeaf_0 (h : fLeaf t S = .inr (S', w')) : tKd t ≠ 0 := by
  intro e
  unfold fLeaf at h
  rw [if_neg (by omega), if_neg (by omega), if_neg (by omega), if_neg (by omega)] at h
  cases h
theorem fSign_0 (h : fSign t S = .inr (S', w')) : tKd t ≠ 0 := by
  intro e
  unfold fSign at h
  rw [if_neg (by omega), e, if_pos (by decide)] at h
  cases h
theorem fuel_nx (ht : tOk E t) (hk : tKd t ≠ 0) (h : tKd t = 0 ∨ E.2.2 - t.2.1 + 2 ≤ n + 1) : 1 ≤ n ∧ (tKd (tNx E t) = 0 ∨ E.2.2 - (tNx E t).2.1 + 2 ≤ n) := by
  have h1 := tNx_end ht
  have h2 := (tOk_nx ht).2.1
  have h3 := h.resolve_left hk
  refine ⟨by omega, ?_⟩
  by_cases g : tKd (tNx E t) = 0
  · exact Or.inl g
  · have := h1.2 g
    right; omega
set_option maxRecDepth 20000 in
theorem mo_sumLoop : ∀ (n : Nat) (t : oTk) (S : oFm) (wb : Bool) (J : Nat → Nat → Int32) (kd wh : Int32), (1 ≤ n ∧ (tKd t = 0 ∨ E.2.2 - t.2.1 + 2 ≤ n)) → zEr J E → tOk E t → tRel t.2.2.1 t.2.2.2 kd wh → zFr J S wb → FOk F R0 S wb → (∀ f J' t' kd' wh', fSum E n t S wb = .inl f → zKpt SPr J J' → J' 87 4 = nI f.1 → J' 87 5 = nI f.2 → Q (some (.int 0)) (SH, zTq J' t' kd' wh', L, RF p s r)) → (∀ t' S' J' kd' wh', fSum E n t S wb = .inr (t', S') → zKpt SFr J J' → zFr0 J' S' → tRel t'.2.2.1 t'.2.2.2 kd' wh' → Q (some (.int 1)) (SH, zTq J' t' kd' wh', L, RF p s r)) → zX w mX10_sumRead rX10_sumRead Q 0 0 25 [(0, Value.ref 87)] [] (SH, zTq J t kd wh, L, RF p s r) := by
  intro n
  induction n with
  | zero => intro t S wb J kd wh hn; exact absurd hn.1 (by omega)
  | succ n ih =>
    intro t S wb J kd wh hn hE ht hr hJ hS hF hG
    have hg : fSum E (n + 1) t S wb = fSum E (n + 1) t S wb := rfl
    conv at hg => rhs; unfold fSum
    obtain ⟨ws, X⟩ := S
    obtain ⟨hJ0, j50, j51⟩ := id hJ
    have o3 := hS.2.2.1
    simp only at o3
    have j48 := hJ0.2.2.1
    simp only at j48
    have z0 : (nI (brk ws) ≤ 0) = (brk ws ≤ 0) := zle_nat (b := 0) (by omega) (by omega)
    -- round again
    have next : ∀ (S1 : oFm) (w1 : Bool) (J1 : Nat → Nat → Int32) (kd1 wh1 : Int32), tKd t ≠ 0 → zKpt SFr J J1 → zFr J1 S1 w1 → FOk F R0 S1 w1 → tRel (tNx E t).2.2.1 (tNx E t).2.2.2 kd1 wh1 → fSum E (n + 1) t (ws, X) wb = fSum E n (tNx E t) S1 w1 → zX w mX10_sumRead rX10_sumRead Q 0 0 25 [(0, Value.ref 87)] [] (SH, zTq J1 (tNx E t) kd1 wh1, L, RF p s r) := by
      intro S1 w1 J1 kd1 wh1 hk k1 hJ1 hS1 hr1 he
      have kk : zKpt SPr J J1 := k1.mono (fun i k h => SFr_p h)
      exact ih (tNx E t) S1 w1 J1 kd1 wh1 (fuel_nx ht hk hn.2) (zEr_k kk hE) (tOk_nx ht) hr1 hJ1 hS1 (fun f J' t' kd' wh' h0 h1 h2 h3 => hF f J' t' kd' wh' (he.trans h0) (kk.trans h1) h2 h3) (fun t' S' J' kd' wh' h0 h1 h2 h3 => hG t' S' J' kd' wh' (he.trans h0) (k1.trans h1) h2 h3)
    cases wb with
    | true =>
      obtain ⟨hd, R, m, c⟩ := X
      rw [if_neg (fun z => by cases z.2.1), if_pos rfl] at hg
      have j50' : J 87 50 = 1 := j50
      have go56 : zX w mX10_sumRead rX10_sumRead Q 0 0 56 [(0, Value.ref 87)] [Value.ref 87] (SH, zTq J t kd wh, L, RF p s r) := by
        refine z_cV0 (M' := mX10_leafRead) (R' := rX10_leafRead) (i := 87) [] [] eX10_leafRead k10_363 (by decide +kernel : decode cX10_sumRead 56 = .ok (.invokevirtual 363, 3)) (Nat.le_of_ble_eq_true rfl) ⟨Nat.le_of_ble_eq_true rfl, Nat.le_of_ble_eq_true rfl, Nat.le_of_ble_eq_true rfl, Nat.le_of_ble_eq_true rfl, Nat.le_of_ble_eq_true rfl⟩ rfl rfl rfl sh_87 ?_
        refine mo_leafRead hE ht hr hJ hS (fun f J1 t1 kd1 wh1 h0 h1 h2 h3 => ?_) (fun S1 w1 J1 kd1 wh1 h0 h1 h2 h3 => ?_)
        · rw [h0] at hg
          refine zBlkR (M := mX10_sumRead) (nL := 1) (rt := (Option.some .boolean)) (blk := bX10_sumRead_59) (T := [(72, bX10_sumRead_72)]) 1 hX10_sumRead_59 (zChks_cons hX10_sumRead_72 zChks_nil) rfl rfl rfl (Nat.le_of_ble_eq_true rfl) (Nat.le_of_ble_eq_true rfl) ?_
          simp (implicitDefEqProofs := false) only [bX10_sumRead_59, bX10_sumRead_72, zRun_cons, zRun_nil, zLk, zSto, zIns, zFil, zf0, zf1, zf2, zf3, List.filter_cons, List.filter_nil, Nat.reduceAdd, Nat.reduceEqDiff, Nat.reduceLT, Nat.reduceLeDiff, Nat.reduceBEq, Nat.reduceBNe, reduceIte, if_true, if_false, Bool.false_and, Bool.true_and, Bool.and_true, Bool.and_false, Bool.not_false, Bool.not_true, Bool.false_eq_true, beq_self_eq_true, BEq.rfl, zCat1, zCat2, zCat3, zKdI, zKdL, zKdR, true_and, and_true, zSI, zSL, zSR, zu_at, and_self, and_false, false_and, lv_args, zKdZ, zKdO, zB01, zB11, Option.toList_none, Option.toList_some, List.nil_append, List.cons_append, true_or, or_true, zRow_rd, zu_rd, zo_if_eq, zo_goto, zo_iconst, zo_ireturn, zi_0, zcl_0, zRt, zKn_s, zKn_0, zFind, zN10, zN01, not_true_eq_false, not_false_eq_true, false_implies, true_implies, implies_true, eq_self, nI_1, nI_40, nI_7, vz0, vz1, zb1_e0, zb1_n0]
          exact hF f J1 t1 kd1 wh1 hg h1 h2 h3
        · rw [h0] at hg
          have key := next S1 w1 J1 kd1 wh1 (fLeaf_0 h0) h1 h2 (fLeaf_ok hS h0) h3 hg
          refine zBlkR (M := mX10_sumRead) (nL := 1) (rt := (Option.some .boolean)) (blk := bX10_sumRead_59) (T := [(72, bX10_sumRead_72)]) 1 hX10_sumRead_59 (zChks_cons hX10_sumRead_72 zChks_nil) rfl rfl rfl (Nat.le_of_ble_eq_true rfl) (Nat.le_of_ble_eq_true rfl) ?_
          simp (implicitDefEqProofs := false) only [bX10_sumRead_59, bX10_sumRead_72, zRun_cons, zRun_nil, zLk, zSto, zIns, zFil, zf0, zf1, zf2, zf3, List.filter_cons, List.filter_nil, Nat.reduceAdd, Nat.reduceEqDiff, Nat.reduceLT, Nat.reduceLeDiff, Nat.reduceBEq, Nat.reduceBNe, reduceIte, if_true, if_false, Bool.false_and, Bool.true_and, Bool.and_true, Bool.and_false, Bool.not_false, Bool.not_true, Bool.false_eq_true, beq_self_eq_true, BEq.rfl, zCat1, zCat2, zCat3, zKdI, zKdL, zKdR, true_and, and_true, zSI, zSL, zSR, zu_at, and_self, and_false, false_and, lv_args, zKdZ, zKdO, zB01, zB11, Option.toList_none, Option.toList_some, List.nil_append, List.cons_append, true_or, or_true, zRow_rd, zu_rd, zo_if_eq, zo_goto, zo_iconst, zo_ireturn, zi_0, zcl_0, zRt, zKn_s, zKn_0, zFind, zN10, zN01, not_true_eq_false, not_false_eq_true, false_implies, true_implies, implies_true, eq_self, nI_1, nI_40, nI_7, vz0, vz1, zb1_e0, zb1_n0]
          exact key
      refine zBlkR (M := mX10_sumRead) (nL := 1) (rt := (Option.some .boolean)) (blk := bX10_sumRead_25) (T := []) 0 hX10_sumRead_25 zChks_nil rfl rfl rfl (Nat.le_of_ble_eq_true rfl) (Nat.le_of_ble_eq_true rfl) ?_
      simp (implicitDefEqProofs := false) only [bX10_sumRead_25, zRun_cons, zRun_nil, zLk, zSto, zIns, zFil, zf0, zf1, zf2, zf3, List.filter_cons, List.filter_nil, Nat.reduceAdd, Nat.reduceEqDiff, Nat.reduceLT, Nat.reduceLeDiff, Nat.reduceBEq, Nat.reduceBNe, reduceIte, if_true, if_false, Bool.false_and, Bool.true_and, Bool.and_true, Bool.and_false, Bool.not_false, Bool.not_true, Bool.false_eq_true, beq_self_eq_true, BEq.rfl, zCat1, zCat2, zCat3, zKdI, zKdL, zKdR, true_and, and_true, zSI, zSL, zSR, zu_at, and_self, and_false, false_and, lv_args, zKdZ, zKdO, zB01, zB11, Option.toList_none, Option.toList_some, List.nil_append, List.cons_append, true_or, or_true, zRow_rd, zu_rd, zo_aload_n, zo_bipush, zb_59, zcl_59, zKn_0, zN10, zN01, not_true_eq_false, not_false_eq_true, false_implies, true_implies, implies_true, eq_self, nI_1, nI_40, nI_7, vz0, vz1, zb1_e0, zb1_n0]
      refine z_cV0 (M' := mX10_isSign) (R' := rX10_isSign) (i := 87) [.int 59] [] eX10_isSign k10_233 (by decide +kernel : decode cX10_sumRead 28 = .ok (.invokevirtual 233, 3)) (Nat.le_of_ble_eq_true rfl) ⟨Nat.le_of_ble_eq_true rfl, Nat.le_of_ble_eq_true rfl, Nat.le_of_ble_eq_true rfl, Nat.le_of_ble_eq_true rfl, Nat.le_of_ble_eq_true rfl⟩ rfl rfl rfl sh_87 ?_
      refine mo_isSign ?_
      rw [zTq_8, zTq_9, tS59 hr]
      by_cases k4 : t.2.2.1 = 4
      · rw [decide_eq_true k4]
        refine zBlkR (M := mX10_sumRead) (nL := 1) (rt := (Option.some .boolean)) (blk := bX10_sumRead_31) (T := [(48, bX10_sumRead_48), (65, bX10_sumRead_65), (74, bX10_sumRead_74)]) 2 hX10_sumRead_31 (zChks_cons hX10_sumRead_48 (zChks_cons hX10_sumRead_65 (zChks_cons hX10_sumRead_74 zChks_nil))) rfl rfl rfl (Nat.le_of_ble_eq_true rfl) (Nat.le_of_ble_eq_true rfl) ?_
        simp (implicitDefEqProofs := false) only [bX10_sumRead_31, bX10_sumRead_48, bX10_sumRead_65, bX10_sumRead_74, zRun_cons, zRun_nil, zLk, zSto, zIns, zFil, zf0, zf1, zf2, zf3, List.filter_cons, List.filter_nil, Nat.reduceAdd, Nat.reduceEqDiff, Nat.reduceLT, Nat.reduceLeDiff, Nat.reduceBEq, Nat.reduceBNe, reduceIte, if_true, if_false, Bool.false_and, Bool.true_and, Bool.and_true, Bool.and_false, Bool.not_false, Bool.not_true, Bool.false_eq_true, beq_self_eq_true, BEq.rfl, zCat1, zCat2, zCat3, zKdI, zKdL, zKdR, true_and, and_true, zSI, zSL, zSR, zu_at, and_self, and_false, false_and, lv_args, zKdZ, zKdO, zB01, zB11, Option.toList_none, Option.toList_some, List.nil_append, List.cons_append, true_or, or_true, zRow_rd, zu_rd, zo_if_eq, zo_aload_n, zo_getfield, zo_if_ne, zo_if_le, zo_iconst, zi_1, zKd_10_50, zKd_10_48, sh_87, zcl_1, zKn_s, zKn_0, zFind, zb1_t, zTq_7, zTq_8, zTq_9, zTq_10, zTq_o, zTq_k, zTq_u, zTq_uk, j50', zN10, zN01, not_true_eq_false, not_false_eq_true, false_implies, true_implies, implies_true, eq_self, nI_1, nI_40, nI_7, vz0, vz1, zb1_e0, zb1_n0]
        exact go56
      · rw [decide_eq_false k4]
        refine zBlkR (M := mX10_sumRead) (nL := 1) (rt := (Option.some .boolean)) (blk := bX10_sumRead_31) (T := [(48, bX10_sumRead_48), (65, bX10_sumRead_65), (74, bX10_sumRead_74)]) 2 hX10_sumRead_31 (zChks_cons hX10_sumRead_48 (zChks_cons hX10_sumRead_65 (zChks_cons hX10_sumRead_74 zChks_nil))) rfl rfl rfl (Nat.le_of_ble_eq_true rfl) (Nat.le_of_ble_eq_true rfl) ?_
        simp (implicitDefEqProofs := false) only [bX10_sumRead_31, bX10_sumRead_48, bX10_sumRead_65, bX10_sumRead_74, zRun_cons, zRun_nil, zLk, zSto, zIns, zFil, zf0, zf1, zf2, zf3, List.filter_cons, List.filter_nil, Nat.reduceAdd, Nat.reduceEqDiff, Nat.reduceLT, Nat.reduceLeDiff, Nat.reduceBEq, Nat.reduceBNe, reduceIte, if_true, if_false, Bool.false_and, Bool.true_and, Bool.and_true, Bool.and_false, Bool.not_false, Bool.not_true, Bool.false_eq_true, beq_self_eq_true, BEq.rfl, zCat1, zCat2, zCat3, zKdI, zKdL, zKdR, true_and, and_true, zSI, zSL, zSR, zu_at, and_self, and_false, false_and, lv_args, zKdZ, zKdO, zB01, zB11, Option.toList_none, Option.toList_some, List.nil_append, List.cons_append, true_or, or_true, zRow_rd, zu_rd, zo_if_eq, zo_aload_n, zo_getfield, zo_if_ne, zo_if_le, zo_iconst, zi_1, zKd_10_50, zKd_10_48, sh_87, zcl_1, zKn_s, zKn_0, zFind, zb1_f, zTq_7, zTq_8, zTq_9, zTq_10, zTq_o, zTq_k, zTq_u, zTq_uk, j50', zN10, zN01, not_true_eq_false, not_false_eq_true, false_implies, true_implies, implies_true, eq_self, nI_1, nI_40, nI_7, vz0, vz1, zb1_e0, zb1_n0]
        exact go56
    | false =>
      have j50' : J 87 50 = 0 := j50
      have go66 : ¬ (tKd t = 4 ∧ brk ws = 0) → zX w mX10_sumRead rX10_sumRead Q 0 0 66 [(0, Value.ref 87)] [Value.ref 87] (SH, zTq J t kd wh, L, RF p s r) := by
        intro hno
        rw [if_neg (fun z => hno ⟨z.1, z.2.2⟩), if_neg (by decide)] at hg
        refine z_cV0 (M' := mX10_signs) (R' := rX10_signs) (i := 87) [] [] eX10_signs k10_366 (by decide +kernel : decode cX10_sumRead 66 = .ok (.invokevirtual 366, 3)) (Nat.le_of_ble_eq_true rfl) ⟨Nat.le_of_ble_eq_true rfl, Nat.le_of_ble_eq_true rfl, Nat.le_of_ble_eq_true rfl, Nat.le_of_ble_eq_true rfl, Nat.le_of_ble_eq_true rfl⟩ rfl rfl rfl sh_87 ?_
        refine mo_signs hE ht hr hJ hS (fun f J1 t1 kd1 wh1 h0 h1 h2 h3 => ?_) (fun S1 w1 J1 kd1 wh1 h0 h1 h2 h3 => ?_)
        · rw [h0] at hg
          refine zBlkR (M := mX10_sumRead) (nL := 1) (rt := (Option.some .boolean)) (blk := bX10_sumRead_69) (T := []) 0 hX10_sumRead_69 zChks_nil rfl rfl rfl (Nat.le_of_ble_eq_true rfl) (Nat.le_of_ble_eq_true rfl) ?_
          simp (implicitDefEqProofs := false) only [bX10_sumRead_69, zRun_cons, zRun_nil, zLk, zSto, zIns, zFil, zf0, zf1, zf2, zf3, List.filter_cons, List.filter_nil, Nat.reduceAdd, Nat.reduceEqDiff, Nat.reduceLT, Nat.reduceLeDiff, Nat.reduceBEq, Nat.reduceBNe, reduceIte, if_true, if_false, Bool.false_and, Bool.true_and, Bool.and_true, Bool.and_false, Bool.not_false, Bool.not_true, Bool.false_eq_true, beq_self_eq_true, BEq.rfl, zCat1, zCat2, zCat3, zKdI, zKdL, zKdR, true_and, and_true, zSI, zSL, zSR, zu_at, and_self, and_false, false_and, lv_args, zKdZ, zKdO, zB01, zB11, Option.toList_none, Option.toList_some, List.nil_append, List.cons_append, true_or, or_true, zRow_rd, zu_rd, zo_if_ne, zo_iconst, zo_ireturn, zi_0, zcl_0, zRt, zKn_0, zN10, zN01, not_true_eq_false, not_false_eq_true, false_implies, true_implies, implies_true, eq_self, nI_1, nI_40, nI_7, vz0, vz1, zb1_e0, zb1_n0]
          exact hF f J1 t1 kd1 wh1 hg h1 h2 h3
        · rw [h0] at hg
          have key := next S1 w1 J1 kd1 wh1 (fSign_0 h0) h1 h2 (fSign_ok hS h0) h3 hg
          refine zBlkR (M := mX10_sumRead) (nL := 1) (rt := (Option.some .boolean)) (blk := bX10_sumRead_69) (T := []) 0 hX10_sumRead_69 zChks_nil rfl rfl rfl (Nat.le_of_ble_eq_true rfl) (Nat.le_of_ble_eq_true rfl) ?_
          simp (implicitDefEqProofs := false) only [bX10_sumRead_69, zRun_cons, zRun_nil, zLk, zSto, zIns, zFil, zf0, zf1, zf2, zf3, List.filter_cons, List.filter_nil, Nat.reduceAdd, Nat.reduceEqDiff, Nat.reduceLT, Nat.reduceLeDiff, Nat.reduceBEq, Nat.reduceBNe, reduceIte, if_true, if_false, Bool.false_and, Bool.true_and, Bool.and_true, Bool.and_false, Bool.not_false, Bool.not_true, Bool.false_eq_true, beq_self_eq_true, BEq.rfl, zCat1, zCat2, zCat3, zKdI, zKdL, zKdR, true_and, and_true, zSI, zSL, zSR, zu_at, and_self, and_false, false_and, lv_args, zKdZ, zKdO, zB01, zB11, Option.toList_none, Option.toList_some, List.nil_append, List.cons_append, true_or, or_true, zRow_rd, zu_rd, zo_if_ne, zo_iconst, zo_ireturn, zi_0, zcl_0, zRt, zKn_0, zN10, zN01, not_true_eq_false, not_false_eq_true, false_implies, true_implies, implies_true, eq_self, nI_1, nI_40, nI_7, vz0, vz1, zb1_e0, zb1_n0]
          exact key
      refine zBlkR (M := mX10_sumRead) (nL := 1) (rt := (Option.some .boolean)) (blk := bX10_sumRead_25) (T := []) 0 hX10_sumRead_25 zChks_nil rfl rfl rfl (Nat.le_of_ble_eq_true rfl) (Nat.le_of_ble_eq_true rfl) ?_
      simp (implicitDefEqProofs := false) only [bX10_sumRead_25, zRun_cons, zRun_nil, zLk, zSto, zIns, zFil, zf0, zf1, zf2, zf3, List.filter_cons, List.filter_nil, Nat.reduceAdd, Nat.reduceEqDiff, Nat.reduceLT, Nat.reduceLeDiff, Nat.reduceBEq, Nat.reduceBNe, reduceIte, if_true, if_false, Bool.false_and, Bool.true_and, Bool.and_true, Bool.and_false, Bool.not_false, Bool.not_true, Bool.false_eq_true, beq_self_eq_true, BEq.rfl, zCat1, zCat2, zCat3, zKdI, zKdL, zKdR, true_and, and_true, zSI, zSL, zSR, zu_at, and_self, and_false, false_and, lv_args, zKdZ, zKdO, zB01, zB11, Option.toList_none, Option.toList_some, List.nil_append, List.cons_append, true_or, or_true, zRow_rd, zu_rd, zo_aload_n, zo_bipush, zb_59, zcl_59, zKn_0, zN10, zN01, not_true_eq_false, not_false_eq_true, false_implies, true_implies, implies_true, eq_self, nI_1, nI_40, nI_7, vz0, vz1, zb1_e0, zb1_n0]
      refine z_cV0 (M' := mX10_isSign) (R' := rX10_isSign) (i := 87) [.int 59] [] eX10_isSign k10_233 (by decide +kernel : decode cX10_sumRead 28 = .ok (.invokevirtual 233, 3)) (Nat.le_of_ble_eq_true rfl) ⟨Nat.le_of_ble_eq_true rfl, Nat.le_of_ble_eq_true rfl, Nat.le_of_ble_eq_true rfl, Nat.le_of_ble_eq_true rfl, Nat.le_of_ble_eq_true rfl⟩ rfl rfl rfl sh_87 ?_
      refine mo_isSign ?_
      rw [zTq_8, zTq_9, tS59 hr]
      by_cases k4 : t.2.2.1 = 4
      · rw [decide_eq_true k4]
        by_cases hb : brk ws ≤ 0
        · have hb' : (brk ws ≤ 0) = True := eq_true hb
          clear go66
          rw [if_pos ⟨k4, rfl, by show brk ws = 0; omega⟩] at hg
          refine zBlkR (M := mX10_sumRead) (nL := 1) (rt := (Option.some .boolean)) (blk := bX10_sumRead_31) (T := [(48, bX10_sumRead_48), (65, bX10_sumRead_65), (74, bX10_sumRead_74)]) 2 hX10_sumRead_31 (zChks_cons hX10_sumRead_48 (zChks_cons hX10_sumRead_65 (zChks_cons hX10_sumRead_74 zChks_nil))) rfl rfl rfl (Nat.le_of_ble_eq_true rfl) (Nat.le_of_ble_eq_true rfl) ?_
          simp (implicitDefEqProofs := false) only [bX10_sumRead_31, bX10_sumRead_48, bX10_sumRead_65, bX10_sumRead_74, zRun_cons, zRun_nil, zLk, zSto, zIns, zFil, zf0, zf1, zf2, zf3, List.filter_cons, List.filter_nil, Nat.reduceAdd, Nat.reduceEqDiff, Nat.reduceLT, Nat.reduceLeDiff, Nat.reduceBEq, Nat.reduceBNe, reduceIte, if_true, if_false, Bool.false_and, Bool.true_and, Bool.and_true, Bool.and_false, Bool.not_false, Bool.not_true, Bool.false_eq_true, beq_self_eq_true, BEq.rfl, zCat1, zCat2, zCat3, zKdI, zKdL, zKdR, true_and, and_true, zSI, zSL, zSR, zu_at, and_self, and_false, false_and, lv_args, zKdZ, zKdO, zB01, zB11, Option.toList_none, Option.toList_some, List.nil_append, List.cons_append, true_or, or_true, zRow_rd, zu_rd, zo_if_eq, zo_aload_n, zo_getfield, zo_if_ne, zo_if_le, zo_iconst, zi_1, zKd_10_50, zKd_10_48, sh_87, zcl_1, zKn_s, zKn_0, zFind, zb1_t, zTq_7, zTq_8, zTq_9, zTq_10, zTq_o, zTq_k, zTq_u, zTq_uk, j50', j48, z0, hb', zN10, zN01, not_true_eq_false, not_false_eq_true, false_implies, true_implies, implies_true, eq_self, nI_1, nI_40, nI_7, vz0, vz1, zb1_e0, zb1_n0]
          refine z_cV0 (M' := mX10_bind) (R' := rX10_bind) (i := 87) [.int (nI 1)] [] eX10_bind k10_360 (by decide +kernel : decode cX10_sumRead 76 = .ok (.invokevirtual 360, 3)) (Nat.le_of_ble_eq_true rfl) ⟨Nat.le_of_ble_eq_true rfl, Nat.le_of_ble_eq_true rfl, Nat.le_of_ble_eq_true rfl, Nat.le_of_ble_eq_true rfl, Nat.le_of_ble_eq_true rfl⟩ rfl rfl rfl sh_87 ?_
          refine mo_bind (l := 1) (by omega) (by omega) hJ0 hS (fun J1 k1 hJ1 => ?_)
          refine zBlkR (M := mX10_sumRead) (nL := 1) (rt := (Option.some .boolean)) (blk := bX10_sumRead_79) (T := []) 0 hX10_sumRead_79 zChks_nil rfl rfl rfl (Nat.le_of_ble_eq_true rfl) (Nat.le_of_ble_eq_true rfl) ?_
          simp (implicitDefEqProofs := false) only [bX10_sumRead_79, zRun_cons, zRun_nil, zLk, zSto, zIns, zFil, zf0, zf1, zf2, zf3, List.filter_cons, List.filter_nil, Nat.reduceAdd, Nat.reduceEqDiff, Nat.reduceLT, Nat.reduceLeDiff, Nat.reduceBEq, Nat.reduceBNe, reduceIte, if_true, if_false, Bool.false_and, Bool.true_and, Bool.and_true, Bool.and_false, Bool.not_false, Bool.not_true, Bool.false_eq_true, beq_self_eq_true, BEq.rfl, zCat1, zCat2, zCat3, zKdI, zKdL, zKdR, true_and, and_true, zSI, zSL, zSR, zu_at, and_self, and_false, false_and, lv_args, zKdZ, zKdO, zB01, zB11, Option.toList_none, Option.toList_some, List.nil_append, List.cons_append, true_or, or_true, zRow_rd, zu_rd, zo_iconst, zo_ireturn, zi_1, zcl_1, zRt, zKn_0, zN10, zN01, not_true_eq_false, not_false_eq_true, false_implies, true_implies, implies_true, eq_self, nI_1, nI_40, nI_7, vz0, vz1, zb1_e0, zb1_n0]
          exact hG _ _ _ _ _ hg (k1.mono (fun i k h => SFb_r h)) hJ1 hr
        · have hb' : (brk ws ≤ 0) = False := eq_false hb
          have key := go66 (fun z => hb (by omega))
          refine zBlkR (M := mX10_sumRead) (nL := 1) (rt := (Option.some .boolean)) (blk := bX10_sumRead_31) (T := [(48, bX10_sumRead_48), (65, bX10_sumRead_65), (74, bX10_sumRead_74)]) 2 hX10_sumRead_31 (zChks_cons hX10_sumRead_48 (zChks_cons hX10_sumRead_65 (zChks_cons hX10_sumRead_74 zChks_nil))) rfl rfl rfl (Nat.le_of_ble_eq_true rfl) (Nat.le_of_ble_eq_true rfl) ?_
          simp (implicitDefEqProofs := false) only [bX10_sumRead_31, bX10_sumRead_48, bX10_sumRead_65, bX10_sumRead_74, zRun_cons, zRun_nil, zLk, zSto, zIns, zFil, zf0, zf1, zf2, zf3, List.filter_cons, List.filter_nil, Nat.reduceAdd, Nat.reduceEqDiff, Nat.reduceLT, Nat.reduceLeDiff, Nat.reduceBEq, Nat.reduceBNe, reduceIte, if_true, if_false, Bool.false_and, Bool.true_and, Bool.and_true, Bool.and_false, Bool.not_false, Bool.not_true, Bool.false_eq_true, beq_self_eq_true, BEq.rfl, zCat1, zCat2, zCat3, zKdI, zKdL, zKdR, true_and, and_true, zSI, zSL, zSR, zu_at, and_self, and_false, false_and, lv_args, zKdZ, zKdO, zB01, zB11, Option.toList_none, Option.toList_some, List.nil_append, List.cons_append, true_or, or_true, zRow_rd, zu_rd, zo_if_eq, zo_aload_n, zo_getfield, zo_if_ne, zo_if_le, zo_iconst, zi_1, zKd_10_50, zKd_10_48, sh_87, zcl_1, zKn_s, zKn_0, zFind, zb1_t, zTq_7, zTq_8, zTq_9, zTq_10, zTq_o, zTq_k, zTq_u, zTq_uk, j50', j48, z0, hb', zN10, zN01, not_true_eq_false, not_false_eq_true, false_implies, true_implies, implies_true, eq_self, nI_1, nI_40, nI_7, vz0, vz1, zb1_e0, zb1_n0]
          exact key
      · rw [decide_eq_false k4]
        have key := go66 (fun z => k4 z.1)
        refine zBlkR (M := mX10_sumRead) (nL := 1) (rt := (Option.some .boolean)) (blk := bX10_sumRead_31) (T := [(48, bX10_sumRead_48), (65, bX10_sumRead_65), (74, bX10_sumRead_74)]) 2 hX10_sumRead_31 (zChks_cons hX10_sumRead_48 (zChks_cons hX10_sumRead_65 (zChks_cons hX10_sumRead_74 zChks_nil))) rfl rfl rfl (Nat.le_of_ble_eq_true rfl) (Nat.le_of_ble_eq_true rfl) ?_
        simp (implicitDefEqProofs := false) only [bX10_sumRead_31, bX10_sumRead_48, bX10_sumRead_65, bX10_sumRead_74, zRun_cons, zRun_nil, zLk, zSto, zIns, zFil, zf0, zf1, zf2, zf3, List.filter_cons, List.filter_nil, Nat.reduceAdd, Nat.reduceEqDiff, Nat.reduceLT, Nat.reduceLeDiff, Nat.reduceBEq, Nat.reduceBNe, reduceIte, if_true, if_false, Bool.false_and, Bool.true_and, Bool.and_true, Bool.and_false, Bool.not_false, Bool.not_true, Bool.false_eq_true, beq_self_eq_true, BEq.rfl, zCat1, zCat2, zCat3, zKdI, zKdL, zKdR, true_and, and_true, zSI, zSL, zSR, zu_at, and_self, and_false, false_and, lv_args, zKdZ, zKdO, zB01, zB11, Option.toList_none, Option.toList_some, List.nil_append, List.cons_append, true_or, or_true, zRow_rd, zu_rd, zo_if_eq, zo_aload_n, zo_getfield, zo_if_ne, zo_if_le, zo_iconst, zi_1, zKd_10_50, zKd_10_48, sh_87, zcl_1, zKn_s, zKn_0, zFind, zb1_f, zTq_7, zTq_8, zTq_9, zTq_10, zTq_o, zTq_k, zTq_u, zTq_uk, j50', zN10, zN01, not_true_eq_false, not_false_eq_true, false_implies, true_implies, implies_true, eq_self, nI_1, nI_40, nI_7, vz0, vz1, zb1_e0, zb1_n0]
        exact key
theorem zDr_law (hh : a < 3) (hD : zDr J D) (hK : zKpt (fun i k => SFr i k ∨ ((i = 104 ∨ i = 105 ∨ i = 106) ∧ k = 3 + a)) J J') (hJ : zFr0 J' S) (hR : zKpt (fun i k => 107 ≤ i ∧ i ≤ 109 ∧ dNk D ≤ k) (dR D) S.2.2.1) (hn : S.2.2.2.1 = S.2.2.2.2) (h0 : J' 104 (3 + a) = 1) (h1 : J' 105 (3 + a) = nI (dNk D)) (h2 : J' 106 (3 + a) = nI S.2.2.2.1) : zDr J' (dLaw D a S) := by
  obtain ⟨⟨c18, c19, c20, c21, c22, c23, c49⟩, dp, dc, dsk, dbd, dst, dsg, dkn, dlw, dto, dbo, dfl⟩ := hD
  obtain ⟨j1, j2, j3, j4, j5, j6, j7, j8⟩ := hJ
  have hKn : ∀ i k, ¬ ((i = 87 ∧ (k = 23 ∨ (46 ≤ k ∧ k ≤ 51))) ∨ (104 ≤ i ∧ i ≤ 111)) → J' i k = J i k := fun i k h => hK i k (by unfold SFr; omega)
  have hr : ∀ i, i ≠ 107 → i ≠ 108 → i ≠ 109 → S.2.2.1 i = dR D i := fun i g1 g2 g3 => funext fun k => hR i k (by omega)
  refine ⟨⟨by rw [hKn _ _ (by omega)]; exact c18, by rw [hKn _ _ (by omega)]; exact c19, by rw [hKn _ _ (by omega)]; exact c20, by rw [hKn _ _ (by omega)]; exact c21, by rw [hKn _ _ (by omega)]; exact c22, by rw [j5, hn]; rfl, j4⟩, fun k hk => ?_, fun k hk => ?_, fun k hk => ?_, fun k hk => ?_, fun k hk => ?_, fun k hk => ?_, fun k hk => ?_, fun k hk => ?_, fun k hk => ?_, fun k => ?_, ⟨by rw [hKn _ _ (by omega)]; exact dfl.1, by rw [hKn _ _ (by omega)]; exact dfl.2⟩⟩
  · rw [hKn _ _ (by omega), hKn _ _ (by omega), hKn _ _ (by omega), hKn _ _ (by omega)]
    show _ = S.2.2.1 90 k ∧ _ = S.2.2.1 91 k ∧ _ = S.2.2.1 92 k ∧ _ = S.2.2.1 93 k
    rw [hr 90 (by omega) (by omega) (by omega), hr 91 (by omega) (by omega) (by omega), hr 92 (by omega) (by omega) (by omega), hr 93 (by omega) (by omega) (by omega)]; exact dp k hk
  · rw [hKn _ _ (by omega), hKn _ _ (by omega)]
    show _ = S.2.2.1 94 k ∧ _ = S.2.2.1 95 k
    rw [hr 94 (by omega) (by omega) (by omega), hr 95 (by omega) (by omega) (by omega)]; exact dc k hk
  · rw [hKn _ _ (by omega), hKn _ _ (by omega)]
    show _ = S.2.2.1 96 k ∧ _ = S.2.2.1 97 k
    rw [hr 96 (by omega) (by omega) (by omega), hr 97 (by omega) (by omega) (by omega)]; exact dsk k hk
  · rw [hKn _ _ (by omega), hKn _ _ (by omega), hKn _ _ (by omega)]
    show _ = S.2.2.1 98 k ∧ _ = S.2.2.1 99 k ∧ _ = S.2.2.1 100 k
    rw [hr 98 (by omega) (by omega) (by omega), hr 99 (by omega) (by omega) (by omega), hr 100 (by omega) (by omega) (by omega)]; exact dbd k hk
  · rw [hKn _ _ (by omega)]
    show _ = S.2.2.1 102 (sIx k)
    rw [hr 102 (by omega) (by omega) (by omega)]; exact dst k hk
  · rw [hKn _ _ (by omega)]
    show _ = S.2.2.1 101 k
    rw [hr 101 (by omega) (by omega) (by omega)]; exact dsg k hk
  · exact j8 k (by rw [hn]; exact hk)
  · show J' 104 (3 + k) = zb1 (if k = a then true else dTold D k) ∧ ((if k = a then true else dTold D k) = true → J' 105 (3 + k) = nI (if k = a then dNk D else dF D k) ∧ J' 106 (3 + k) = nI (if k = a then S.2.2.2.1 else dT D k))
    by_cases e : k = a
    · subst e; simp only [if_true]; exact ⟨h0, fun _ => ⟨h1, h2⟩⟩
    · simp only [e, if_false]
      rw [hK 104 _ (by unfold SFr; omega), hK 105 _ (by unfold SFr; omega), hK 106 _ (by unfold SFr; omega)]; exact dlw k hk
  · rw [hKn _ _ (by omega)]; exact dto k hk
  · by_cases e : k = 3 + a
    · subst e; right; exact h0
    · rw [hK 104 _ (by unfold SFr; omega)]; exact dbo k
theorem tLw0 : ∀ k, k < 47 → ((rKd k = 1 ∧ 14 ≤ rWh k ∧ rWh k ≤ 16) ↔ 41 ≤ k ∧ k ≤ 43) := by decide +kernel
theorem tLw1 : ∀ k, k < 47 → (k < 41 ∨ 43 < k ∨ rWh k = k - 27) := by decide +kernel
set_option maxRecDepth 20000 in
theorem mo_lawLine (hM : E.2.2 ≤ t.2.1 + 699) (hE : zEr J E) (ht : tOk E t) (hr : tRel t.2.2.1 t.2.2.2 kd wh) (hD : zDr J D) (hO : DOk D)
    (hF : ∀ c a J' t' kd' wh', gLaw E D t = .inl (c, a) → zKpt SPr J J' → J' 87 4 = nI c → J' 87 5 = nI a → Q (some (.int 0)) (SH, zTq J' t' kd' wh', L, RF p s r))
    (hG : ∀ t' D' J' kd' wh', gLaw E D t = .inr (t', D') → zKpt SPr J J' → zDr J' D' → tRel t'.2.2.1 t'.2.2.2 kd' wh' → Q (some (.int 1)) (SH, zTq J' t' kd' wh', L, RF p s r)) : zXM w mX10_lawLine rX10_lawLine [.ref 87] (SH, zTq J t kd wh, L, RF p s r) Q := by
  unfold zXM
  have ht1 := tOk_nx ht
  have hk1 := ht1.2.2.1
  have hg : gLaw E D t = gLaw E D t := rfl
  conv at hg => rhs; unfold gLaw
  refine zBlkR (M := mX10_lawLine) (nL := 2) (rt := (Option.some .boolean)) (blk := bX10_lawLine_0) (T := []) 0 hX10_lawLine_0 zChks_nil rfl rfl rfl (Nat.le_of_ble_eq_true rfl) (Nat.le_of_ble_eq_true rfl) ?_
  simp (implicitDefEqProofs := false) only [bX10_lawLine_0, zRun_cons, zRun_nil, zLk, zSto, zIns, zFil, zf0, zf1, zf2, zf3, List.filter_cons, List.filter_nil, Nat.reduceAdd, Nat.reduceEqDiff, Nat.reduceLT, Nat.reduceLeDiff, Nat.reduceBEq, Nat.reduceBNe, reduceIte, if_true, if_false, Bool.false_and, Bool.true_and, Bool.and_true, Bool.and_false, Bool.not_false, Bool.not_true, Bool.false_eq_true, beq_self_eq_true, BEq.rfl, zCat1, zCat2, zCat3, zKdI, zKdL, zKdR, true_and, and_true, zSI, zSL, zSR, zu_at, and_self, and_false, false_and, lv_args, zKdZ, zKdO, zB01, zB11, Option.toList_none, Option.toList_some, List.nil_append, List.cons_append, true_or, or_true, zRow_rd, zu_rd, zo_aload_n, zKn_0, zN10, zN01, not_true_eq_false, not_false_eq_true, false_implies, true_implies, implies_true, eq_self, nI_1, nI_40, nI_7, vz0, vz1, zb1_e0, zb1_n0]
  refine z_cV0 (M' := mX10_token) (R' := rX10_token) (i := 87) [] [] eX10_token k10_230 (by decide +kernel : decode cX10_lawLine 1 = .ok (.invokevirtual 230, 3)) (Nat.le_of_ble_eq_true rfl) ⟨Nat.le_of_ble_eq_true rfl, Nat.le_of_ble_eq_true rfl, Nat.le_of_ble_eq_true rfl, Nat.le_of_ble_eq_true rfl, Nat.le_of_ble_eq_true rfl⟩ rfl rfl rfl sh_87 ?_
  refine mo_tok hE ht (fun kd1 wh1 hr1 => ?_)
  by_cases h1 : 41 ≤ tKd (tNx E t) ∧ tKd (tNx E t) ≤ 43
  · rw [if_pos h1] at hg
    obtain ⟨h, hh⟩ : ∃ h, tKd (tNx E t) = h + 41 := ⟨tKd (tNx E t) - 41, by omega⟩
    have hh3 : h < 3 := by omega
    rw [hh, Nat.add_sub_cancel] at hg
    have ek : kd1 = 1 ∧ wh1 = nI (14 + h) := by
      obtain ⟨hk, h0 | ⟨g1, -, -, g4⟩⟩ := hr1
      · omega
      · rw [g1, g4 (by omega), ((tLw0 _ hk).mpr h1).1, ((tLw1 _ hk).resolve_left (by omega)).resolve_left (by omega), hh]
        exact ⟨rfl, by congr 1; omega⟩
    obtain ⟨rfl, rfl⟩ := ek
    have z1 : (nI (14 + h) < 14) = False := eq_false (by rw [show (14 : Int32) = nI 14 from rfl, zlt_nat (by omega) (by omega)]; omega)
    have z2 : (nI (14 + h) ≤ 16) = True := eq_true (by rw [show (16 : Int32) = nI 16 from rfl, zle_nat (by omega) (by omega)]; omega)
    have e3 : (3 : Int32) + nI (14 + h) - 14 = nI (3 + h) := by
      rw [show (3 : Int32) = nI 3 from rfl, nI_add, show (14 : Int32) = nI 14 from rfl, show 3 + (14 + h) = (3 + h) + 14 by omega, ← nI_add, Int32.add_sub_cancel]
    have hv : vp_in (nI (3 + h)) 6 := zvn (by omega) (by omega)
    have cl : (nI (3 + h)).toNatClampNeg = 3 + h := nI_clamp (by omega)
    have dl := (hD.2.2.2.2.2.2.2.2.1 h hh3).1
    cases hb : dTold D h with
    | true =>
      rw [if_pos hb] at hg
      rw [hb] at dl
      refine zBlkR (M := mX10_lawLine) (nL := 2) (rt := (Option.some .boolean)) (blk := bX10_lawLine_4) (T := [(30, bX10_lawLine_30), (36, bX10_lawLine_36), (61, bX10_lawLine_61)]) 2 hX10_lawLine_4 (zChks_cons hX10_lawLine_30 (zChks_cons hX10_lawLine_36 (zChks_cons hX10_lawLine_61 zChks_nil))) rfl rfl rfl (Nat.le_of_ble_eq_true rfl) (Nat.le_of_ble_eq_true rfl) ?_
      simp (implicitDefEqProofs := false) only [bX10_lawLine_4, bX10_lawLine_30, bX10_lawLine_36, bX10_lawLine_61, zRun_cons, zRun_nil, zLk, zSto, zIns, zFil, zf0, zf1, zf2, zf3, List.filter_cons, List.filter_nil, Nat.reduceAdd, Nat.reduceEqDiff, Nat.reduceLT, Nat.reduceLeDiff, Nat.reduceBEq, Nat.reduceBNe, reduceIte, if_true, if_false, Bool.false_and, Bool.true_and, Bool.and_true, Bool.and_false, Bool.not_false, Bool.not_true, Bool.false_eq_true, beq_self_eq_true, BEq.rfl, zCat1, zCat2, zCat3, zKdI, zKdL, zKdR, true_and, and_true, zSI, zSL, zSR, zu_at, and_self, and_false, false_and, lv_args, zKdZ, zKdO, zB01, zB11, Option.toList_none, Option.toList_some, List.nil_append, List.cons_append, true_or, or_true, zRow_rd, zu_rd, zo_aload_n, zo_getfield, zo_iconst, zo_icmp_ne, zo_bipush, zo_icmp_lt, zo_icmp_le, zo_iadd, zo_isub, zo_istore_n, zo_iload_n, zo_baload, zo_if_eq, zo_bastore, zi_1, zb_14, zb_16, zi_3, zKd_10_8, zKd_10_9, zKd_10_38, sh_87, zcl_1, zcl_14, zcl_16, zcl_3, rf_87_38, sh_104, zvi_1_6, zvi_3_6, zKn_s, zKn_0, zFind, zTq_7, zTq_8, zTq_9, zTq_10, zTq_o, zTq_k, zTq_u, zTq_uk, z1, z2, e3, hv, cl, dl, zb1_t, zN10, zN01, not_true_eq_false, not_false_eq_true, false_implies, true_implies, implies_true, eq_self, nI_1, nI_40, nI_7, vz0, vz1, zb1_e0, zb1_n0]
      refine z_cV0 (M' := mX10_wrong) (R' := rX10_wrong) (i := 87) [.int 3] [] eX10_wrong k10_220 (by decide +kernel : decode cX10_lawLine 57 = .ok (.invokevirtual 220, 3)) (Nat.le_of_ble_eq_true rfl) ⟨Nat.le_of_ble_eq_true rfl, Nat.le_of_ble_eq_true rfl, Nat.le_of_ble_eq_true rfl, Nat.le_of_ble_eq_true rfl, Nat.le_of_ble_eq_true rfl⟩ rfl rfl rfl sh_87 ?_
      refine mo_wrg ?_
      refine zBlkR (M := mX10_lawLine) (nL := 2) (rt := (Option.some .boolean)) (blk := bX10_lawLine_60) (T := []) 0 hX10_lawLine_60 zChks_nil rfl rfl rfl (Nat.le_of_ble_eq_true rfl) (Nat.le_of_ble_eq_true rfl) ?_
      simp (implicitDefEqProofs := false) only [bX10_lawLine_60, zRun_cons, zRun_nil, zLk, zSto, zIns, zFil, zf0, zf1, zf2, zf3, List.filter_cons, List.filter_nil, Nat.reduceAdd, Nat.reduceEqDiff, Nat.reduceLT, Nat.reduceLeDiff, Nat.reduceBEq, Nat.reduceBNe, reduceIte, if_true, if_false, Bool.false_and, Bool.true_and, Bool.and_true, Bool.and_false, Bool.not_false, Bool.not_true, Bool.false_eq_true, beq_self_eq_true, BEq.rfl, zCat1, zCat2, zCat3, zKdI, zKdL, zKdR, true_and, and_true, zSI, zSL, zSR, zu_at, and_self, and_false, false_and, lv_args, zKdZ, zKdO, zB01, zB11, Option.toList_none, Option.toList_some, List.nil_append, List.cons_append, true_or, or_true, zRow_rd, zu_rd, zo_ireturn, zRt, zKn_0, zN10, zN01, not_true_eq_false, not_false_eq_true, false_implies, true_implies, implies_true, eq_self, nI_1, nI_40, nI_7, vz0, vz1, zb1_e0, zb1_n0]
      exact hF _ _ _ _ _ _ hg ((zKpt_rfl.u (by unfold SPr; omega)).u (by unfold SPr; omega)) (by simp [zu_at]; rfl) (by simp [zu_at])
    | false =>
      rw [if_neg (by rw [hb]; decide)] at hg
      rw [hb] at dl
      have k1 : zKpt SPr J (zu J 104 (3 + h) 1) := zKpt_rfl.u (by unfold SPr; omega)
      refine zBlkR (M := mX10_lawLine) (nL := 2) (rt := (Option.some .boolean)) (blk := bX10_lawLine_4) (T := [(30, bX10_lawLine_30), (36, bX10_lawLine_36), (61, bX10_lawLine_61)]) 2 hX10_lawLine_4 (zChks_cons hX10_lawLine_30 (zChks_cons hX10_lawLine_36 (zChks_cons hX10_lawLine_61 zChks_nil))) rfl rfl rfl (Nat.le_of_ble_eq_true rfl) (Nat.le_of_ble_eq_true rfl) ?_
      simp (implicitDefEqProofs := false) only [bX10_lawLine_4, bX10_lawLine_30, bX10_lawLine_36, bX10_lawLine_61, zRun_cons, zRun_nil, zLk, zSto, zIns, zFil, zf0, zf1, zf2, zf3, List.filter_cons, List.filter_nil, Nat.reduceAdd, Nat.reduceEqDiff, Nat.reduceLT, Nat.reduceLeDiff, Nat.reduceBEq, Nat.reduceBNe, reduceIte, if_true, if_false, Bool.false_and, Bool.true_and, Bool.and_true, Bool.and_false, Bool.not_false, Bool.not_true, Bool.false_eq_true, beq_self_eq_true, BEq.rfl, zCat1, zCat2, zCat3, zKdI, zKdL, zKdR, true_and, and_true, zSI, zSL, zSR, zu_at, and_self, and_false, false_and, lv_args, zKdZ, zKdO, zB01, zB11, Option.toList_none, Option.toList_some, List.nil_append, List.cons_append, true_or, or_true, zRow_rd, zu_rd, zo_aload_n, zo_getfield, zo_iconst, zo_icmp_ne, zo_bipush, zo_icmp_lt, zo_icmp_le, zo_iadd, zo_isub, zo_istore_n, zo_iload_n, zo_baload, zo_if_eq, zo_bastore, zi_1, zb_14, zb_16, zi_3, zKd_10_8, zKd_10_9, zKd_10_38, sh_87, zcl_1, zcl_14, zcl_16, zcl_3, rf_87_38, sh_104, zvi_1_6, zvi_3_6, zKn_s, zKn_0, zFind, zTq_7, zTq_8, zTq_9, zTq_10, zTq_o, zTq_k, zTq_u, zTq_uk, z1, z2, e3, hv, cl, dl, zb1_f, zN10, zN01, not_true_eq_false, not_false_eq_true, false_implies, true_implies, implies_true, eq_self, nI_1, nI_40, nI_7, vz0, vz1, zb1_e0, zb1_n0]
      refine z_cV0 (M' := mX10_token) (R' := rX10_token) (i := 87) [] [] eX10_token k10_230 (by decide +kernel : decode cX10_lawLine 69 = .ok (.invokevirtual 230, 3)) (Nat.le_of_ble_eq_true rfl) ⟨Nat.le_of_ble_eq_true rfl, Nat.le_of_ble_eq_true rfl, Nat.le_of_ble_eq_true rfl, Nat.le_of_ble_eq_true rfl, Nat.le_of_ble_eq_true rfl⟩ rfl rfl rfl sh_87 ?_
      refine mo_tok (zEr_k k1 hE) ht1 (fun kd2 wh2 hr2 => ?_)
      have d23 := hD.1.2.2.2.2.2.1
      have d49 := hD.1.2.2.2.2.2.2
      refine zBlkR (M := mX10_lawLine) (nL := 2) (rt := (Option.some .boolean)) (blk := bX10_lawLine_72) (T := []) 0 hX10_lawLine_72 zChks_nil rfl rfl rfl (Nat.le_of_ble_eq_true rfl) (Nat.le_of_ble_eq_true rfl) ?_
      simp (implicitDefEqProofs := false) only [bX10_lawLine_72, zRun_cons, zRun_nil, zLk, zSto, zIns, zFil, zf0, zf1, zf2, zf3, List.filter_cons, List.filter_nil, Nat.reduceAdd, Nat.reduceEqDiff, Nat.reduceLT, Nat.reduceLeDiff, Nat.reduceBEq, Nat.reduceBNe, reduceIte, if_true, if_false, Bool.false_and, Bool.true_and, Bool.and_true, Bool.and_false, Bool.not_false, Bool.not_true, Bool.false_eq_true, beq_self_eq_true, BEq.rfl, zCat1, zCat2, zCat3, zKdI, zKdL, zKdR, true_and, and_true, zSI, zSL, zSR, zu_at, and_self, and_false, false_and, lv_args, zKdZ, zKdO, zB01, zB11, Option.toList_none, Option.toList_some, List.nil_append, List.cons_append, true_or, or_true, zRow_rd, zu_rd, zo_aload_n, zo_getfield, zo_iload_n, zo_iastore, zKd_10_39, zKd_10_23, sh_87, rf_87_39, sh_105, zKn_0, zTq_7, zTq_8, zTq_9, zTq_10, zTq_o, zTq_k, zTq_u, zTq_uk, d23, hv, cl, zN10, zN01, not_true_eq_false, not_false_eq_true, false_implies, true_implies, implies_true, eq_self, nI_1, nI_40, nI_7, vz0, vz1, zb1_e0, zb1_n0]
      refine z_cV0 (M' := mX10_sumRead) (R' := rX10_sumRead) (i := 87) [] [] eX10_sumRead k10_297 (by decide +kernel : decode cX10_lawLine 83 = .ok (.invokevirtual 297, 3)) (Nat.le_of_ble_eq_true rfl) ⟨Nat.le_of_ble_eq_true rfl, Nat.le_of_ble_eq_true rfl, Nat.le_of_ble_eq_true rfl, Nat.le_of_ble_eq_true rfl, Nat.le_of_ble_eq_true rfl⟩ rfl rfl rfl sh_87 ?_
      unfold zXM
      refine zBlkR (M := mX10_sumRead) (nL := 1) (rt := (Option.some .boolean)) (blk := bX10_sumRead_0) (T := []) 0 hX10_sumRead_0 zChks_nil rfl rfl rfl (Nat.le_of_ble_eq_true rfl) (Nat.le_of_ble_eq_true rfl) ?_
      simp (implicitDefEqProofs := false) only [bX10_sumRead_0, zRun_cons, zRun_nil, zLk, zSto, zIns, zFil, zf0, zf1, zf2, zf3, List.filter_cons, List.filter_nil, Nat.reduceAdd, Nat.reduceEqDiff, Nat.reduceLT, Nat.reduceLeDiff, Nat.reduceBEq, Nat.reduceBNe, reduceIte, if_true, if_false, Bool.false_and, Bool.true_and, Bool.and_true, Bool.and_false, Bool.not_false, Bool.not_true, Bool.false_eq_true, beq_self_eq_true, BEq.rfl, zCat1, zCat2, zCat3, zKdI, zKdL, zKdR, true_and, and_true, zSI, zSL, zSR, zu_at, and_self, and_false, false_and, lv_args, zKdZ, zKdO, zB01, zB11, Option.toList_none, Option.toList_some, List.nil_append, List.cons_append, true_or, or_true, zRow_rd, zu_rd, zo_aload_n, zo_iconst, zo_putfield, zo_putfield_2, zo_putfield_3, zi_0, zi_1, zKd_10_46, zTy_10_46, zKd_10_47, zTy_10_47, zKd_10_48, zTy_10_48, zKd_10_50, zTy_10_50, zKd_10_51, zTy_10_51, zcl_0, sh_87, zcl_1, zPutC, zKn_0, zTq_7, zTq_8, zTq_9, zTq_10, zTq_o, zTq_k, zTq_u, zTq_uk, zN10, zN01, not_true_eq_false, not_false_eq_true, false_implies, true_implies, implies_true, eq_self, nI_1, nI_40, nI_7, vz0, vz1, zb1_e0, zb1_n0]
      have k2 : zKpt SPr J (zu (zu (zu (zu (zu (zu (zu J 104 (3 + h) 1) 105 (3 + h) (nI (dNk D))) 87 46 0) 87 47 0) 87 48 0) 87 50 1) 87 51 1) := (((((k1.u (by unfold SPr; omega)).u (by unfold SPr; omega)).u (by unfold SPr; omega)).u (by unfold SPr; omega)).u (by unfold SPr; omega)).u (by unfold SPr; omega)
      have hJ0 : zFr (zu (zu (zu (zu (zu (zu (zu J 104 (3 + h) 1) 105 (3 + h) (nI (dNk D))) 87 46 0) 87 47 0) 87 48 0) 87 50 1) 87 51 1) ([], [], dR D, dNk D, dNk D) true := by
        refine ⟨⟨by simp [zu_at]; rfl, by simp [zu_at]; rfl, by simp [zu_at]; rfl, by simp [zu_at]; exact d49, by simp [zu_at]; exact d23, trivial, trivial, fun i hi => by simp [zu_at]; exact hD.2.2.2.2.2.2.2.1 i hi⟩, by simp [zu_at]; rfl, fun _ => by simp [zu_at]; rfl⟩
      have hfu : 1 ≤ 700 ∧ (tKd (tNx E (tNx E t)) = 0 ∨ E.2.2 - (tNx E (tNx E t)).2.1 + 2 ≤ 700) := by
        refine ⟨by omega, ?_⟩
        have q1 := (tNx_end ht).2 (by omega)
        by_cases g : tKd (tNx E (tNx E t)) = 0
        · exact Or.inl g
        · have q2 := (tNx_end ht1).2 g
          right; omega
      refine mo_sumLoop (E := E) 700 (tNx E (tNx E t)) ([], [], dR D, dNk D, dNk D) true _ kd2 wh2 hfu (zEr_k k2 hE) (tOk_nx ht1) hr2 hJ0 (FOk_0 hO.1.2.2.2.2.2) (fun f J' t' kd' wh' h0 h1 h2 h3 => ?_) (fun t' S' J' kd' wh' h0 h1 h2 h3 => ?_)
      · rw [h0] at hg
        refine zBlkR (M := mX10_lawLine) (nL := 2) (rt := (Option.some .boolean)) (blk := bX10_lawLine_86) (T := [(91, bX10_lawLine_91)]) 1 hX10_lawLine_86 (zChks_cons hX10_lawLine_91 zChks_nil) rfl rfl rfl (Nat.le_of_ble_eq_true rfl) (Nat.le_of_ble_eq_true rfl) ?_
        simp (implicitDefEqProofs := false) only [bX10_lawLine_86, bX10_lawLine_91, zRun_cons, zRun_nil, zLk, zSto, zIns, zFil, zf0, zf1, zf2, zf3, List.filter_cons, List.filter_nil, Nat.reduceAdd, Nat.reduceEqDiff, Nat.reduceLT, Nat.reduceLeDiff, Nat.reduceBEq, Nat.reduceBNe, reduceIte, if_true, if_false, Bool.false_and, Bool.true_and, Bool.and_true, Bool.and_false, Bool.not_false, Bool.not_true, Bool.false_eq_true, beq_self_eq_true, BEq.rfl, zCat1, zCat2, zCat3, zKdI, zKdL, zKdR, true_and, and_true, zSI, zSL, zSR, zu_at, and_self, and_false, false_and, lv_args, zKdZ, zKdO, zB01, zB11, Option.toList_none, Option.toList_some, List.nil_append, List.cons_append, true_or, or_true, zRow_rd, zu_rd, zo_if_ne, zo_iconst, zo_ireturn, zo_aload_n, zo_getfield, zo_iload_n, zo_iastore, zi_0, zi_1, zKd_10_40, zKd_10_23, zcl_0, sh_87, rf_87_40, sh_106, zcl_1, zvi_0_6, zvi_1_6, zRt, zKn_s, zKn_0, zFind, zN10, zN01, not_true_eq_false, not_false_eq_true, false_implies, true_implies, implies_true, eq_self, nI_1, nI_40, nI_7, vz0, vz1, zb1_e0, zb1_n0]
        exact hF _ _ _ _ _ _ hg (k2.trans h1) h2 h3
      · rw [h0] at hg
        obtain ⟨hS, hw⟩ := fSum_ok (F := dNk D) (R0 := dR D) 700 _ _ true (FOk_0 hO.1.2.2.2.2.2) h0
        have j23 := h2.2.2.2.2.1
        refine zBlkR (M := mX10_lawLine) (nL := 2) (rt := (Option.some .boolean)) (blk := bX10_lawLine_86) (T := [(91, bX10_lawLine_91)]) 1 hX10_lawLine_86 (zChks_cons hX10_lawLine_91 zChks_nil) rfl rfl rfl (Nat.le_of_ble_eq_true rfl) (Nat.le_of_ble_eq_true rfl) ?_
        simp (implicitDefEqProofs := false) only [bX10_lawLine_86, bX10_lawLine_91, zRun_cons, zRun_nil, zLk, zSto, zIns, zFil, zf0, zf1, zf2, zf3, List.filter_cons, List.filter_nil, Nat.reduceAdd, Nat.reduceEqDiff, Nat.reduceLT, Nat.reduceLeDiff, Nat.reduceBEq, Nat.reduceBNe, reduceIte, if_true, if_false, Bool.false_and, Bool.true_and, Bool.and_true, Bool.and_false, Bool.not_false, Bool.not_true, Bool.false_eq_true, beq_self_eq_true, BEq.rfl, zCat1, zCat2, zCat3, zKdI, zKdL, zKdR, true_and, and_true, zSI, zSL, zSR, zu_at, and_self, and_false, false_and, lv_args, zKdZ, zKdO, zB01, zB11, Option.toList_none, Option.toList_some, List.nil_append, List.cons_append, true_or, or_true, zRow_rd, zu_rd, zo_if_ne, zo_iconst, zo_ireturn, zo_aload_n, zo_getfield, zo_iload_n, zo_iastore, zi_0, zi_1, zKd_10_40, zKd_10_23, zcl_0, sh_87, rf_87_40, sh_106, zcl_1, zvi_0_6, zvi_1_6, zRt, zKn_s, zKn_0, zFind, zTq_7, zTq_8, zTq_9, zTq_10, zTq_o, zTq_k, zTq_u, zTq_uk, j23, hv, cl, zN10, zN01, not_true_eq_false, not_false_eq_true, false_implies, true_implies, implies_true, eq_self, nI_1, nI_40, nI_7, vz0, vz1, zb1_e0, zb1_n0]
        have hc : S'.2.2.2.1 = S'.2.2.2.2 := by
          have := hS.1
          rw [hw] at this
          simpa [nbk] using this
        have kk : zKpt SPr J (zu J' 106 (3 + h) (nI S'.2.2.2.1)) := (k2.trans (h1.mono (fun i k h => SFr_p h))).u (by unfold SPr; omega)
        refine hG _ _ _ _ _ hg kk (zDr_law hh3 hD ?_ ?_ hS.2.2.2.2.2.2.2.2.2 hc ?_ ?_ ?_) h3
        · refine zKpt.u (zKpt.trans (I1 := zu (zu (zu (zu (zu (zu (zu J 104 (3 + h) 1) 105 (3 + h) (nI (dNk D))) 87 46 0) 87 47 0) 87 48 0) 87 50 1) 87 51 1) ?_ (h1.mono (fun i k q => Or.inl q))) (Or.inr ⟨Or.inr (Or.inr rfl), rfl⟩)
          exact ((((((zKpt_rfl.u (Or.inr ⟨Or.inl rfl, rfl⟩)).u (Or.inr ⟨Or.inr (Or.inl rfl), rfl⟩)).u (Or.inl (by unfold SFr; omega))).u (Or.inl (by unfold SFr; omega))).u (Or.inl (by unfold SFr; omega))).u (Or.inl (by unfold SFr; omega))).u (Or.inl (by unfold SFr; omega))
        · obtain ⟨q1, q2, q3, q4, q5, q6, q7, q8⟩ := h2
          exact ⟨by simp [zu_at]; exact q1, by simp [zu_at]; exact q2, by simp [zu_at]; exact q3, by simp [zu_at]; exact q4, by simp [zu_at]; exact q5, zStL_c q6 (fun i hi => by simp [zu_at]), zStL_c q7 (fun i hi => by simp [zu_at]), fun i hi => by simp [zu_at]; exact q8 i hi⟩
        · rw [zu_at, if_neg (by omega), h1 104 (3 + h) (by unfold SFr; omega)]; simp [zu_at]
        · rw [zu_at, if_neg (by omega), h1 105 (3 + h) (by unfold SFr; omega)]; simp [zu_at]
        · simp [zu_at]
  · rw [if_neg h1] at hg
    have fin : zX w mX10_lawLine rX10_lawLine Q 0 0 32 [(0, Value.ref 87)] [Value.int 1, Value.ref 87] (SH, zTq J (tNx E t) kd1 wh1, L, RF p s r) := by
      refine z_cV0 (M' := mX10_wrong) (R' := rX10_wrong) (i := 87) [.int 1] [] eX10_wrong k10_220 (by decide +kernel : decode cX10_lawLine 32 = .ok (.invokevirtual 220, 3)) (Nat.le_of_ble_eq_true rfl) ⟨Nat.le_of_ble_eq_true rfl, Nat.le_of_ble_eq_true rfl, Nat.le_of_ble_eq_true rfl, Nat.le_of_ble_eq_true rfl, Nat.le_of_ble_eq_true rfl⟩ rfl rfl rfl sh_87 ?_
      refine mo_wrg ?_
      refine zBlkR (M := mX10_lawLine) (nL := 2) (rt := (Option.some .boolean)) (blk := bX10_lawLine_35) (T := []) 0 hX10_lawLine_35 zChks_nil rfl rfl rfl (Nat.le_of_ble_eq_true rfl) (Nat.le_of_ble_eq_true rfl) ?_
      simp (implicitDefEqProofs := false) only [bX10_lawLine_35, zRun_cons, zRun_nil, zLk, zSto, zIns, zFil, zf0, zf1, zf2, zf3, List.filter_cons, List.filter_nil, Nat.reduceAdd, Nat.reduceEqDiff, Nat.reduceLT, Nat.reduceLeDiff, Nat.reduceBEq, Nat.reduceBNe, reduceIte, if_true, if_false, Bool.false_and, Bool.true_and, Bool.and_true, Bool.and_false, Bool.not_false, Bool.not_true, Bool.false_eq_true, beq_self_eq_true, BEq.rfl, zCat1, zCat2, zCat3, zKdI, zKdL, zKdR, true_and, and_true, zSI, zSL, zSR, zu_at, and_self, and_false, false_and, lv_args, zKdZ, zKdO, zB01, zB11, Option.toList_none, Option.toList_some, List.nil_append, List.cons_append, true_or, or_true, zRow_rd, zu_rd, zo_ireturn, zRt, zKn_0, zN10, zN01, not_true_eq_false, not_false_eq_true, false_implies, true_implies, implies_true, eq_self, nI_1, nI_40, nI_7, vz0, vz1, zb1_e0, zb1_n0]
      exact hF _ _ _ _ _ _ hg ((zKpt_rfl.u (by unfold SPr; omega)).u (by unfold SPr; omega)) (by simp [zu_at]; rfl) (by simp [zu_at])
    by_cases g1 : kd1 = 1
    · have g1' : (kd1 = 1) = True := eq_true g1
      obtain ⟨hk, h0 | ⟨q1, -, -, q4⟩⟩ := id hr1
      · rw [g1] at h0; exact absurd h0.2.1 (by decide)
      have hrk : rKd (tNx E t).2.2.1 = 1 := by
        have h7 : rKd (tKd (tNx E t)) < 7 := rKd_lt _
        rw [g1] at q1
        exact ((nI_eq (a := 1) (b := rKd (tKd (tNx E t))) (by omega) (by omega)).mp q1).symm
      have h4 := rKd_1 _ hk hrk
      have ew := q4 h4
      have hwl := rWh_lt _ hk
      have hx : ¬ (14 ≤ rWh (tNx E t).2.2.1 ∧ rWh (tNx E t).2.2.1 ≤ 16) := fun z => h1 ((tLw0 _ hk).mp ⟨hrk, z⟩)
      have z14 : (wh1 < 14) = (rWh (tNx E t).2.2.1 < 14) := by rw [ew, show (14 : Int32) = nI 14 from rfl, zlt_nat (by omega) (by omega)]
      have z16 : (wh1 ≤ 16) = (rWh (tNx E t).2.2.1 ≤ 16) := by rw [ew, show (16 : Int32) = nI 16 from rfl, zle_nat (by omega) (by omega)]
      by_cases c14 : rWh (tNx E t).2.2.1 < 14
      · have c14' : (rWh (tNx E t).2.2.1 < 14) = True := eq_true c14
        refine zBlkR (M := mX10_lawLine) (nL := 2) (rt := (Option.some .boolean)) (blk := bX10_lawLine_4) (T := [(30, bX10_lawLine_30), (36, bX10_lawLine_36), (61, bX10_lawLine_61)]) 2 hX10_lawLine_4 (zChks_cons hX10_lawLine_30 (zChks_cons hX10_lawLine_36 (zChks_cons hX10_lawLine_61 zChks_nil))) rfl rfl rfl (Nat.le_of_ble_eq_true rfl) (Nat.le_of_ble_eq_true rfl) ?_
        simp (implicitDefEqProofs := false) only [bX10_lawLine_4, bX10_lawLine_30, bX10_lawLine_36, bX10_lawLine_61, zRun_cons, zRun_nil, zLk, zSto, zIns, zFil, zf0, zf1, zf2, zf3, List.filter_cons, List.filter_nil, Nat.reduceAdd, Nat.reduceEqDiff, Nat.reduceLT, Nat.reduceLeDiff, Nat.reduceBEq, Nat.reduceBNe, reduceIte, if_true, if_false, Bool.false_and, Bool.true_and, Bool.and_true, Bool.and_false, Bool.not_false, Bool.not_true, Bool.false_eq_true, beq_self_eq_true, BEq.rfl, zCat1, zCat2, zCat3, zKdI, zKdL, zKdR, true_and, and_true, zSI, zSL, zSR, zu_at, and_self, and_false, false_and, lv_args, zKdZ, zKdO, zB01, zB11, Option.toList_none, Option.toList_some, List.nil_append, List.cons_append, true_or, or_true, zRow_rd, zu_rd, zo_aload_n, zo_getfield, zo_iconst, zo_icmp_ne, zo_bipush, zo_icmp_lt, zo_icmp_le, zo_iadd, zo_isub, zo_istore_n, zo_iload_n, zo_baload, zo_if_eq, zo_bastore, zi_1, zb_14, zb_16, zi_3, zKd_10_8, zKd_10_9, zKd_10_38, sh_87, zcl_1, zcl_14, zcl_16, zcl_3, rf_87_38, sh_104, zvi_1_6, zvi_3_6, zKn_s, zKn_0, zFind, zTq_7, zTq_8, zTq_9, zTq_10, zTq_o, zTq_k, zTq_u, zTq_uk, g1', z14, c14', zN10, zN01, not_true_eq_false, not_false_eq_true, false_implies, true_implies, implies_true, eq_self, nI_1, nI_40, nI_7, vz0, vz1, zb1_e0, zb1_n0]
        exact fin
      · have c14' : (rWh (tNx E t).2.2.1 < 14) = False := eq_false c14
        have c16' : (rWh (tNx E t).2.2.1 ≤ 16) = False := eq_false (by omega)
        refine zBlkR (M := mX10_lawLine) (nL := 2) (rt := (Option.some .boolean)) (blk := bX10_lawLine_4) (T := [(30, bX10_lawLine_30), (36, bX10_lawLine_36), (61, bX10_lawLine_61)]) 2 hX10_lawLine_4 (zChks_cons hX10_lawLine_30 (zChks_cons hX10_lawLine_36 (zChks_cons hX10_lawLine_61 zChks_nil))) rfl rfl rfl (Nat.le_of_ble_eq_true rfl) (Nat.le_of_ble_eq_true rfl) ?_
        simp (implicitDefEqProofs := false) only [bX10_lawLine_4, bX10_lawLine_30, bX10_lawLine_36, bX10_lawLine_61, zRun_cons, zRun_nil, zLk, zSto, zIns, zFil, zf0, zf1, zf2, zf3, List.filter_cons, List.filter_nil, Nat.reduceAdd, Nat.reduceEqDiff, Nat.reduceLT, Nat.reduceLeDiff, Nat.reduceBEq, Nat.reduceBNe, reduceIte, if_true, if_false, Bool.false_and, Bool.true_and, Bool.and_true, Bool.and_false, Bool.not_false, Bool.not_true, Bool.false_eq_true, beq_self_eq_true, BEq.rfl, zCat1, zCat2, zCat3, zKdI, zKdL, zKdR, true_and, and_true, zSI, zSL, zSR, zu_at, and_self, and_false, false_and, lv_args, zKdZ, zKdO, zB01, zB11, Option.toList_none, Option.toList_some, List.nil_append, List.cons_append, true_or, or_true, zRow_rd, zu_rd, zo_aload_n, zo_getfield, zo_iconst, zo_icmp_ne, zo_bipush, zo_icmp_lt, zo_icmp_le, zo_iadd, zo_isub, zo_istore_n, zo_iload_n, zo_baload, zo_if_eq, zo_bastore, zi_1, zb_14, zb_16, zi_3, zKd_10_8, zKd_10_9, zKd_10_38, sh_87, zcl_1, zcl_14, zcl_16, zcl_3, rf_87_38, sh_104, zvi_1_6, zvi_3_6, zKn_s, zKn_0, zFind, zTq_7, zTq_8, zTq_9, zTq_10, zTq_o, zTq_k, zTq_u, zTq_uk, g1', z14, c14', z16, c16', zN10, zN01, not_true_eq_false, not_false_eq_true, false_implies, true_implies, implies_true, eq_self, nI_1, nI_40, nI_7, vz0, vz1, zb1_e0, zb1_n0]
        exact fin
    · have g1' : (kd1 = 1) = False := eq_false g1
      refine zBlkR (M := mX10_lawLine) (nL := 2) (rt := (Option.some .boolean)) (blk := bX10_lawLine_4) (T := [(30, bX10_lawLine_30), (36, bX10_lawLine_36), (61, bX10_lawLine_61)]) 2 hX10_lawLine_4 (zChks_cons hX10_lawLine_30 (zChks_cons hX10_lawLine_36 (zChks_cons hX10_lawLine_61 zChks_nil))) rfl rfl rfl (Nat.le_of_ble_eq_true rfl) (Nat.le_of_ble_eq_true rfl) ?_
      simp (implicitDefEqProofs := false) only [bX10_lawLine_4, bX10_lawLine_30, bX10_lawLine_36, bX10_lawLine_61, zRun_cons, zRun_nil, zLk, zSto, zIns, zFil, zf0, zf1, zf2, zf3, List.filter_cons, List.filter_nil, Nat.reduceAdd, Nat.reduceEqDiff, Nat.reduceLT, Nat.reduceLeDiff, Nat.reduceBEq, Nat.reduceBNe, reduceIte, if_true, if_false, Bool.false_and, Bool.true_and, Bool.and_true, Bool.and_false, Bool.not_false, Bool.not_true, Bool.false_eq_true, beq_self_eq_true, BEq.rfl, zCat1, zCat2, zCat3, zKdI, zKdL, zKdR, true_and, and_true, zSI, zSL, zSR, zu_at, and_self, and_false, false_and, lv_args, zKdZ, zKdO, zB01, zB11, Option.toList_none, Option.toList_some, List.nil_append, List.cons_append, true_or, or_true, zRow_rd, zu_rd, zo_aload_n, zo_getfield, zo_iconst, zo_icmp_ne, zo_bipush, zo_icmp_lt, zo_icmp_le, zo_iadd, zo_isub, zo_istore_n, zo_iload_n, zo_baload, zo_if_eq, zo_bastore, zi_1, zb_14, zb_16, zi_3, zKd_10_8, zKd_10_9, zKd_10_38, sh_87, zcl_1, zcl_14, zcl_16, zcl_3, rf_87_38, sh_104, zvi_1_6, zvi_3_6, zKn_s, zKn_0, zFind, zTq_7, zTq_8, zTq_9, zTq_10, zTq_o, zTq_k, zTq_u, zTq_uk, g1', zN10, zN01, not_true_eq_false, not_false_eq_true, false_implies, true_implies, implies_true, eq_self, nI_1, nI_40, nI_7, vz0, vz1, zb1_e0, zb1_n0]
      exact fin
end ZN98zg
