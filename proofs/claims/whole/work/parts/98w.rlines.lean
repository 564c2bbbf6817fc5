/-! ===== TEXT: lines of the reference ===== -/
section ZN98w
variable {w : zP} {Q : Option Value → zMem → Prop} {μ : zMem} {I J J' : Nat → Nat → Int32} {L K : Nat → Nat → Int64} {p s : Nat} {r : Option Nat} {a b c i j k n e m lo hi v q : Nat} {x y kd wh nm td : Int32} {E : oEn} {t u : oTk} {D : oDf}
theorem zTq_at : zu (zTq J t kd wh) 87 10 (nI a) = zTq J (a, t.2) kd wh := by
  funext i k
  unfold zTq
  by_cases g : i = 87
  · subst g
    by_cases g2 : k = 10
    · subst g2; simp [zu_at]
    · simp [zu_at, g2]
  · simp [zu_at, g]
set_option maxRecDepth 20000 in
theorem mo_wrg (hQ : Q (some (.int 0)) (SH, zTq (zu (zu J 87 4 x) 87 5 (nI (tAt t))) t kd wh, L, RF p s r)) : zXM w mX10_wrong rX10_wrong [.ref 87, .int x] (SH, zTq J t kd wh, L, RF p s r) Q := by
  refine mo_wrong ?_
  rw [zTq_10, zTq_uk (by simp) (by simp) (by simp) (by simp), zTq_uk (by simp) (by simp) (by simp) (by simp)]
  exact hQ
set_option maxRecDepth 20000 in
theorem mo_number (hE : zEr J E) (ht : tOk E t) (hr : tRel t.2.2.1 t.2.2.2 kd wh) (hlo : lo ≤ 99999) (hhi : hi ≤ 99999) (h1 : ∀ f, gN lo hi t = .inl f → Q (some (.int 0)) (SH, zTq (zu (zu J 87 4 (nI f.1)) 87 5 (nI f.2)) t kd wh, L, RF p s r)) (h2 : ∀ v kd' wh', gN lo hi t = .inr v → tRel (tNx E t).2.2.1 (tNx E t).2.2.2 kd' wh' → Q (some (.int 1)) (SH, zTq (zu J 87 11 (nI v)) (tNx E t) kd' wh', L, RF p s r)) : zXM w mX10_number rX10_number [.ref 87, .int (nI lo), .int (nI hi)] (SH, zTq J t kd wh, L, RF p s r) Q := by
  unfold zXM
  have x3 := tD3 hr
  by_cases h : t.2.2.1 = 2
  · have x3' : (t.2.2.1 = 2) = True := eq_true h
    obtain ⟨hk, h0 | ⟨-, hn, -, -⟩⟩ := id hr
    · omega
    obtain ⟨n, m, e1, e2, r1, r2, r3⟩ := hn h
    subst e2
    have e3 : (tVl t).toNatClampNeg = n := by show t.2.2.2.toNatClampNeg = n; rw [e1, nI_clamp (by omega)]
    have hg : gN lo hi t = if lo ≤ n ∧ n ≤ hi then .inr n else .inl (2, tAt t) := by unfold gN; rw [if_pos h, e3]
    refine zBlkR (M := mX10_number) (nL := 3) (rt := (Option.some .boolean)) (blk := bX10_number_0) (T := [(14, bX10_number_14)]) 1 hX10_number_0 (zChks_cons hX10_number_14 zChks_nil) rfl rfl rfl (Nat.le_of_ble_eq_true rfl) (Nat.le_of_ble_eq_true rfl) ?_
    simp (implicitDefEqProofs := false) only [bX10_number_0, bX10_number_14, zRun_cons, zRun_nil, zLk, zSto, zIns, zFil, zf0, zf1, zf2, zf3, List.filter_cons, List.filter_nil, Nat.reduceAdd, Nat.reduceEqDiff, Nat.reduceLT, Nat.reduceLeDiff, Nat.reduceBEq, Nat.reduceBNe, reduceIte, if_true, if_false, Bool.false_and, Bool.true_and, Bool.and_true, Bool.and_false, Bool.not_false, Bool.not_true, Bool.false_eq_true, beq_self_eq_true, BEq.rfl, zCat1, zCat2, zCat3, zKdI, zKdL, zKdR, true_and, and_true, zSI, zSL, zSR, zu_at, and_self, and_false, false_and, lv_args, zKdZ, zKdO, zB01, zB11, Option.toList_none, Option.toList_some, List.nil_append, List.cons_append, true_or, or_true, zRow_rd, zu_rd, zo_aload_n, zo_getfield, zo_iconst, zo_icmp_eq, zo_iload_n, zi_3, zi_1, zKd_10_8, zKd_10_9, sh_87, zcl_3, zcl_1, zKn_s, zKn_0, zFind, zTq_7, zTq_8, zTq_9, zTq_10, zTq_o, zTq_k, zTq_u, zTq_uk, x3, x3', zN10, zN01, not_true_eq_false, not_false_eq_true, false_implies, true_implies, implies_true, eq_self, nI_1, nI_40, nI_7, vz0, vz1, zb1_e0, zb1_n0]
    refine z_cS0 (M' := mX10_isIn) (R' := rX10_isIn) [.int (nI m), .int (nI lo), .int (nI hi)] [] eX10_isIn k10_223 (by decide +kernel : decode cX10_number 20 = .ok (.invokestatic 223, 3)) (Nat.le_of_ble_eq_true rfl) ⟨Nat.le_of_ble_eq_true rfl, Nat.le_of_ble_eq_true rfl, Nat.le_of_ble_eq_true rfl, Nat.le_of_ble_eq_true rfl, Nat.le_of_ble_eq_true rfl⟩ rfl rfl rfl ?_
    refine mo_isIn ?_
    have eb : (!decide (nI m < nI lo) && !decide (nI hi < nI m)) = decide (lo ≤ n ∧ n ≤ hi) := by
      simp only [zlt_nat (a := m) (b := lo) (by omega) (by omega), zlt_nat (a := hi) (b := m) (by omega) (by omega)]
      by_cases g1 : lo ≤ n ∧ n ≤ hi
      · have : ¬ m < lo := by omega
        have : ¬ hi < m := by omega
        simp [*]
      · rw [decide_eq_false g1]
        by_cases g2 : m < lo
        · simp [g2]
        · have : hi < m := by omega
          simp [this]
    rw [eb]
    by_cases g : lo ≤ n ∧ n ≤ hi
    · rw [if_pos g] at hg
      rw [decide_eq_true g]
      have enm : m = n := by omega
      subst enm
      refine zBlkR (M := mX10_number) (nL := 3) (rt := (Option.some .boolean)) (blk := bX10_number_23) (T := [(32, bX10_number_32)]) 1 hX10_number_23 (zChks_cons hX10_number_32 zChks_nil) rfl rfl rfl (Nat.le_of_ble_eq_true rfl) (Nat.le_of_ble_eq_true rfl) ?_
      simp (implicitDefEqProofs := false) only [bX10_number_23, bX10_number_32, zRun_cons, zRun_nil, zLk, zSto, zIns, zFil, zf0, zf1, zf2, zf3, List.filter_cons, List.filter_nil, Nat.reduceAdd, Nat.reduceEqDiff, Nat.reduceLT, Nat.reduceLeDiff, Nat.reduceBEq, Nat.reduceBNe, reduceIte, if_true, if_false, Bool.false_and, Bool.true_and, Bool.and_true, Bool.and_false, Bool.not_false, Bool.not_true, Bool.false_eq_true, beq_self_eq_true, BEq.rfl, zCat1, zCat2, zCat3, zKdI, zKdL, zKdR, true_and, and_true, zSI, zSL, zSR, zu_at, and_self, and_false, false_and, lv_args, zKdZ, zKdO, zB01, zB11, Option.toList_none, Option.toList_some, List.nil_append, List.cons_append, true_or, or_true, zRow_rd, zu_rd, zo_if_ne, zo_aload_n, zo_iconst, zo_getfield, zo_putfield, zo_putfield_2, zo_putfield_3, zi_2, zKd_10_9, zKd_10_11, zTy_10_11, zcl_2, sh_87, zPutC, zKn_s, zKn_0, zFind, zb1_t, zTq_7, zTq_8, zTq_9, zTq_10, zTq_o, zTq_k, zTq_u, zTq_uk, zN10, zN01, not_true_eq_false, not_false_eq_true, false_implies, true_implies, implies_true, eq_self, nI_1, nI_40, nI_7, vz0, vz1, zb1_e0, zb1_n0]
      have kJ : zKpt SPr J (zu J 87 11 (nI m)) := zKpt_rfl.u (by unfold SPr; omega)
      refine z_cV0 (M' := mX10_token) (R' := rX10_token) (i := 87) [] [] eX10_token k10_230 (by decide +kernel : decode cX10_number 41 = .ok (.invokevirtual 230, 3)) (Nat.le_of_ble_eq_true rfl) ⟨Nat.le_of_ble_eq_true rfl, Nat.le_of_ble_eq_true rfl, Nat.le_of_ble_eq_true rfl, Nat.le_of_ble_eq_true rfl, Nat.le_of_ble_eq_true rfl⟩ rfl rfl rfl sh_87 ?_
      refine mo_tok (zEr_k kJ hE) ht (fun kd' wh' hr' => ?_)
      refine zBlkR (M := mX10_number) (nL := 3) (rt := (Option.some .boolean)) (blk := bX10_number_44) (T := []) 0 hX10_number_44 zChks_nil rfl rfl rfl (Nat.le_of_ble_eq_true rfl) (Nat.le_of_ble_eq_true rfl) ?_
      simp (implicitDefEqProofs := false) only [bX10_number_44, zRun_cons, zRun_nil, zLk, zSto, zIns, zFil, zf0, zf1, zf2, zf3, List.filter_cons, List.filter_nil, Nat.reduceAdd, Nat.reduceEqDiff, Nat.reduceLT, Nat.reduceLeDiff, Nat.reduceBEq, Nat.reduceBNe, reduceIte, if_true, if_false, Bool.false_and, Bool.true_and, Bool.and_true, Bool.and_false, Bool.not_false, Bool.not_true, Bool.false_eq_true, beq_self_eq_true, BEq.rfl, zCat1, zCat2, zCat3, zKdI, zKdL, zKdR, true_and, and_true, zSI, zSL, zSR, zu_at, and_self, and_false, false_and, lv_args, zKdZ, zKdO, zB01, zB11, Option.toList_none, Option.toList_some, List.nil_append, List.cons_append, true_or, or_true, zRow_rd, zu_rd, zo_iconst, zo_ireturn, zi_1, zcl_1, zRt, zKn_0, zN10, zN01, not_true_eq_false, not_false_eq_true, false_implies, true_implies, implies_true, eq_self, nI_1, nI_40, nI_7, vz0, vz1, zb1_e0, zb1_n0]
      exact h2 _ _ _ hg hr'
    · rw [if_neg g] at hg
      rw [decide_eq_false g]
      refine zBlkR (M := mX10_number) (nL := 3) (rt := (Option.some .boolean)) (blk := bX10_number_23) (T := [(32, bX10_number_32)]) 1 hX10_number_23 (zChks_cons hX10_number_32 zChks_nil) rfl rfl rfl (Nat.le_of_ble_eq_true rfl) (Nat.le_of_ble_eq_true rfl) ?_
      simp (implicitDefEqProofs := false) only [bX10_number_23, bX10_number_32, zRun_cons, zRun_nil, zLk, zSto, zIns, zFil, zf0, zf1, zf2, zf3, List.filter_cons, List.filter_nil, Nat.reduceAdd, Nat.reduceEqDiff, Nat.reduceLT, Nat.reduceLeDiff, Nat.reduceBEq, Nat.reduceBNe, reduceIte, if_true, if_false, Bool.false_and, Bool.true_and, Bool.and_true, Bool.and_false, Bool.not_false, Bool.not_true, Bool.false_eq_true, beq_self_eq_true, BEq.rfl, zCat1, zCat2, zCat3, zKdI, zKdL, zKdR, true_and, and_true, zSI, zSL, zSR, zu_at, and_self, and_false, false_and, lv_args, zKdZ, zKdO, zB01, zB11, Option.toList_none, Option.toList_some, List.nil_append, List.cons_append, true_or, or_true, zRow_rd, zu_rd, zo_if_ne, zo_aload_n, zo_iconst, zo_getfield, zo_putfield, zo_putfield_2, zo_putfield_3, zi_2, zKd_10_9, zKd_10_11, zTy_10_11, zcl_2, sh_87, zPutC, zKn_s, zKn_0, zFind, zb1_f, zN10, zN01, not_true_eq_false, not_false_eq_true, false_implies, true_implies, implies_true, eq_self, nI_1, nI_40, nI_7, vz0, vz1, zb1_e0, zb1_n0]
      refine z_cV0 (M' := mX10_wrong) (R' := rX10_wrong) (i := 87) [.int 2] [] eX10_wrong k10_220 (by decide +kernel : decode cX10_number 28 = .ok (.invokevirtual 220, 3)) (Nat.le_of_ble_eq_true rfl) ⟨Nat.le_of_ble_eq_true rfl, Nat.le_of_ble_eq_true rfl, Nat.le_of_ble_eq_true rfl, Nat.le_of_ble_eq_true rfl, Nat.le_of_ble_eq_true rfl⟩ rfl rfl rfl sh_87 ?_
      refine mo_wrg ?_
      refine zBlkR (M := mX10_number) (nL := 3) (rt := (Option.some .boolean)) (blk := bX10_number_31) (T := []) 0 hX10_number_31 zChks_nil rfl rfl rfl (Nat.le_of_ble_eq_true rfl) (Nat.le_of_ble_eq_true rfl) ?_
      simp (implicitDefEqProofs := false) only [bX10_number_31, zRun_cons, zRun_nil, zLk, zSto, zIns, zFil, zf0, zf1, zf2, zf3, List.filter_cons, List.filter_nil, Nat.reduceAdd, Nat.reduceEqDiff, Nat.reduceLT, Nat.reduceLeDiff, Nat.reduceBEq, Nat.reduceBNe, reduceIte, if_true, if_false, Bool.false_and, Bool.true_and, Bool.and_true, Bool.and_false, Bool.not_false, Bool.not_true, Bool.false_eq_true, beq_self_eq_true, BEq.rfl, zCat1, zCat2, zCat3, zKdI, zKdL, zKdR, true_and, and_true, zSI, zSL, zSR, zu_at, and_self, and_false, false_and, lv_args, zKdZ, zKdO, zB01, zB11, Option.toList_none, Option.toList_some, List.nil_append, List.cons_append, true_or, or_true, zRow_rd, zu_rd, zo_ireturn, zRt, zKn_0, zN10, zN01, not_true_eq_false, not_false_eq_true, false_implies, true_implies, implies_true, eq_self, nI_1, nI_40, nI_7, vz0, vz1, zb1_e0, zb1_n0]
      exact h1 _ hg
  · have x3' : (t.2.2.1 = 2) = False := eq_false h
    have hg : gN lo hi t = .inl (1, tAt t) := by unfold gN; rw [if_neg h]
    refine zBlkR (M := mX10_number) (nL := 3) (rt := (Option.some .boolean)) (blk := bX10_number_0) (T := [(14, bX10_number_14)]) 1 hX10_number_0 (zChks_cons hX10_number_14 zChks_nil) rfl rfl rfl (Nat.le_of_ble_eq_true rfl) (Nat.le_of_ble_eq_true rfl) ?_
    simp (implicitDefEqProofs := false) only [bX10_number_0, bX10_number_14, zRun_cons, zRun_nil, zLk, zSto, zIns, zFil, zf0, zf1, zf2, zf3, List.filter_cons, List.filter_nil, Nat.reduceAdd, Nat.reduceEqDiff, Nat.reduceLT, Nat.reduceLeDiff, Nat.reduceBEq, Nat.reduceBNe, reduceIte, if_true, if_false, Bool.false_and, Bool.true_and, Bool.and_true, Bool.and_false, Bool.not_false, Bool.not_true, Bool.false_eq_true, beq_self_eq_true, BEq.rfl, zCat1, zCat2, zCat3, zKdI, zKdL, zKdR, true_and, and_true, zSI, zSL, zSR, zu_at, and_self, and_false, false_and, lv_args, zKdZ, zKdO, zB01, zB11, Option.toList_none, Option.toList_some, List.nil_append, List.cons_append, true_or, or_true, zRow_rd, zu_rd, zo_aload_n, zo_getfield, zo_iconst, zo_icmp_eq, zo_iload_n, zi_3, zi_1, zKd_10_8, zKd_10_9, sh_87, zcl_3, zcl_1, zKn_s, zKn_0, zFind, zTq_7, zTq_8, zTq_9, zTq_10, zTq_o, zTq_k, zTq_u, zTq_uk, x3, x3', zN10, zN01, not_true_eq_false, not_false_eq_true, false_implies, true_implies, implies_true, eq_self, nI_1, nI_40, nI_7, vz0, vz1, zb1_e0, zb1_n0]
    refine z_cV0 (M' := mX10_wrong) (R' := rX10_wrong) (i := 87) [.int 1] [] eX10_wrong k10_220 (by decide +kernel : decode cX10_number 10 = .ok (.invokevirtual 220, 3)) (Nat.le_of_ble_eq_true rfl) ⟨Nat.le_of_ble_eq_true rfl, Nat.le_of_ble_eq_true rfl, Nat.le_of_ble_eq_true rfl, Nat.le_of_ble_eq_true rfl, Nat.le_of_ble_eq_true rfl⟩ rfl rfl rfl sh_87 ?_
    refine mo_wrg ?_
    refine zBlkR (M := mX10_number) (nL := 3) (rt := (Option.some .boolean)) (blk := bX10_number_13) (T := []) 0 hX10_number_13 zChks_nil rfl rfl rfl (Nat.le_of_ble_eq_true rfl) (Nat.le_of_ble_eq_true rfl) ?_
    simp (implicitDefEqProofs := false) only [bX10_number_13, zRun_cons, zRun_nil, zLk, zSto, zIns, zFil, zf0, zf1, zf2, zf3, List.filter_cons, List.filter_nil, Nat.reduceAdd, Nat.reduceEqDiff, Nat.reduceLT, Nat.reduceLeDiff, Nat.reduceBEq, Nat.reduceBNe, reduceIte, if_true, if_false, Bool.false_and, Bool.true_and, Bool.and_true, Bool.and_false, Bool.not_false, Bool.not_true, Bool.false_eq_true, beq_self_eq_true, BEq.rfl, zCat1, zCat2, zCat3, zKdI, zKdL, zKdR, true_and, and_true, zSI, zSL, zSR, zu_at, and_self, and_false, false_and, lv_args, zKdZ, zKdO, zB01, zB11, Option.toList_none, Option.toList_some, List.nil_append, List.cons_append, true_or, or_true, zRow_rd, zu_rd, zo_ireturn, zRt, zKn_0, zN10, zN01, not_true_eq_false, not_false_eq_true, false_implies, true_implies, implies_true, eq_self, nI_1, nI_40, nI_7, vz0, vz1, zb1_e0, zb1_n0]
    exact h1 _ hg
set_option maxRecDepth 20000 in
theorem mo_newName {i0 fr N : Nat} (hs : SH[i0]? = some (.inl (0, N))) (hN : fr + n < N) (hN2 : N < 1000) (hi : (i0 = 87) = False) (hE : zEr J E) (hE2 : zEr (zu J i0 (fr + n) (tVl t)) E) (ht : tOk E t) (hr : tRel t.2.2.1 t.2.2.2 kd wh) (h1 : ∀ c, ((c = 1 ∧ ¬ tKd t = 3) ∨ (c = 3 ∧ tKd t = 3 ∧ ¬ oFnd (fun k => J i0 (fr + k)) n (tVl t) = -1)) → Q (some (.int 0)) (SH, zTq (zu (zu J 87 4 (nI c)) 87 5 (nI (tAt t))) t kd wh, L, RF p s r)) (h2 : tKd t = 3 → oFnd (fun k => J i0 (fr + k)) n (tVl t) = -1 → ∀ kd' wh', tRel (tNx E t).2.2.1 (tNx E t).2.2.2 kd' wh' → Q (some (.int 1)) (SH, zTq (zu J i0 (fr + n) (tVl t)) (tNx E t) kd' wh', L, RF p s r)) : zXM w mX10_newName rX10_newName [.ref 87, .ref i0, .int (nI fr), .int (nI n)] (SH, zTq J t kd wh, L, RF p s r) Q := by
  unfold zXM
  have x2 := tD2 hr
  by_cases h : t.2.2.1 = 3
  · have x2' : (t.2.2.1 = 3) = True := eq_true h
    have ew : wh = t.2.2.2 := by
      obtain ⟨hk, h0 | ⟨-, -, hn, -⟩⟩ := id hr
      · omega
      · exact hn h
    subst ew
    refine zBlkR (M := mX10_newName) (nL := 4) (rt := (Option.some .boolean)) (blk := bX10_newName_0) (T := [(14, bX10_newName_14)]) 1 hX10_newName_0 (zChks_cons hX10_newName_14 zChks_nil) rfl rfl rfl (Nat.le_of_ble_eq_true rfl) (Nat.le_of_ble_eq_true rfl) ?_
    simp (implicitDefEqProofs := false) only [bX10_newName_0, bX10_newName_14, zRun_cons, zRun_nil, zLk, zSto, zIns, zFil, zf0, zf1, zf2, zf3, List.filter_cons, List.filter_nil, Nat.reduceAdd, Nat.reduceEqDiff, Nat.reduceLT, Nat.reduceLeDiff, Nat.reduceBEq, Nat.reduceBNe, reduceIte, if_true, if_false, Bool.false_and, Bool.true_and, Bool.and_true, Bool.and_false, Bool.not_false, Bool.not_true, Bool.false_eq_true, beq_self_eq_true, BEq.rfl, zCat1, zCat2, zCat3, zKdI, zKdL, zKdR, true_and, and_true, zSI, zSL, zSR, zu_at, and_self, and_false, false_and, lv_args, zKdZ, zKdO, zB01, zB11, Option.toList_none, Option.toList_some, List.nil_append, List.cons_append, true_or, or_true, zRow_rd, zu_rd, zo_aload_n, zo_getfield, zo_iconst, zo_icmp_eq, zo_iload_n, zi_2, zi_1, zKd_10_8, zKd_10_9, sh_87, zcl_2, zcl_1, zKn_s, zKn_0, zFind, zTq_7, zTq_8, zTq_9, zTq_10, zTq_o, zTq_k, zTq_u, zTq_uk, x2, x2', zN10, zN01, not_true_eq_false, not_false_eq_true, false_implies, true_implies, implies_true, eq_self, nI_1, nI_40, nI_7, vz0, vz1, zb1_e0, zb1_n0]
    refine z_cS0 (M' := mX10_find) (R' := rX10_find) [.ref i0, .int (nI fr), .int (nI n), .int t.2.2.2] [] eX10_find k10_286 (by decide +kernel : decode cX10_newName 21 = .ok (.invokestatic 286, 3)) (Nat.le_of_ble_eq_true rfl) ⟨Nat.le_of_ble_eq_true rfl, Nat.le_of_ble_eq_true rfl, Nat.le_of_ble_eq_true rfl, Nat.le_of_ble_eq_true rfl, Nat.le_of_ble_eq_true rfl⟩ rfl rfl rfl ?_
    refine mo_find hs (by omega) hN2 ?_
    simp only [zTq_o hi]
    by_cases q1 : oFnd (fun k => J i0 (fr + k)) n t.2.2.2 = -1
    · rw [q1]
      have z : ((-1 : Int32) < 0) = True := eq_true (by decide)
      have ea := nI_add fr n
      have hv : vp_in (nI (fr + n)) N := zvn (by omega) (by omega)
      have cl : (nI (fr + n)).toNatClampNeg = fr + n := nI_clamp (by omega)
      refine zBlkR (M := mX10_newName) (nL := 4) (rt := (Option.some .boolean)) (blk := bX10_newName_24) (T := [(33, bX10_newName_33)]) 1 hX10_newName_24 (zChks_cons hX10_newName_33 zChks_nil) rfl rfl rfl (Nat.le_of_ble_eq_true rfl) (Nat.le_of_ble_eq_true rfl) ?_
      simp (implicitDefEqProofs := false) only [bX10_newName_24, bX10_newName_33, zRun_cons, zRun_nil, zLk, zSto, zIns, zFil, zf0, zf1, zf2, zf3, List.filter_cons, List.filter_nil, Nat.reduceAdd, Nat.reduceEqDiff, Nat.reduceLT, Nat.reduceLeDiff, Nat.reduceBEq, Nat.reduceBNe, reduceIte, if_true, if_false, Bool.false_and, Bool.true_and, Bool.and_true, Bool.and_false, Bool.not_false, Bool.not_true, Bool.false_eq_true, beq_self_eq_true, BEq.rfl, zCat1, zCat2, zCat3, zKdI, zKdL, zKdR, true_and, and_true, zSI, zSL, zSR, zu_at, and_self, and_false, false_and, lv_args, zKdZ, zKdO, zB01, zB11, Option.toList_none, Option.toList_some, List.nil_append, List.cons_append, true_or, or_true, zRow_rd, zu_rd, zo_if_lt, zo_aload_n, zo_iconst, zo_iload_n, zo_iadd, zo_getfield, zo_iastore, zi_3, zKd_10_9, zcl_3, sh_87, zKn_s, zKn_0, zFind, z, zTq_7, zTq_8, zTq_9, zTq_10, zTq_o, zTq_k, zTq_u, zTq_uk, hs, ea, hv, cl, hi, zN10, zN01, not_true_eq_false, not_false_eq_true, false_implies, true_implies, implies_true, eq_self, nI_1, nI_40, nI_7, vz0, vz1, zb1_e0, zb1_n0]
      refine z_cV0 (M' := mX10_token) (R' := rX10_token) (i := 87) [] [] eX10_token k10_230 (by decide +kernel : decode cX10_newName 43 = .ok (.invokevirtual 230, 3)) (Nat.le_of_ble_eq_true rfl) ⟨Nat.le_of_ble_eq_true rfl, Nat.le_of_ble_eq_true rfl, Nat.le_of_ble_eq_true rfl, Nat.le_of_ble_eq_true rfl, Nat.le_of_ble_eq_true rfl⟩ rfl rfl rfl sh_87 ?_
      refine mo_tok hE2 ht (fun kd' wh' hr' => ?_)
      refine zBlkR (M := mX10_newName) (nL := 4) (rt := (Option.some .boolean)) (blk := bX10_newName_46) (T := []) 0 hX10_newName_46 zChks_nil rfl rfl rfl (Nat.le_of_ble_eq_true rfl) (Nat.le_of_ble_eq_true rfl) ?_
      simp (implicitDefEqProofs := false) only [bX10_newName_46, zRun_cons, zRun_nil, zLk, zSto, zIns, zFil, zf0, zf1, zf2, zf3, List.filter_cons, List.filter_nil, Nat.reduceAdd, Nat.reduceEqDiff, Nat.reduceLT, Nat.reduceLeDiff, Nat.reduceBEq, Nat.reduceBNe, reduceIte, if_true, if_false, Bool.false_and, Bool.true_and, Bool.and_true, Bool.and_false, Bool.not_false, Bool.not_true, Bool.false_eq_true, beq_self_eq_true, BEq.rfl, zCat1, zCat2, zCat3, zKdI, zKdL, zKdR, true_and, and_true, zSI, zSL, zSR, zu_at, and_self, and_false, false_and, lv_args, zKdZ, zKdO, zB01, zB11, Option.toList_none, Option.toList_some, List.nil_append, List.cons_append, true_or, or_true, zRow_rd, zu_rd, zo_iconst, zo_ireturn, zi_1, zcl_1, zRt, zKn_0, zN10, zN01, not_true_eq_false, not_false_eq_true, false_implies, true_implies, implies_true, eq_self, nI_1, nI_40, nI_7, vz0, vz1, zb1_e0, zb1_n0]
      exact h2 h q1 _ _ hr'
    · have q2 : ∃ q, q < n ∧ oFnd (fun k => J i0 (fr + k)) n t.2.2.2 = nI q := by
        unfold oFnd at q1 ⊢
        split
        · exact ⟨_, by assumption, rfl⟩
        · rename_i g; rw [if_neg g] at q1; exact absurd rfl q1
      obtain ⟨q, hq, eq⟩ := q2
      rw [eq]
      have z : (nI q < 0) = False := eq_false (nI_nn (by omega))
      refine zBlkR (M := mX10_newName) (nL := 4) (rt := (Option.some .boolean)) (blk := bX10_newName_24) (T := [(33, bX10_newName_33)]) 1 hX10_newName_24 (zChks_cons hX10_newName_33 zChks_nil) rfl rfl rfl (Nat.le_of_ble_eq_true rfl) (Nat.le_of_ble_eq_true rfl) ?_
      simp (implicitDefEqProofs := false) only [bX10_newName_24, bX10_newName_33, zRun_cons, zRun_nil, zLk, zSto, zIns, zFil, zf0, zf1, zf2, zf3, List.filter_cons, List.filter_nil, Nat.reduceAdd, Nat.reduceEqDiff, Nat.reduceLT, Nat.reduceLeDiff, Nat.reduceBEq, Nat.reduceBNe, reduceIte, if_true, if_false, Bool.false_and, Bool.true_and, Bool.and_true, Bool.and_false, Bool.not_false, Bool.not_true, Bool.false_eq_true, beq_self_eq_true, BEq.rfl, zCat1, zCat2, zCat3, zKdI, zKdL, zKdR, true_and, and_true, zSI, zSL, zSR, zu_at, and_self, and_false, false_and, lv_args, zKdZ, zKdO, zB01, zB11, Option.toList_none, Option.toList_some, List.nil_append, List.cons_append, true_or, or_true, zRow_rd, zu_rd, zo_if_lt, zo_aload_n, zo_iconst, zo_iload_n, zo_iadd, zo_getfield, zo_iastore, zi_3, zKd_10_9, zcl_3, sh_87, zKn_s, zKn_0, zFind, z, zN10, zN01, not_true_eq_false, not_false_eq_true, false_implies, true_implies, implies_true, eq_self, nI_1, nI_40, nI_7, vz0, vz1, zb1_e0, zb1_n0]
      refine z_cV0 (M' := mX10_wrong) (R' := rX10_wrong) (i := 87) [.int 3] [] eX10_wrong k10_220 (by decide +kernel : decode cX10_newName 29 = .ok (.invokevirtual 220, 3)) (Nat.le_of_ble_eq_true rfl) ⟨Nat.le_of_ble_eq_true rfl, Nat.le_of_ble_eq_true rfl, Nat.le_of_ble_eq_true rfl, Nat.le_of_ble_eq_true rfl, Nat.le_of_ble_eq_true rfl⟩ rfl rfl rfl sh_87 ?_
      refine mo_wrg ?_
      refine zBlkR (M := mX10_newName) (nL := 4) (rt := (Option.some .boolean)) (blk := bX10_newName_32) (T := []) 0 hX10_newName_32 zChks_nil rfl rfl rfl (Nat.le_of_ble_eq_true rfl) (Nat.le_of_ble_eq_true rfl) ?_
      simp (implicitDefEqProofs := false) only [bX10_newName_32, zRun_cons, zRun_nil, zLk, zSto, zIns, zFil, zf0, zf1, zf2, zf3, List.filter_cons, List.filter_nil, Nat.reduceAdd, Nat.reduceEqDiff, Nat.reduceLT, Nat.reduceLeDiff, Nat.reduceBEq, Nat.reduceBNe, reduceIte, if_true, if_false, Bool.false_and, Bool.true_and, Bool.and_true, Bool.and_false, Bool.not_false, Bool.not_true, Bool.false_eq_true, beq_self_eq_true, BEq.rfl, zCat1, zCat2, zCat3, zKdI, zKdL, zKdR, true_and, and_true, zSI, zSL, zSR, zu_at, and_self, and_false, false_and, lv_args, zKdZ, zKdO, zB01, zB11, Option.toList_none, Option.toList_some, List.nil_append, List.cons_append, true_or, or_true, zRow_rd, zu_rd, zo_ireturn, zRt, zKn_0, zN10, zN01, not_true_eq_false, not_false_eq_true, false_implies, true_implies, implies_true, eq_self, nI_1, nI_40, nI_7, vz0, vz1, zb1_e0, zb1_n0]
      exact h1 3 (Or.inr ⟨rfl, h, q1⟩)
  · have x2' : (t.2.2.1 = 3) = False := eq_false h
    refine zBlkR (M := mX10_newName) (nL := 4) (rt := (Option.some .boolean)) (blk := bX10_newName_0) (T := [(14, bX10_newName_14)]) 1 hX10_newName_0 (zChks_cons hX10_newName_14 zChks_nil) rfl rfl rfl (Nat.le_of_ble_eq_true rfl) (Nat.le_of_ble_eq_true rfl) ?_
    simp (implicitDefEqProofs := false) only [bX10_newName_0, bX10_newName_14, zRun_cons, zRun_nil, zLk, zSto, zIns, zFil, zf0, zf1, zf2, zf3, List.filter_cons, List.filter_nil, Nat.reduceAdd, Nat.reduceEqDiff, Nat.reduceLT, Nat.reduceLeDiff, Nat.reduceBEq, Nat.reduceBNe, reduceIte, if_true, if_false, Bool.false_and, Bool.true_and, Bool.and_true, Bool.and_false, Bool.not_false, Bool.not_true, Bool.false_eq_true, beq_self_eq_true, BEq.rfl, zCat1, zCat2, zCat3, zKdI, zKdL, zKdR, true_and, and_true, zSI, zSL, zSR, zu_at, and_self, and_false, false_and, lv_args, zKdZ, zKdO, zB01, zB11, Option.toList_none, Option.toList_some, List.nil_append, List.cons_append, true_or, or_true, zRow_rd, zu_rd, zo_aload_n, zo_getfield, zo_iconst, zo_icmp_eq, zo_iload_n, zi_2, zi_1, zKd_10_8, zKd_10_9, sh_87, zcl_2, zcl_1, zKn_s, zKn_0, zFind, zTq_7, zTq_8, zTq_9, zTq_10, zTq_o, zTq_k, zTq_u, zTq_uk, x2, x2', zN10, zN01, not_true_eq_false, not_false_eq_true, false_implies, true_implies, implies_true, eq_self, nI_1, nI_40, nI_7, vz0, vz1, zb1_e0, zb1_n0]
    refine z_cV0 (M' := mX10_wrong) (R' := rX10_wrong) (i := 87) [.int 1] [] eX10_wrong k10_220 (by decide +kernel : decode cX10_newName 10 = .ok (.invokevirtual 220, 3)) (Nat.le_of_ble_eq_true rfl) ⟨Nat.le_of_ble_eq_true rfl, Nat.le_of_ble_eq_true rfl, Nat.le_of_ble_eq_true rfl, Nat.le_of_ble_eq_true rfl, Nat.le_of_ble_eq_true rfl⟩ rfl rfl rfl sh_87 ?_
    refine mo_wrg ?_
    refine zBlkR (M := mX10_newName) (nL := 4) (rt := (Option.some .boolean)) (blk := bX10_newName_13) (T := []) 0 hX10_newName_13 zChks_nil rfl rfl rfl (Nat.le_of_ble_eq_true rfl) (Nat.le_of_ble_eq_true rfl) ?_
    simp (implicitDefEqProofs := false) only [bX10_newName_13, zRun_cons, zRun_nil, zLk, zSto, zIns, zFil, zf0, zf1, zf2, zf3, List.filter_cons, List.filter_nil, Nat.reduceAdd, Nat.reduceEqDiff, Nat.reduceLT, Nat.reduceLeDiff, Nat.reduceBEq, Nat.reduceBNe, reduceIte, if_true, if_false, Bool.false_and, Bool.true_and, Bool.and_true, Bool.and_false, Bool.not_false, Bool.not_true, Bool.false_eq_true, beq_self_eq_true, BEq.rfl, zCat1, zCat2, zCat3, zKdI, zKdL, zKdR, true_and, and_true, zSI, zSL, zSR, zu_at, and_self, and_false, false_and, lv_args, zKdZ, zKdO, zB01, zB11, Option.toList_none, Option.toList_some, List.nil_append, List.cons_append, true_or, or_true, zRow_rd, zu_rd, zo_ireturn, zRt, zKn_0, zN10, zN01, not_true_eq_false, not_false_eq_true, false_implies, true_implies, implies_true, eq_self, nI_1, nI_40, nI_7, vz0, vz1, zb1_e0, zb1_n0]
    exact h1 1 (Or.inl ⟨rfl, h⟩)
theorem zDr_place (hD : zDr J D) (hK : zKpt (fun i k => (i = 87 ∧ (k = 11 ∨ k = 18)) ∨ (90 ≤ i ∧ i ≤ 93 ∧ k = 5 + dNp D)) J J') (h0 : J' 87 18 = nI (dNp D + 1)) (h1 : J' 90 (5 + dNp D) = nm) (h2 : J' 91 (5 + dNp D) = nI v) (h3 : J' 92 (5 + dNp D) = nI q) (h4 : J' 93 (5 + dNp D) = td) : zDr J' (dPlace D nm v q td) := by
  obtain ⟨⟨c18, c19, c20, c21, c22, c23, c49⟩, dp, dc, dsk, dbd, dst, dsg, dkn, dlw, dto, dbo, dfl⟩ := hD
  refine ⟨⟨h0, by rw [hK _ _ (by omega)]; exact c19, by rw [hK _ _ (by omega)]; exact c20, by rw [hK _ _ (by omega)]; exact c21, by rw [hK _ _ (by omega)]; exact c22, by rw [hK _ _ (by omega)]; exact c23, by rw [hK _ _ (by omega)]; exact c49⟩, fun k hk => ?_, fun k hk => ?_, fun k hk => ?_, fun k hk => ?_, fun k hk => ?_, fun k hk => ?_, fun k hk => ?_, fun k hk => ?_, fun k hk => ?_, fun k => ?_, ⟨by rw [hK _ _ (by omega)]; exact dfl.1, by rw [hK _ _ (by omega)]; exact dfl.2⟩⟩
  · have hk : k < dNp D + 1 := hk
    by_cases e : k = dNp D
    · subst e; simp [dPlace, dR_mk, dSt_mk, zu_at, h1, h2, h3, h4]
    · have := dp k (by omega)
      rw [hK _ _ (by omega), hK _ _ (by omega), hK _ _ (by omega), hK _ _ (by omega)]
      simp [dPlace, dR_mk, dSt_mk, zu_at, e]; exact this
  · rw [hK _ _ (by omega), hK _ _ (by omega)]; simp [dPlace, dR_mk, dSt_mk, zu_at]; exact dc k hk
  · rw [hK _ _ (by omega), hK _ _ (by omega)]; simp [dPlace, dR_mk, dSt_mk, zu_at]; exact dsk k hk
  · rw [hK _ _ (by omega), hK _ _ (by omega), hK _ _ (by omega)]; simp [dPlace, dR_mk, dSt_mk, zu_at]; exact dbd k hk
  · rw [hK _ _ (by omega)]; simp [dPlace, dR_mk, dSt_mk, zu_at]; exact dst k hk
  · rw [hK _ _ (by omega)]; simp [dPlace, dR_mk, dSt_mk, zu_at]; exact dsg k hk
  · rw [hK _ _ (by omega), hK _ _ (by omega), hK _ _ (by omega)]; simp [dPlace, dR_mk, dSt_mk, zu_at]; exact dkn k hk
  · rw [hK _ _ (by omega), hK _ _ (by omega), hK _ _ (by omega)]; exact dlw k hk
  · rw [hK _ _ (by omega)]; exact dto k hk
  · rw [hK _ _ (by omega)]; exact dbo k
theorem zDr_come (hD : zDr J D) (hK : zKpt (fun i k => (i = 87 ∧ (k = 11 ∨ k = 19)) ∨ ((i = 94 ∨ i = 95) ∧ k = 16 + dNc D)) J J') (h0 : J' 87 19 = nI (dNc D + 1)) (h1 : J' 94 (16 + dNc D) = nI v) (h2 : J' 95 (16 + dNc D) = nI q) : zDr J' (dCome D v q) := by
  obtain ⟨⟨c18, c19, c20, c21, c22, c23, c49⟩, dp, dc, dsk, dbd, dst, dsg, dkn, dlw, dto, dbo, dfl⟩ := hD
  refine ⟨⟨by rw [hK _ _ (by omega)]; exact c18, h0, by rw [hK _ _ (by omega)]; exact c20, by rw [hK _ _ (by omega)]; exact c21, by rw [hK _ _ (by omega)]; exact c22, by rw [hK _ _ (by omega)]; exact c23, by rw [hK _ _ (by omega)]; exact c49⟩, fun k hk => ?_, fun k hk => ?_, fun k hk => ?_, fun k hk => ?_, fun k hk => ?_, fun k hk => ?_, fun k hk => ?_, fun k hk => ?_, fun k hk => ?_, fun k => ?_, ⟨by rw [hK _ _ (by omega)]; exact dfl.1, by rw [hK _ _ (by omega)]; exact dfl.2⟩⟩
  · rw [hK _ _ (by omega), hK _ _ (by omega), hK _ _ (by omega), hK _ _ (by omega)]; simp [dCome, dR_mk, dSt_mk, zu_at]; exact dp k hk
  · have hk : k < dNc D + 1 := hk
    by_cases e : k = dNc D
    · subst e; simp [dCome, dR_mk, dSt_mk, zu_at, h1, h2]
    · have := dc k (by omega)
      rw [hK _ _ (by omega), hK _ _ (by omega)]
      simp [dCome, dR_mk, dSt_mk, zu_at, e]; exact this
  · rw [hK _ _ (by omega), hK _ _ (by omega)]; simp [dCome, dR_mk, dSt_mk, zu_at]; exact dsk k hk
  · rw [hK _ _ (by omega), hK _ _ (by omega), hK _ _ (by omega)]; simp [dCome, dR_mk, dSt_mk, zu_at]; exact dbd k hk
  · rw [hK _ _ (by omega)]; simp [dCome, dR_mk, dSt_mk, zu_at]; exact dst k hk
  · rw [hK _ _ (by omega)]; simp [dCome, dR_mk, dSt_mk, zu_at]; exact dsg k hk
  · rw [hK _ _ (by omega), hK _ _ (by omega), hK _ _ (by omega)]; simp [dCome, dR_mk, dSt_mk, zu_at]; exact dkn k hk
  · rw [hK _ _ (by omega), hK _ _ (by omega), hK _ _ (by omega)]; exact dlw k hk
  · rw [hK _ _ (by omega)]; exact dto k hk
  · rw [hK _ _ (by omega)]; exact dbo k
theorem zDr_sky (hD : zDr J D) (hK : zKpt (fun i k => (i = 87 ∧ (k = 11 ∨ k = 20)) ∨ ((i = 96 ∨ i = 97) ∧ k = 12 + dNs D)) J J') (h0 : J' 87 20 = nI (dNs D + 1)) (h1 : J' 96 (12 + dNs D) = nI v) (h2 : J' 97 (12 + dNs D) = nI q) : zDr J' (dSky D v q) := by
  obtain ⟨⟨c18, c19, c20, c21, c22, c23, c49⟩, dp, dc, dsk, dbd, dst, dsg, dkn, dlw, dto, dbo, dfl⟩ := hD
  refine ⟨⟨by rw [hK _ _ (by omega)]; exact c18, by rw [hK _ _ (by omega)]; exact c19, h0, by rw [hK _ _ (by omega)]; exact c21, by rw [hK _ _ (by omega)]; exact c22, by rw [hK _ _ (by omega)]; exact c23, by rw [hK _ _ (by omega)]; exact c49⟩, fun k hk => ?_, fun k hk => ?_, fun k hk => ?_, fun k hk => ?_, fun k hk => ?_, fun k hk => ?_, fun k hk => ?_, fun k hk => ?_, fun k hk => ?_, fun k => ?_, ⟨by rw [hK _ _ (by omega)]; exact dfl.1, by rw [hK _ _ (by omega)]; exact dfl.2⟩⟩
  · rw [hK _ _ (by omega), hK _ _ (by omega), hK _ _ (by omega), hK _ _ (by omega)]; simp [dSky, dR_mk, dSt_mk, zu_at]; exact dp k hk
  · rw [hK _ _ (by omega), hK _ _ (by omega)]; simp [dSky, dR_mk, dSt_mk, zu_at]; exact dc k hk
  · have hk : k < dNs D + 1 := hk
    by_cases e : k = dNs D
    · subst e; simp [dSky, dR_mk, dSt_mk, zu_at, h1, h2]
    · have := dsk k (by omega)
      rw [hK _ _ (by omega), hK _ _ (by omega)]
      simp [dSky, dR_mk, dSt_mk, zu_at, e]; exact this
  · rw [hK _ _ (by omega), hK _ _ (by omega), hK _ _ (by omega)]; simp [dSky, dR_mk, dSt_mk, zu_at]; exact dbd k hk
  · rw [hK _ _ (by omega)]; simp [dSky, dR_mk, dSt_mk, zu_at]; exact dst k hk
  · rw [hK _ _ (by omega)]; simp [dSky, dR_mk, dSt_mk, zu_at]; exact dsg k hk
  · rw [hK _ _ (by omega), hK _ _ (by omega), hK _ _ (by omega)]; simp [dSky, dR_mk, dSt_mk, zu_at]; exact dkn k hk
  · rw [hK _ _ (by omega), hK _ _ (by omega), hK _ _ (by omega)]; exact dlw k hk
  · rw [hK _ _ (by omega)]; exact dto k hk
  · rw [hK _ _ (by omega)]; exact dbo k
theorem zDr_band (hD : zDr J D) (hK : zKpt (fun i k => (i = 87 ∧ (k = 11 ∨ k = 21)) ∨ (98 ≤ i ∧ i ≤ 100 ∧ k = 2 + dNb D)) J J') (h0 : J' 87 21 = nI (dNb D + 1)) (h1 : J' 98 (2 + dNb D) = nI m) (h2 : J' 99 (2 + dNb D) = nI v) (h3 : J' 100 (2 + dNb D) = nI q) : zDr J' (dBand D m v q) := by
  obtain ⟨⟨c18, c19, c20, c21, c22, c23, c49⟩, dp, dc, dsk, dbd, dst, dsg, dkn, dlw, dto, dbo, dfl⟩ := hD
  refine ⟨⟨by rw [hK _ _ (by omega)]; exact c18, by rw [hK _ _ (by omega)]; exact c19, by rw [hK _ _ (by omega)]; exact c20, h0, by rw [hK _ _ (by omega)]; exact c22, by rw [hK _ _ (by omega)]; exact c23, by rw [hK _ _ (by omega)]; exact c49⟩, fun k hk => ?_, fun k hk => ?_, fun k hk => ?_, fun k hk => ?_, fun k hk => ?_, fun k hk => ?_, fun k hk => ?_, fun k hk => ?_, fun k hk => ?_, fun k => ?_, ⟨by rw [hK _ _ (by omega)]; exact dfl.1, by rw [hK _ _ (by omega)]; exact dfl.2⟩⟩
  · rw [hK _ _ (by omega), hK _ _ (by omega), hK _ _ (by omega), hK _ _ (by omega)]; simp [dBand, dR_mk, dSt_mk, zu_at]; exact dp k hk
  · rw [hK _ _ (by omega), hK _ _ (by omega)]; simp [dBand, dR_mk, dSt_mk, zu_at]; exact dc k hk
  · rw [hK _ _ (by omega), hK _ _ (by omega)]; simp [dBand, dR_mk, dSt_mk, zu_at]; exact dsk k hk
  · have hk : k < dNb D + 1 := hk
    by_cases e : k = dNb D
    · subst e; simp [dBand, dR_mk, dSt_mk, zu_at, h1, h2, h3]
    · have := dbd k (by omega)
      rw [hK _ _ (by omega), hK _ _ (by omega), hK _ _ (by omega)]
      simp [dBand, dR_mk, dSt_mk, zu_at, e]; exact this
  · rw [hK _ _ (by omega)]; simp [dBand, dR_mk, dSt_mk, zu_at]; exact dst k hk
  · rw [hK _ _ (by omega)]; simp [dBand, dR_mk, dSt_mk, zu_at]; exact dsg k hk
  · rw [hK _ _ (by omega), hK _ _ (by omega), hK _ _ (by omega)]; simp [dBand, dR_mk, dSt_mk, zu_at]; exact dkn k hk
  · rw [hK _ _ (by omega), hK _ _ (by omega), hK _ _ (by omega)]; exact dlw k hk
  · rw [hK _ _ (by omega)]; exact dto k hk
  · rw [hK _ _ (by omega)]; exact dbo k
theorem zDr_sign (hD : zDr J D) (hK : zKpt (fun i k => (i = 87 ∧ (k = 11 ∨ k = 22)) ∨ (i = 101 ∧ k = 4 + dNg D)) J J') (h0 : J' 87 22 = nI (dNg D + 1)) (h1 : J' 101 (4 + dNg D) = nm) : zDr J' (dSign D nm) := by
  obtain ⟨⟨c18, c19, c20, c21, c22, c23, c49⟩, dp, dc, dsk, dbd, dst, dsg, dkn, dlw, dto, dbo, dfl⟩ := hD
  refine ⟨⟨by rw [hK _ _ (by omega)]; exact c18, by rw [hK _ _ (by omega)]; exact c19, by rw [hK _ _ (by omega)]; exact c20, by rw [hK _ _ (by omega)]; exact c21, h0, by rw [hK _ _ (by omega)]; exact c23, by rw [hK _ _ (by omega)]; exact c49⟩, fun k hk => ?_, fun k hk => ?_, fun k hk => ?_, fun k hk => ?_, fun k hk => ?_, fun k hk => ?_, fun k hk => ?_, fun k hk => ?_, fun k hk => ?_, fun k => ?_, ⟨by rw [hK _ _ (by omega)]; exact dfl.1, by rw [hK _ _ (by omega)]; exact dfl.2⟩⟩
  · rw [hK _ _ (by omega), hK _ _ (by omega), hK _ _ (by omega), hK _ _ (by omega)]; simp [dSign, dR_mk, dSt_mk, zu_at]; exact dp k hk
  · rw [hK _ _ (by omega), hK _ _ (by omega)]; simp [dSign, dR_mk, dSt_mk, zu_at]; exact dc k hk
  · rw [hK _ _ (by omega), hK _ _ (by omega)]; simp [dSign, dR_mk, dSt_mk, zu_at]; exact dsk k hk
  · rw [hK _ _ (by omega), hK _ _ (by omega), hK _ _ (by omega)]; simp [dSign, dR_mk, dSt_mk, zu_at]; exact dbd k hk
  · rw [hK _ _ (by omega)]; simp [dSign, dR_mk, dSt_mk, zu_at]; exact dst k hk
  · have hk : k < dNg D + 1 := hk
    by_cases e : k = dNg D
    · subst e; simp [dSign, dR_mk, dSt_mk, zu_at, h1]
    · have := dsg k (by omega)
      rw [hK _ _ (by omega)]
      simp [dSign, dR_mk, dSt_mk, zu_at, e]; exact this
  · rw [hK _ _ (by omega), hK _ _ (by omega), hK _ _ (by omega)]; simp [dSign, dR_mk, dSt_mk, zu_at]; exact dkn k hk
  · rw [hK _ _ (by omega), hK _ _ (by omega), hK _ _ (by omega)]; exact dlw k hk
  · rw [hK _ _ (by omega)]; exact dto k hk
  · rw [hK _ _ (by omega)]; exact dbo k
theorem zDr_set (hD : zDr J D) (hK : zKpt (fun i k => (i = 87 ∧ k = 11) ∨ (i = 102 ∧ k = 16 + sIx j) ∨ (i = 103 ∧ k = sIx j)) J J') (hj : j < 7) (h0 : J' 103 (sIx j) = 1) (h1 : J' 102 (16 + sIx j) = nI v) : zDr J' (dSet D j v) := by
  obtain ⟨⟨c18, c19, c20, c21, c22, c23, c49⟩, dp, dc, dsk, dbd, dst, dsg, dkn, dlw, dto, dbo, dfl⟩ := hD
  refine ⟨⟨by rw [hK _ _ (by omega)]; exact c18, by rw [hK _ _ (by omega)]; exact c19, by rw [hK _ _ (by omega)]; exact c20, by rw [hK _ _ (by omega)]; exact c21, by rw [hK _ _ (by omega)]; exact c22, by rw [hK _ _ (by omega)]; exact c23, by rw [hK _ _ (by omega)]; exact c49⟩, fun k hk => ?_, fun k hk => ?_, fun k hk => ?_, fun k hk => ?_, fun k hk => ?_, fun k hk => ?_, fun k hk => ?_, fun k hk => ?_, fun k hk => ?_, fun k => ?_, ⟨by rw [hK _ _ (by omega)]; exact dfl.1, by rw [hK _ _ (by omega)]; exact dfl.2⟩⟩
  · rw [hK _ _ (by omega), hK _ _ (by omega), hK _ _ (by omega), hK _ _ (by omega)]; simp [dSet, dR_mk, dSt_mk, zu_at]; exact dp k hk
  · rw [hK _ _ (by omega), hK _ _ (by omega)]; simp [dSet, dR_mk, dSt_mk, zu_at]; exact dc k hk
  · rw [hK _ _ (by omega), hK _ _ (by omega)]; simp [dSet, dR_mk, dSt_mk, zu_at]; exact dsk k hk
  · rw [hK _ _ (by omega), hK _ _ (by omega), hK _ _ (by omega)]; simp [dSet, dR_mk, dSt_mk, zu_at]; exact dbd k hk
  · by_cases e : k = j
    · subst e; simp [dSet, dR_mk, dSt_mk, zu_at, h1]
    · have e2 : ¬ sIx k = sIx j := fun z => e (sIx_inj k hk j hj z)
      rw [hK _ _ (by omega)]; simp [dSet, dR_mk, dSt_mk, zu_at, e2]; exact dst k hk
  · rw [hK _ _ (by omega)]; simp [dSet, dR_mk, dSt_mk, zu_at]; exact dsg k hk
  · rw [hK _ _ (by omega), hK _ _ (by omega), hK _ _ (by omega)]; simp [dSet, dR_mk, dSt_mk, zu_at]; exact dkn k hk
  · rw [hK _ _ (by omega), hK _ _ (by omega), hK _ _ (by omega)]; exact dlw k hk
  · by_cases e : k = j
    · subst e; simp [dSet, dR_mk, dSt_mk, h0, zb1]
    · have e2 : ¬ sIx k = sIx j := fun z => e (sIx_inj k hk j hj z)
      rw [hK _ _ (by omega)]; simp [dSet, dR_mk, dSt_mk, e]; exact dto k hk
  · rw [hK _ _ (by omega)]; exact dbo k
end ZN98w
