/-! ===== TEXT: formulas and laws in the class, whole ===== -/
section ZN98zc
variable {w : zP} {Q : Option Value → zMem → Prop} {μ : zMem} {I J J' : Nat → Nat → Int32} {L K : Nat → Nat → Int64} {p s : Nat} {r : Option Nat} {a b c i j k n e m lo hi l F : Nat} {x y v : Int32} {E : oEn} {t u : oTk} {D : oDf} {ws hd hd' : List Nat} {R R0 : Nat → Nat → Int32} {X : oFx} {S S' : oFm} {f g f' g' : Nat → Int32} {w' : Bool}
theorem fSum_ok : ∀ (n : Nat) (t : oTk) (S : oFm) (wb : Bool) {t' : oTk} {S' : oFm}, FOk F R0 S wb → fSum E n t S wb = .inr (t', S') → FOk F R0 S' false ∧ S'.1 = []
  | 0, t, S, wb, t', S', _, h => by cases h
  | n + 1, t, S, wb, t', S', hS, h => by
    unfold fSum at h
    split at h
    · rename_i hc
      cases h
      rw [hc.2.1] at hS
      exact ⟨fBind_ok (by omega) _ _ hS, fBind_all hc.2.2 hS.2.2.2.2.2.2.1⟩
    · cases wb with
      | true =>
        rw [if_pos rfl] at h
        cases hl : fLeaf t S with
        | inl q => rw [hl] at h; cases h
        | inr q =>
          obtain ⟨S1, w1⟩ := q
          rw [hl] at h
          exact fSum_ok n _ S1 w1 (fLeaf_ok hS hl) h
      | false =>
        rw [if_neg (by decide)] at h
        cases hl : fSign t S with
        | inl q => rw [hl] at h; cases h
        | inr q =>
          obtain ⟨S1, w1⟩ := q
          rw [hl] at h
          exact fSum_ok n _ S1 w1 (fSign_ok hS hl) h
set_option maxRecDepth 20000 in
theorem cl_formLoop (hok : zOk w) (hs : zPc s) : ∀ (n q : Nat) (t : oTk) (S : oFm) (wb : Bool) (J : Nat → Nat → Int32), q + n = 700 → zEc J E → tOk E t → zFc J s S → FOk F R0 S wb → (∀ f J' t', fSum E n t S wb = .inl f → zKpt (SPs s) J J' → J' 4 10 = nI f.1 → J' 4 11 = nI f.2 → Q (some (.int 0)) (SH, zTs J' t', L, RF p s (some s))) → (∀ t' S' J', fSum E n t S wb = .inr (t', S') → zKpt (SFc s) J J' → zFc J' s S' → Q (some (.int 1)) (SH, zTs J' t', L, RF p s (some s))) → zX w mX5_readFormula rX5_readFormula Q 0 0 14 [(0, Value.ref 4), (1, Value.int (zb1 wb)), (2, Value.int (nI q))] [] (SH, zTs J t, L, RF p s (some s)) := by
  intro n
  have s8 : 8 < s := by rcases hs with rfl | rfl <;> omega
  induction n with
  | zero =>
    intro q t S wb J hq hE ht hJ hS hF hG
    have z : ((700 : Int32) ≤ nI q) = True := eq_true (by rw [show (700 : Int32) = nI 700 from rfl, zle_nat (by omega) (by omega)]; omega)
    refine zBlkR (M := mX5_readFormula) (nL := 4) (rt := (Option.some .boolean)) (blk := bX5_readFormula_14) (T := [(62, bX5_readFormula_62), (81, bX5_readFormula_81), (115, bX5_readFormula_115)]) 2 hX5_readFormula_14 (zChks_cons hX5_readFormula_62 (zChks_cons hX5_readFormula_81 (zChks_cons hX5_readFormula_115 zChks_nil))) rfl rfl rfl (Nat.le_of_ble_eq_true rfl) (Nat.le_of_ble_eq_true rfl) ?_
    simp (implicitDefEqProofs := false) only [bX5_readFormula_14, bX5_readFormula_62, bX5_readFormula_81, bX5_readFormula_115, zRun_cons, zRun_nil, zLk, zSto, zIns, zFil, zf0, zf1, zf2, zf3, List.filter_cons, List.filter_nil, Nat.reduceAdd, Nat.reduceEqDiff, Nat.reduceLT, Nat.reduceLeDiff, Nat.reduceBEq, Nat.reduceBNe, reduceIte, if_true, if_false, Bool.false_and, Bool.true_and, Bool.and_true, Bool.and_false, Bool.not_false, Bool.not_true, Bool.false_eq_true, beq_self_eq_true, BEq.rfl, zCat1, zCat2, zCat3, zKdI, zKdL, zKdR, true_and, and_true, zSI, zSL, zSR, zu_at, and_self, and_false, false_and, lv_args, zKdZ, zKdO, zB01, zB11, Option.toList_none, Option.toList_some, List.nil_append, List.cons_append, true_or, or_true, zRow_rd, zu_rd, zo_iload_n, zo_sipush, zo_icmp_ge, zo_aload_n, zo_getfield, zo_istore_n, zo_if_eq, zo_iconst, zo_icmp_ne, zo_if_ne, zs_700, zi_4, zi_0, zi_1, zKd_5_0, zKd_7_6, zKd_5_5, zcl_700, sh_4, rf_4_0, sh_1, zcl_4, zcl_0, zcl_1, zKn_s, zKn_0, zFind, z, zN10, zN01, not_true_eq_false, not_false_eq_true, false_implies, true_implies, implies_true, eq_self, nI_1, nI_40, nI_7, vz0, vz1, zb1_e0, zb1_n0]
    refine z_cV0 (M' := mX5_fail) (R' := rX5_fail) (i := 4) [.int 1] [] eX5_fail k5_78 (by decide +kernel : decode cX5_readFormula 117 = .ok (.invokevirtual 78, 3)) (Nat.le_of_ble_eq_true rfl) ⟨Nat.le_of_ble_eq_true rfl, Nat.le_of_ble_eq_true rfl, Nat.le_of_ble_eq_true rfl, Nat.le_of_ble_eq_true rfl, Nat.le_of_ble_eq_true rfl⟩ rfl rfl rfl sh_4 ?_
    refine cl_fail ?_
    refine zBlkR (M := mX5_readFormula) (nL := 4) (rt := (Option.some .boolean)) (blk := bX5_readFormula_120) (T := []) 0 hX5_readFormula_120 zChks_nil rfl rfl rfl (Nat.le_of_ble_eq_true rfl) (Nat.le_of_ble_eq_true rfl) ?_
    simp (implicitDefEqProofs := false) only [bX5_readFormula_120, zRun_cons, zRun_nil, zLk, zSto, zIns, zFil, zf0, zf1, zf2, zf3, List.filter_cons, List.filter_nil, Nat.reduceAdd, Nat.reduceEqDiff, Nat.reduceLT, Nat.reduceLeDiff, Nat.reduceBEq, Nat.reduceBNe, reduceIte, if_true, if_false, Bool.false_and, Bool.true_and, Bool.and_true, Bool.and_false, Bool.not_false, Bool.not_true, Bool.false_eq_true, beq_self_eq_true, BEq.rfl, zCat1, zCat2, zCat3, zKdI, zKdL, zKdR, true_and, and_true, zSI, zSL, zSR, zu_at, and_self, and_false, false_and, lv_args, zKdZ, zKdO, zB01, zB11, Option.toList_none, Option.toList_some, List.nil_append, List.cons_append, true_or, or_true, zRow_rd, zu_rd, zo_ireturn, zRt, zKn_0, zN10, zN01, not_true_eq_false, not_false_eq_true, false_implies, true_implies, implies_true, eq_self, nI_1, nI_40, nI_7, vz0, vz1, zb1_e0, zb1_n0]
    exact hF _ _ _ rfl ((zKpt_rfl.u (by unfold SPs; omega)).u (by unfold SPs; omega)) (by simp [zu_at]; rfl) (by simp [zu_at])
  | succ n ih =>
    intro q t S wb J hq hE ht hJ hS hF hG
    have z : ((700 : Int32) ≤ nI q) = False := eq_false (by rw [show (700 : Int32) = nI 700 from rfl, zle_nat (by omega) (by omega)]; omega)
    have hkd := ht.2.2.1
    have y46 : (nI t.2.2.1 = 46) = (t.2.2.1 = 46) := tK_eq (k := 46) ht (by omega)
    have y5 : (nI t.2.2.1 = 5) = (t.2.2.1 = 5) := tK_eq (k := 5) ht (by omega)
    have y4 : (nI t.2.2.1 = 4) = (t.2.2.1 = 4) := tK_eq (k := 4) ht (by omega)
    have y6 : (nI t.2.2.1 = 6) = (t.2.2.1 = 6) := tK_eq (k := 6) ht (by omega)
    have hg : fSum E (n + 1) t S wb = fSum E (n + 1) t S wb := rfl
    conv at hg => rhs; unfold fSum
    -- the next token, and round again
    have next : ∀ (S1 : oFm) (w1 : Bool) (J1 : Nat → Nat → Int32), zKpt (SFc s) J J1 → zFc J1 s S1 → FOk F R0 S1 w1 → fSum E (n + 1) t S wb = fSum E n (tNx E t) S1 w1 → zX w mX5_readFormula rX5_readFormula Q 0 0 106 [(0, Value.ref 4), (1, Value.int (zb1 w1)), (2, Value.int (nI q)), (3, Value.int (nI t.2.2.1))] [Value.ref 1] (SH, zTs J1 t, L, RF p s (some s)) := by
      intro S1 w1 J1 k1 hJ1 hS1 he
      have kk : zKpt (SPs s) J J1 := k1.mono (fun i k h => SFc_s h)
      refine z_cV0 (M' := mX7_advance) (R' := rX7_advance) (i := 1) [] [] eX7_advance k5_81 (by decide +kernel : decode cX5_readFormula 106 = .ok (.invokevirtual 81, 3)) (Nat.le_of_ble_eq_true rfl) ⟨Nat.le_of_ble_eq_true rfl, Nat.le_of_ble_eq_true rfl, Nat.le_of_ble_eq_true rfl, Nat.le_of_ble_eq_true rfl, Nat.le_of_ble_eq_true rfl⟩ rfl rfl rfl sh_1 ?_
      refine cl_adv (zEc_k hs kk hE) ht ?_
      refine zBlkR (M := mX5_readFormula) (nL := 4) (rt := (Option.some .boolean)) (blk := bX5_readFormula_109) (T := []) 0 hX5_readFormula_109 zChks_nil rfl rfl rfl (Nat.le_of_ble_eq_true rfl) (Nat.le_of_ble_eq_true rfl) ?_
      simp (implicitDefEqProofs := false) only [bX5_readFormula_109, zRun_cons, zRun_nil, zLk, zSto, zIns, zFil, zf0, zf1, zf2, zf3, List.filter_cons, List.filter_nil, Nat.reduceAdd, Nat.reduceEqDiff, Nat.reduceLT, Nat.reduceLeDiff, Nat.reduceBEq, Nat.reduceBNe, reduceIte, if_true, if_false, Bool.false_and, Bool.true_and, Bool.and_true, Bool.and_false, Bool.not_false, Bool.not_true, Bool.false_eq_true, beq_self_eq_true, BEq.rfl, zCat1, zCat2, zCat3, zKdI, zKdL, zKdR, true_and, and_true, zSI, zSL, zSR, zu_at, and_self, and_false, false_and, lv_args, zKdZ, zKdO, zB01, zB11, Option.toList_none, Option.toList_some, List.nil_append, List.cons_append, true_or, or_true, zRow_rd, zu_rd, zo_iinc, zo_goto, zi_1, zKn_0, nI_1, zN10, zN01, not_true_eq_false, not_false_eq_true, false_implies, true_implies, implies_true, eq_self, nI_1, nI_40, nI_7, vz0, vz1, zb1_e0, zb1_n0]
      refine zX.sub' (ih (q + 1) (tNx E t) S1 w1 J1 (by omega) (zEc_k hs kk hE) (tOk_nx ht) hJ1 hS1 (fun f J' t' h0 h1 h2 h3 => hF f J' t' (he.trans h0) (kk.trans h1) h2 h3) (fun t' S' J' h0 h1 h2 => hG t' S' J' (he.trans h0) (k1.trans h1) h2)) (by simp)
    obtain ⟨ws, hd, R, m, c⟩ := S
    cases wb with
    | true =>
      rw [if_neg (fun q => by cases q.2.1), if_pos rfl] at hg
      refine zBlkR (M := mX5_readFormula) (nL := 4) (rt := (Option.some .boolean)) (blk := bX5_readFormula_14) (T := [(62, bX5_readFormula_62), (81, bX5_readFormula_81), (115, bX5_readFormula_115)]) 2 hX5_readFormula_14 (zChks_cons hX5_readFormula_62 (zChks_cons hX5_readFormula_81 (zChks_cons hX5_readFormula_115 zChks_nil))) rfl rfl rfl (Nat.le_of_ble_eq_true rfl) (Nat.le_of_ble_eq_true rfl) ?_
      simp (implicitDefEqProofs := false) only [bX5_readFormula_14, bX5_readFormula_62, bX5_readFormula_81, bX5_readFormula_115, zRun_cons, zRun_nil, zLk, zSto, zIns, zFil, zf0, zf1, zf2, zf3, List.filter_cons, List.filter_nil, Nat.reduceAdd, Nat.reduceEqDiff, Nat.reduceLT, Nat.reduceLeDiff, Nat.reduceBEq, Nat.reduceBNe, reduceIte, if_true, if_false, Bool.false_and, Bool.true_and, Bool.and_true, Bool.and_false, Bool.not_false, Bool.not_true, Bool.false_eq_true, beq_self_eq_true, BEq.rfl, zCat1, zCat2, zCat3, zKdI, zKdL, zKdR, true_and, and_true, zSI, zSL, zSR, zu_at, and_self, and_false, false_and, lv_args, zKdZ, zKdO, zB01, zB11, Option.toList_none, Option.toList_some, List.nil_append, List.cons_append, true_or, or_true, zRow_rd, zu_rd, zo_iload_n, zo_sipush, zo_icmp_ge, zo_aload_n, zo_getfield, zo_istore_n, zo_if_eq, zo_iconst, zo_icmp_ne, zo_if_ne, zs_700, zi_4, zi_0, zi_1, zKd_5_0, zKd_7_6, zKd_5_5, zcl_700, sh_4, rf_4_0, sh_1, zcl_4, zcl_0, zcl_1, zKn_s, zKn_0, zFind, z, zb1_t, zTs_12, zTs_13, zTs_14, zTs_15, zTs_16, zTs_17, zTs_o, zTs_u, zN10, zN01, not_true_eq_false, not_false_eq_true, false_implies, true_implies, implies_true, eq_self, nI_1, nI_40, nI_7, vz0, vz1, zb1_e0, zb1_n0]
      refine z_cV0 (M' := mX5_readOperand) (R' := rX5_readOperand) (i := 4) [] [] eX5_readOperand k5_195 (by decide +kernel : decode cX5_readFormula 34 = .ok (.invokevirtual 195, 3)) (Nat.le_of_ble_eq_true rfl) ⟨Nat.le_of_ble_eq_true rfl, Nat.le_of_ble_eq_true rfl, Nat.le_of_ble_eq_true rfl, Nat.le_of_ble_eq_true rfl, Nat.le_of_ble_eq_true rfl⟩ rfl rfl rfl sh_4 ?_
      refine cl_readOperand hok hs ht hJ hS (fun f J1 h0 h1 h2 h3 => ?_) (fun S1 w1 J1 h0 h1 h2 => ?_)
      · rw [h0] at hg
        refine zBlkR (M := mX5_readFormula) (nL := 4) (rt := (Option.some .boolean)) (blk := bX5_readFormula_37) (T := [(42, bX5_readFormula_42), (53, bX5_readFormula_53), (57, bX5_readFormula_57), (58, bX5_readFormula_58), (102, bX5_readFormula_102)]) 4 hX5_readFormula_37 (zChks_cons hX5_readFormula_42 (zChks_cons hX5_readFormula_53 (zChks_cons hX5_readFormula_57 (zChks_cons hX5_readFormula_58 (zChks_cons hX5_readFormula_102 zChks_nil))))) rfl rfl rfl (Nat.le_of_ble_eq_true rfl) (Nat.le_of_ble_eq_true rfl) ?_
        simp (implicitDefEqProofs := false) only [bX5_readFormula_37, bX5_readFormula_42, bX5_readFormula_53, bX5_readFormula_57, bX5_readFormula_58, bX5_readFormula_102, zRun_cons, zRun_nil, zLk, zSto, zIns, zFil, zf0, zf1, zf2, zf3, List.filter_cons, List.filter_nil, Nat.reduceAdd, Nat.reduceEqDiff, Nat.reduceLT, Nat.reduceLeDiff, Nat.reduceBEq, Nat.reduceBNe, reduceIte, if_true, if_false, Bool.false_and, Bool.true_and, Bool.and_true, Bool.and_false, Bool.not_false, Bool.not_true, Bool.false_eq_true, beq_self_eq_true, BEq.rfl, zCat1, zCat2, zCat3, zKdI, zKdL, zKdR, true_and, and_true, zSI, zSL, zSR, zu_at, and_self, and_false, false_and, lv_args, zKdZ, zKdO, zB01, zB11, Option.toList_none, Option.toList_some, List.nil_append, List.cons_append, true_or, or_true, zRow_rd, zu_rd, zo_if_ne, zo_iconst, zo_ireturn, zo_iload_n, zo_bipush, zo_icmp_eq, zo_icmp_ne, zo_goto, zo_istore_n, zo_aload_n, zo_getfield, zi_0, zb_46, zi_5, zi_1, zKd_5_0, zcl_0, zcl_46, zcl_5, zcl_1, sh_4, rf_4_0, sh_1, zRt, zKn_s, zKn_0, zFind, zN10, zN01, not_true_eq_false, not_false_eq_true, false_implies, true_implies, implies_true, eq_self, nI_1, nI_40, nI_7, vz0, vz1, zb1_e0, zb1_n0]
        exact hF f J1 t hg h1 h2 h3
      · rw [h0] at hg
        have hw := fLeaf_w h0
        have key := next S1 w1 J1 h1 h2 (fLeaf_ok hS h0) hg
        rw [hw] at key
        by_cases k46 : t.2.2.1 = 46
        · have k46' : (t.2.2.1 = 46) = True := eq_true k46
          rw [decide_eq_true (Or.inl k46), zb1_t] at key
          refine zBlkR (M := mX5_readFormula) (nL := 4) (rt := (Option.some .boolean)) (blk := bX5_readFormula_37) (T := [(42, bX5_readFormula_42), (53, bX5_readFormula_53), (57, bX5_readFormula_57), (58, bX5_readFormula_58), (102, bX5_readFormula_102)]) 4 hX5_readFormula_37 (zChks_cons hX5_readFormula_42 (zChks_cons hX5_readFormula_53 (zChks_cons hX5_readFormula_57 (zChks_cons hX5_readFormula_58 (zChks_cons hX5_readFormula_102 zChks_nil))))) rfl rfl rfl (Nat.le_of_ble_eq_true rfl) (Nat.le_of_ble_eq_true rfl) ?_
          simp (implicitDefEqProofs := false) only [bX5_readFormula_37, bX5_readFormula_42, bX5_readFormula_53, bX5_readFormula_57, bX5_readFormula_58, bX5_readFormula_102, zRun_cons, zRun_nil, zLk, zSto, zIns, zFil, zf0, zf1, zf2, zf3, List.filter_cons, List.filter_nil, Nat.reduceAdd, Nat.reduceEqDiff, Nat.reduceLT, Nat.reduceLeDiff, Nat.reduceBEq, Nat.reduceBNe, reduceIte, if_true, if_false, Bool.false_and, Bool.true_and, Bool.and_true, Bool.and_false, Bool.not_false, Bool.not_true, Bool.false_eq_true, beq_self_eq_true, BEq.rfl, zCat1, zCat2, zCat3, zKdI, zKdL, zKdR, true_and, and_true, zSI, zSL, zSR, zu_at, and_self, and_false, false_and, lv_args, zKdZ, zKdO, zB01, zB11, Option.toList_none, Option.toList_some, List.nil_append, List.cons_append, true_or, or_true, zRow_rd, zu_rd, zo_if_ne, zo_iconst, zo_ireturn, zo_iload_n, zo_bipush, zo_icmp_eq, zo_icmp_ne, zo_goto, zo_istore_n, zo_aload_n, zo_getfield, zi_0, zb_46, zi_5, zi_1, zKd_5_0, zcl_0, zcl_46, zcl_5, zcl_1, sh_4, rf_4_0, sh_1, zRt, zKn_s, zKn_0, zFind, y46, k46', y5, zN10, zN01, not_true_eq_false, not_false_eq_true, false_implies, true_implies, implies_true, eq_self, nI_1, nI_40, nI_7, vz0, vz1, zb1_e0, zb1_n0]
          exact key
        · have k46' : (t.2.2.1 = 46) = False := eq_false k46
          by_cases k5 : t.2.2.1 = 5
          · have k5' : (t.2.2.1 = 5) = True := eq_true k5
            rw [decide_eq_true (Or.inr k5), zb1_t] at key
            refine zBlkR (M := mX5_readFormula) (nL := 4) (rt := (Option.some .boolean)) (blk := bX5_readFormula_37) (T := [(42, bX5_readFormula_42), (53, bX5_readFormula_53), (57, bX5_readFormula_57), (58, bX5_readFormula_58), (102, bX5_readFormula_102)]) 4 hX5_readFormula_37 (zChks_cons hX5_readFormula_42 (zChks_cons hX5_readFormula_53 (zChks_cons hX5_readFormula_57 (zChks_cons hX5_readFormula_58 (zChks_cons hX5_readFormula_102 zChks_nil))))) rfl rfl rfl (Nat.le_of_ble_eq_true rfl) (Nat.le_of_ble_eq_true rfl) ?_
            simp (implicitDefEqProofs := false) only [bX5_readFormula_37, bX5_readFormula_42, bX5_readFormula_53, bX5_readFormula_57, bX5_readFormula_58, bX5_readFormula_102, zRun_cons, zRun_nil, zLk, zSto, zIns, zFil, zf0, zf1, zf2, zf3, List.filter_cons, List.filter_nil, Nat.reduceAdd, Nat.reduceEqDiff, Nat.reduceLT, Nat.reduceLeDiff, Nat.reduceBEq, Nat.reduceBNe, reduceIte, if_true, if_false, Bool.false_and, Bool.true_and, Bool.and_true, Bool.and_false, Bool.not_false, Bool.not_true, Bool.false_eq_true, beq_self_eq_true, BEq.rfl, zCat1, zCat2, zCat3, zKdI, zKdL, zKdR, true_and, and_true, zSI, zSL, zSR, zu_at, and_self, and_false, false_and, lv_args, zKdZ, zKdO, zB01, zB11, Option.toList_none, Option.toList_some, List.nil_append, List.cons_append, true_or, or_true, zRow_rd, zu_rd, zo_if_ne, zo_iconst, zo_ireturn, zo_iload_n, zo_bipush, zo_icmp_eq, zo_icmp_ne, zo_goto, zo_istore_n, zo_aload_n, zo_getfield, zi_0, zb_46, zi_5, zi_1, zKd_5_0, zcl_0, zcl_46, zcl_5, zcl_1, sh_4, rf_4_0, sh_1, zRt, zKn_s, zKn_0, zFind, y46, k46', y5, k5', zN10, zN01, not_true_eq_false, not_false_eq_true, false_implies, true_implies, implies_true, eq_self, nI_1, nI_40, nI_7, vz0, vz1, zb1_e0, zb1_n0]
            exact key
          · have k5' : (t.2.2.1 = 5) = False := eq_false k5
            rw [decide_eq_false (fun q => q.elim k46 k5), zb1_f] at key
            refine zBlkR (M := mX5_readFormula) (nL := 4) (rt := (Option.some .boolean)) (blk := bX5_readFormula_37) (T := [(42, bX5_readFormula_42), (53, bX5_readFormula_53), (57, bX5_readFormula_57), (58, bX5_readFormula_58), (102, bX5_readFormula_102)]) 4 hX5_readFormula_37 (zChks_cons hX5_readFormula_42 (zChks_cons hX5_readFormula_53 (zChks_cons hX5_readFormula_57 (zChks_cons hX5_readFormula_58 (zChks_cons hX5_readFormula_102 zChks_nil))))) rfl rfl rfl (Nat.le_of_ble_eq_true rfl) (Nat.le_of_ble_eq_true rfl) ?_
            simp (implicitDefEqProofs := false) only [bX5_readFormula_37, bX5_readFormula_42, bX5_readFormula_53, bX5_readFormula_57, bX5_readFormula_58, bX5_readFormula_102, zRun_cons, zRun_nil, zLk, zSto, zIns, zFil, zf0, zf1, zf2, zf3, List.filter_cons, List.filter_nil, Nat.reduceAdd, Nat.reduceEqDiff, Nat.reduceLT, Nat.reduceLeDiff, Nat.reduceBEq, Nat.reduceBNe, reduceIte, if_true, if_false, Bool.false_and, Bool.true_and, Bool.and_true, Bool.and_false, Bool.not_false, Bool.not_true, Bool.false_eq_true, beq_self_eq_true, BEq.rfl, zCat1, zCat2, zCat3, zKdI, zKdL, zKdR, true_and, and_true, zSI, zSL, zSR, zu_at, and_self, and_false, false_and, lv_args, zKdZ, zKdO, zB01, zB11, Option.toList_none, Option.toList_some, List.nil_append, List.cons_append, true_or, or_true, zRow_rd, zu_rd, zo_if_ne, zo_iconst, zo_ireturn, zo_iload_n, zo_bipush, zo_icmp_eq, zo_icmp_ne, zo_goto, zo_istore_n, zo_aload_n, zo_getfield, zi_0, zb_46, zi_5, zi_1, zKd_5_0, zcl_0, zcl_46, zcl_5, zcl_1, sh_4, rf_4_0, sh_1, zRt, zKn_s, zKn_0, zFind, y46, k46', y5, k5', zN10, zN01, not_true_eq_false, not_false_eq_true, false_implies, true_implies, implies_true, eq_self, nI_1, nI_40, nI_7, vz0, vz1, zb1_e0, zb1_n0]
            exact key
    | false =>
      obtain ⟨j1, j2, j3, j4, j5, j6⟩ := id hJ
      simp only at j1 j2 j3 j4 j5 j6
      have o3 := hS.2.2.1
      simp only at o3
      have zb : (nI (brk ws) = 0) = (brk ws = 0) := zeq_nat (b := 0) (by omega) (by omega)
      -- a joint
      have go81 : ¬ (tKd t = 4 ∧ brk ws = 0) → zX w mX5_readFormula rX5_readFormula Q 0 0 81 [(0, Value.ref 4), (1, Value.int 0), (2, Value.int (nI q)), (3, Value.int (nI t.2.2.1))] [] (SH, zTs J t, L, RF p s (some s)) := by
        intro hno
        rw [if_neg (fun q => hno ⟨q.1, q.2.2⟩), if_neg (by decide)] at hg
        refine zBlkR (M := mX5_readFormula) (nL := 4) (rt := (Option.some .boolean)) (blk := bX5_readFormula_81) (T := []) 0 hX5_readFormula_81 zChks_nil rfl rfl rfl (Nat.le_of_ble_eq_true rfl) (Nat.le_of_ble_eq_true rfl) ?_
        simp (implicitDefEqProofs := false) only [bX5_readFormula_81, zRun_cons, zRun_nil, zLk, zSto, zIns, zFil, zf0, zf1, zf2, zf3, List.filter_cons, List.filter_nil, Nat.reduceAdd, Nat.reduceEqDiff, Nat.reduceLT, Nat.reduceLeDiff, Nat.reduceBEq, Nat.reduceBNe, reduceIte, if_true, if_false, Bool.false_and, Bool.true_and, Bool.and_true, Bool.and_false, Bool.not_false, Bool.not_true, Bool.false_eq_true, beq_self_eq_true, BEq.rfl, zCat1, zCat2, zCat3, zKdI, zKdL, zKdR, true_and, and_true, zSI, zSL, zSR, zu_at, and_self, and_false, false_and, lv_args, zKdZ, zKdO, zB01, zB11, Option.toList_none, Option.toList_some, List.nil_append, List.cons_append, true_or, or_true, zRow_rd, zu_rd, zo_aload_n, zKn_0, zN10, zN01, not_true_eq_false, not_false_eq_true, false_implies, true_implies, implies_true, eq_self, nI_1, nI_40, nI_7, vz0, vz1, zb1_e0, zb1_n0]
        refine z_cV0 (M' := mX5_readJoint) (R' := rX5_readJoint) (i := 4) [] [] eX5_readJoint k5_201 (by decide +kernel : decode cX5_readFormula 82 = .ok (.invokevirtual 201, 3)) (Nat.le_of_ble_eq_true rfl) ⟨Nat.le_of_ble_eq_true rfl, Nat.le_of_ble_eq_true rfl, Nat.le_of_ble_eq_true rfl, Nat.le_of_ble_eq_true rfl, Nat.le_of_ble_eq_true rfl⟩ rfl rfl rfl sh_4 ?_
        refine cl_readJoint hok hs ht hJ hS (fun f J1 h0 h1 h2 h3 => ?_) (fun S1 w1 J1 h0 h1 h2 => ?_)
        · rw [h0] at hg
          refine zBlkR (M := mX5_readFormula) (nL := 4) (rt := (Option.some .boolean)) (blk := bX5_readFormula_85) (T := [(90, bX5_readFormula_90), (100, bX5_readFormula_100), (101, bX5_readFormula_101)]) 2 hX5_readFormula_85 (zChks_cons hX5_readFormula_90 (zChks_cons hX5_readFormula_100 (zChks_cons hX5_readFormula_101 zChks_nil))) rfl rfl rfl (Nat.le_of_ble_eq_true rfl) (Nat.le_of_ble_eq_true rfl) ?_
          simp (implicitDefEqProofs := false) only [bX5_readFormula_85, bX5_readFormula_90, bX5_readFormula_100, bX5_readFormula_101, zRun_cons, zRun_nil, zLk, zSto, zIns, zFil, zf0, zf1, zf2, zf3, List.filter_cons, List.filter_nil, Nat.reduceAdd, Nat.reduceEqDiff, Nat.reduceLT, Nat.reduceLeDiff, Nat.reduceBEq, Nat.reduceBNe, reduceIte, if_true, if_false, Bool.false_and, Bool.true_and, Bool.and_true, Bool.and_false, Bool.not_false, Bool.not_true, Bool.false_eq_true, beq_self_eq_true, BEq.rfl, zCat1, zCat2, zCat3, zKdI, zKdL, zKdR, true_and, and_true, zSI, zSL, zSR, zu_at, and_self, and_false, false_and, lv_args, zKdZ, zKdO, zB01, zB11, Option.toList_none, Option.toList_some, List.nil_append, List.cons_append, true_or, or_true, zRow_rd, zu_rd, zo_if_ne, zo_iconst, zo_ireturn, zo_iload_n, zo_bipush, zo_icmp_eq, zo_goto, zo_istore_n, zo_aload_n, zo_getfield, zi_0, zb_6, zi_1, zKd_5_0, zcl_0, zcl_6, zcl_1, sh_4, rf_4_0, sh_1, zRt, zKn_s, zKn_0, zFind, zN10, zN01, not_true_eq_false, not_false_eq_true, false_implies, true_implies, implies_true, eq_self, nI_1, nI_40, nI_7, vz0, vz1, zb1_e0, zb1_n0]
          exact hF f J1 t hg h1 h2 h3
        · rw [h0] at hg
          have hw := fSign_w h0
          have key := next S1 w1 J1 h1 h2 (fSign_ok hS h0) hg
          rw [hw] at key
          by_cases k6 : t.2.2.1 = 6
          · have k6' : (t.2.2.1 = 6) = True := eq_true k6
            rw [show tKd t = 6 from k6] at key
            refine zBlkR (M := mX5_readFormula) (nL := 4) (rt := (Option.some .boolean)) (blk := bX5_readFormula_85) (T := [(90, bX5_readFormula_90), (100, bX5_readFormula_100), (101, bX5_readFormula_101)]) 2 hX5_readFormula_85 (zChks_cons hX5_readFormula_90 (zChks_cons hX5_readFormula_100 (zChks_cons hX5_readFormula_101 zChks_nil))) rfl rfl rfl (Nat.le_of_ble_eq_true rfl) (Nat.le_of_ble_eq_true rfl) ?_
            simp (implicitDefEqProofs := false) only [bX5_readFormula_85, bX5_readFormula_90, bX5_readFormula_100, bX5_readFormula_101, zRun_cons, zRun_nil, zLk, zSto, zIns, zFil, zf0, zf1, zf2, zf3, List.filter_cons, List.filter_nil, Nat.reduceAdd, Nat.reduceEqDiff, Nat.reduceLT, Nat.reduceLeDiff, Nat.reduceBEq, Nat.reduceBNe, reduceIte, if_true, if_false, Bool.false_and, Bool.true_and, Bool.and_true, Bool.and_false, Bool.not_false, Bool.not_true, Bool.false_eq_true, beq_self_eq_true, BEq.rfl, zCat1, zCat2, zCat3, zKdI, zKdL, zKdR, true_and, and_true, zSI, zSL, zSR, zu_at, and_self, and_false, false_and, lv_args, zKdZ, zKdO, zB01, zB11, Option.toList_none, Option.toList_some, List.nil_append, List.cons_append, true_or, or_true, zRow_rd, zu_rd, zo_if_ne, zo_iconst, zo_ireturn, zo_iload_n, zo_bipush, zo_icmp_eq, zo_goto, zo_istore_n, zo_aload_n, zo_getfield, zi_0, zb_6, zi_1, zKd_5_0, zcl_0, zcl_6, zcl_1, sh_4, rf_4_0, sh_1, zRt, zKn_s, zKn_0, zFind, y6, k6', zN10, zN01, not_true_eq_false, not_false_eq_true, false_implies, true_implies, implies_true, eq_self, nI_1, nI_40, nI_7, vz0, vz1, zb1_e0, zb1_n0]
            exact key
          · have k6' : (t.2.2.1 = 6) = False := eq_false k6
            rw [decide_eq_false (show ¬ tKd t = 6 from k6)] at key
            refine zBlkR (M := mX5_readFormula) (nL := 4) (rt := (Option.some .boolean)) (blk := bX5_readFormula_85) (T := [(90, bX5_readFormula_90), (100, bX5_readFormula_100), (101, bX5_readFormula_101)]) 2 hX5_readFormula_85 (zChks_cons hX5_readFormula_90 (zChks_cons hX5_readFormula_100 (zChks_cons hX5_readFormula_101 zChks_nil))) rfl rfl rfl (Nat.le_of_ble_eq_true rfl) (Nat.le_of_ble_eq_true rfl) ?_
            simp (implicitDefEqProofs := false) only [bX5_readFormula_85, bX5_readFormula_90, bX5_readFormula_100, bX5_readFormula_101, zRun_cons, zRun_nil, zLk, zSto, zIns, zFil, zf0, zf1, zf2, zf3, List.filter_cons, List.filter_nil, Nat.reduceAdd, Nat.reduceEqDiff, Nat.reduceLT, Nat.reduceLeDiff, Nat.reduceBEq, Nat.reduceBNe, reduceIte, if_true, if_false, Bool.false_and, Bool.true_and, Bool.and_true, Bool.and_false, Bool.not_false, Bool.not_true, Bool.false_eq_true, beq_self_eq_true, BEq.rfl, zCat1, zCat2, zCat3, zKdI, zKdL, zKdR, true_and, and_true, zSI, zSL, zSR, zu_at, and_self, and_false, false_and, lv_args, zKdZ, zKdO, zB01, zB11, Option.toList_none, Option.toList_some, List.nil_append, List.cons_append, true_or, or_true, zRow_rd, zu_rd, zo_if_ne, zo_iconst, zo_ireturn, zo_iload_n, zo_bipush, zo_icmp_eq, zo_goto, zo_istore_n, zo_aload_n, zo_getfield, zi_0, zb_6, zi_1, zKd_5_0, zcl_0, zcl_6, zcl_1, sh_4, rf_4_0, sh_1, zRt, zKn_s, zKn_0, zFind, y6, k6', zN10, zN01, not_true_eq_false, not_false_eq_true, false_implies, true_implies, implies_true, eq_self, nI_1, nI_40, nI_7, vz0, vz1, zb1_e0, zb1_n0]
            exact key
      by_cases k4 : t.2.2.1 = 4
      · have k4' : (t.2.2.1 = 4) = True := eq_true k4
        by_cases hb : brk ws = 0
        · have hb' : (brk ws = 0) = True := eq_true hb
          rw [if_pos ⟨k4, rfl, hb⟩] at hg
          refine zBlkR (M := mX5_readFormula) (nL := 4) (rt := (Option.some .boolean)) (blk := bX5_readFormula_14) (T := [(62, bX5_readFormula_62), (115, bX5_readFormula_115)]) 1 hX5_readFormula_14 (zChks_cons hX5_readFormula_62 (zChks_cons hX5_readFormula_115 zChks_nil)) rfl rfl rfl (Nat.le_of_ble_eq_true rfl) (Nat.le_of_ble_eq_true rfl) ?_
          simp (implicitDefEqProofs := false) only [bX5_readFormula_14, bX5_readFormula_62, bX5_readFormula_115, zRun_cons, zRun_nil, zLk, zSto, zIns, zFil, zf0, zf1, zf2, zf3, List.filter_cons, List.filter_nil, Nat.reduceAdd, Nat.reduceEqDiff, Nat.reduceLT, Nat.reduceLeDiff, Nat.reduceBEq, Nat.reduceBNe, reduceIte, if_true, if_false, Bool.false_and, Bool.true_and, Bool.and_true, Bool.and_false, Bool.not_false, Bool.not_true, Bool.false_eq_true, beq_self_eq_true, BEq.rfl, zCat1, zCat2, zCat3, zKdI, zKdL, zKdR, true_and, and_true, zSI, zSL, zSR, zu_at, and_self, and_false, false_and, lv_args, zKdZ, zKdO, zB01, zB11, Option.toList_none, Option.toList_some, List.nil_append, List.cons_append, true_or, or_true, zRow_rd, zu_rd, zo_iload_n, zo_sipush, zo_icmp_ge, zo_aload_n, zo_getfield, zo_istore_n, zo_if_eq, zo_iconst, zo_icmp_ne, zo_if_ne, zs_700, zi_4, zi_0, zi_1, zKd_5_0, zKd_7_6, zKd_5_5, zcl_700, sh_4, rf_4_0, sh_1, zcl_4, zcl_0, zcl_1, zKn_s, zKn_0, zFind, z, zb1_f, zTs_12, zTs_13, zTs_14, zTs_15, zTs_16, zTs_17, zTs_o, zTs_u, y4, k4', j2, zb, hb', zN10, zN01, not_true_eq_false, not_false_eq_true, false_implies, true_implies, implies_true, eq_self, nI_1, nI_40, nI_7, vz0, vz1, zb1_e0, zb1_n0]
          refine z_cV0 (M' := mX5_writeJoints) (R' := rX5_writeJoints) (i := 4) [.int (nI (1 - 1))] [] eX5_writeJoints k5_198 (by decide +kernel : decode cX5_readFormula 76 = .ok (.invokevirtual 198, 3)) (Nat.le_of_ble_eq_true rfl) ⟨Nat.le_of_ble_eq_true rfl, Nat.le_of_ble_eq_true rfl, Nat.le_of_ble_eq_true rfl, Nat.le_of_ble_eq_true rfl, Nat.le_of_ble_eq_true rfl⟩ rfl rfl rfl sh_4 ?_
          refine cl_wrJ (l := 1) hs (by omega) (by omega) hS hJ (fun J1 k1 hJ1 => ?_)
          refine zBlkR (M := mX5_readFormula) (nL := 4) (rt := (Option.some .boolean)) (blk := bX5_readFormula_79) (T := []) 0 hX5_readFormula_79 zChks_nil rfl rfl rfl (Nat.le_of_ble_eq_true rfl) (Nat.le_of_ble_eq_true rfl) ?_
          simp (implicitDefEqProofs := false) only [bX5_readFormula_79, zRun_cons, zRun_nil, zLk, zSto, zIns, zFil, zf0, zf1, zf2, zf3, List.filter_cons, List.filter_nil, Nat.reduceAdd, Nat.reduceEqDiff, Nat.reduceLT, Nat.reduceLeDiff, Nat.reduceBEq, Nat.reduceBNe, reduceIte, if_true, if_false, Bool.false_and, Bool.true_and, Bool.and_true, Bool.and_false, Bool.not_false, Bool.not_true, Bool.false_eq_true, beq_self_eq_true, BEq.rfl, zCat1, zCat2, zCat3, zKdI, zKdL, zKdR, true_and, and_true, zSI, zSL, zSR, zu_at, and_self, and_false, false_and, lv_args, zKdZ, zKdO, zB01, zB11, Option.toList_none, Option.toList_some, List.nil_append, List.cons_append, true_or, or_true, zRow_rd, zu_rd, zo_iconst, zo_ireturn, zi_1, zcl_1, zRt, zKn_0, zN10, zN01, not_true_eq_false, not_false_eq_true, false_implies, true_implies, implies_true, eq_self, nI_1, nI_40, nI_7, vz0, vz1, zb1_e0, zb1_n0]
          exact hG _ _ _ hg k1 hJ1
        · have hb' : (brk ws = 0) = False := eq_false hb
          have key := go81 (fun q => hb q.2)
          refine zBlkR (M := mX5_readFormula) (nL := 4) (rt := (Option.some .boolean)) (blk := bX5_readFormula_14) (T := [(62, bX5_readFormula_62), (115, bX5_readFormula_115)]) 1 hX5_readFormula_14 (zChks_cons hX5_readFormula_62 (zChks_cons hX5_readFormula_115 zChks_nil)) rfl rfl rfl (Nat.le_of_ble_eq_true rfl) (Nat.le_of_ble_eq_true rfl) ?_
          simp (implicitDefEqProofs := false) only [bX5_readFormula_14, bX5_readFormula_62, bX5_readFormula_115, zRun_cons, zRun_nil, zLk, zSto, zIns, zFil, zf0, zf1, zf2, zf3, List.filter_cons, List.filter_nil, Nat.reduceAdd, Nat.reduceEqDiff, Nat.reduceLT, Nat.reduceLeDiff, Nat.reduceBEq, Nat.reduceBNe, reduceIte, if_true, if_false, Bool.false_and, Bool.true_and, Bool.and_true, Bool.and_false, Bool.not_false, Bool.not_true, Bool.false_eq_true, beq_self_eq_true, BEq.rfl, zCat1, zCat2, zCat3, zKdI, zKdL, zKdR, true_and, and_true, zSI, zSL, zSR, zu_at, and_self, and_false, false_and, lv_args, zKdZ, zKdO, zB01, zB11, Option.toList_none, Option.toList_some, List.nil_append, List.cons_append, true_or, or_true, zRow_rd, zu_rd, zo_iload_n, zo_sipush, zo_icmp_ge, zo_aload_n, zo_getfield, zo_istore_n, zo_if_eq, zo_iconst, zo_icmp_ne, zo_if_ne, zs_700, zi_4, zi_0, zi_1, zKd_5_0, zKd_7_6, zKd_5_5, zcl_700, sh_4, rf_4_0, sh_1, zcl_4, zcl_0, zcl_1, zKn_s, zKn_0, zFind, z, zb1_f, zTs_12, zTs_13, zTs_14, zTs_15, zTs_16, zTs_17, zTs_o, zTs_u, y4, k4', j2, zb, hb', zN10, zN01, not_true_eq_false, not_false_eq_true, false_implies, true_implies, implies_true, eq_self, nI_1, nI_40, nI_7, vz0, vz1, zb1_e0, zb1_n0]
          exact key
      · have k4' : (t.2.2.1 = 4) = False := eq_false k4
        have key := go81 (fun q => k4 q.1)
        refine zBlkR (M := mX5_readFormula) (nL := 4) (rt := (Option.some .boolean)) (blk := bX5_readFormula_14) (T := [(62, bX5_readFormula_62), (115, bX5_readFormula_115)]) 1 hX5_readFormula_14 (zChks_cons hX5_readFormula_62 (zChks_cons hX5_readFormula_115 zChks_nil)) rfl rfl rfl (Nat.le_of_ble_eq_true rfl) (Nat.le_of_ble_eq_true rfl) ?_
        simp (implicitDefEqProofs := false) only [bX5_readFormula_14, bX5_readFormula_62, bX5_readFormula_115, zRun_cons, zRun_nil, zLk, zSto, zIns, zFil, zf0, zf1, zf2, zf3, List.filter_cons, List.filter_nil, Nat.reduceAdd, Nat.reduceEqDiff, Nat.reduceLT, Nat.reduceLeDiff, Nat.reduceBEq, Nat.reduceBNe, reduceIte, if_true, if_false, Bool.false_and, Bool.true_and, Bool.and_true, Bool.and_false, Bool.not_false, Bool.not_true, Bool.false_eq_true, beq_self_eq_true, BEq.rfl, zCat1, zCat2, zCat3, zKdI, zKdL, zKdR, true_and, and_true, zSI, zSL, zSR, zu_at, and_self, and_false, false_and, lv_args, zKdZ, zKdO, zB01, zB11, Option.toList_none, Option.toList_some, List.nil_append, List.cons_append, true_or, or_true, zRow_rd, zu_rd, zo_iload_n, zo_sipush, zo_icmp_ge, zo_aload_n, zo_getfield, zo_istore_n, zo_if_eq, zo_iconst, zo_icmp_ne, zo_if_ne, zs_700, zi_4, zi_0, zi_1, zKd_5_0, zKd_7_6, zKd_5_5, zcl_700, sh_4, rf_4_0, sh_1, zcl_4, zcl_0, zcl_1, zKn_s, zKn_0, zFind, z, zb1_f, zTs_12, zTs_13, zTs_14, zTs_15, zTs_16, zTs_17, zTs_o, zTs_u, y4, k4', zN10, zN01, not_true_eq_false, not_false_eq_true, false_implies, true_implies, implies_true, eq_self, nI_1, nI_40, nI_7, vz0, vz1, zb1_e0, zb1_n0]
        exact key
/-- a law's beginning -/
theorem FOk_0 (h : dNk D ≤ 64) : FOk (dNk D) (dR D) ([], [], dR D, dNk D, dNk D) true := by
  refine ⟨rfl, h, by show 0 ≤ 8; omega, Nat.le_refl _, ?_, rfl, (fun k hk => by cases hk), (fun q => by cases q), fun i h1 h2 => ?_, zKpt_rfl⟩
  · show jPos _ _ _ _ (dNk D - dNk D) = some []
    rw [Nat.sub_self]; rfl
  · simp only at h2; omega
theorem zDc_law (hs : zPc s) (hh : a < 3) (hD : zDc J s D) (hK : zKpt (fun i k => SFc s i k ∨ ((i = s + 14 ∨ i = s + 15) ∧ k = a)) J J') (hJ : zFc J' s S) (hR : zKpt (fun i k => 107 ≤ i ∧ i ≤ 109 ∧ dNk D ≤ k) (dR D) S.2.2.1) (hn : S.2.2.2.1 = S.2.2.2.2) (h1 : J' (s + 14) a = nI (dNk D)) (h2 : J' (s + 15) a = nI S.2.2.2.1) : zDc J' s (dLaw D a S) := by
  obtain ⟨⟨d0, d5, d9, d14, d16, d46, d47⟩, dp, dc, dsk, dbd, dst, dsg, dcd, dlw, dto, dfl⟩ := hD
  have s4 : 8 < s := by rcases hs with rfl | rfl <;> omega
  obtain ⟨j1, j2, j3, j4, j5, j6⟩ := hJ
  have hKn : ∀ i k, ¬ ((i = 4 ∧ 4 ≤ k ∧ k ≤ 6) ∨ i = 6 ∨ i = 7 ∨ (i = s ∧ k = 16) ∨ i = s + 13 ∨ i = s + 14 ∨ i = s + 15) → J' i k = J i k := fun i k h => hK i k (by unfold SFc; omega)
  have hr : ∀ i, i ≠ 107 → i ≠ 108 → i ≠ 109 → S.2.2.1 i = dR D i := fun i g1 g2 g3 => funext fun k => hR i k (by omega)
  refine ⟨⟨by rw [hKn _ _ (by omega)]; exact d0, by rw [hKn _ _ (by omega)]; exact d5, by rw [hKn _ _ (by omega)]; exact d9, by rw [hKn _ _ (by omega)]; exact d14, j4, by rw [j3, hn]; rfl, by rw [hKn _ _ (by omega)]; exact d47⟩, fun k hk => ?_, fun k hk => ?_, fun k hk => ?_, fun k hk => ?_, fun k hk => ?_, fun k hk => ?_, fun k hk => ?_, fun k hk => ?_, fun k hk => ?_, ⟨by rw [hKn _ _ (by omega)]; exact dfl.1, by rw [hKn _ _ (by omega)]; exact dfl.2⟩⟩
  · rw [hKn _ _ (by omega), hKn _ _ (by omega), hKn _ _ (by omega), hKn _ _ (by omega)]
    show _ = S.2.2.1 90 k ∧ _ = S.2.2.1 91 k ∧ _ = S.2.2.1 92 k ∧ _ = S.2.2.1 93 k
    rw [hr 90 (by omega) (by omega) (by omega), hr 91 (by omega) (by omega) (by omega), hr 92 (by omega) (by omega) (by omega), hr 93 (by omega) (by omega) (by omega)]; exact dp k hk
  · rw [hKn _ _ (by omega), hKn _ _ (by omega)]
    show _ = S.2.2.1 94 k ∧ _ = S.2.2.1 95 k
    rw [hr 94 (by omega) (by omega) (by omega), hr 95 (by omega) (by omega) (by omega)]; exact dc k hk
  · rw [hKn _ _ (by omega)]
    show _ = oSkD (S.2.2.1 96) (S.2.2.1 97) (dNs D) k
    rw [hr 96 (by omega) (by omega) (by omega), hr 97 (by omega) (by omega) (by omega)]; exact dsk k hk
  · rw [hKn _ _ (by omega), hKn _ _ (by omega), hKn _ _ (by omega)]
    show _ = S.2.2.1 98 k ∧ _ = S.2.2.1 99 k ∧ _ = S.2.2.1 100 k
    rw [hr 98 (by omega) (by omega) (by omega), hr 99 (by omega) (by omega) (by omega), hr 100 (by omega) (by omega) (by omega)]; exact dbd k hk
  · rw [hKn _ _ (by omega)]
    show _ = S.2.2.1 102 (sIx k)
    rw [hr 102 (by omega) (by omega) (by omega)]; exact dst k hk
  · rw [hKn _ _ (by omega)]
    show _ = S.2.2.1 101 k
    rw [hr 101 (by omega) (by omega) (by omega)]; exact dsg k hk
  · exact j6 k (by rw [hn]; exact hk)
  · show J' (s + 14) k = (if (if k = a then true else dTold D k) = true then nI (if k = a then dNk D else dF D k) else -1) ∧ ((if k = a then true else dTold D k) = true → J' (s + 15) k = nI (if k = a then S.2.2.2.1 else dT D k))
    by_cases e : k = a
    · subst e; simp only [if_true]; exact ⟨h1, fun _ => h2⟩
    · simp only [e, if_false]
      rw [hK (s + 14) k (by unfold SFc; omega), hK (s + 15) k (by unfold SFc; omega)]; exact dlw k hk
  · rw [hKn _ _ (by omega)]; exact dto k hk
set_option maxRecDepth 20000 in
theorem cl_readLaw (hok : zOk w) (hs : zPc s) (hE : zEc J E) (ht : tOk E t) (hD : zDc J s D) (hO : DOk D)
    (hF : ∀ c a J' t', gLaw E D t = .inl (c, a) → zKpt (SPs s) J J' → J' 4 10 = nI c → J' 4 11 = nI a → Q (some (.int 0)) (SH, zTs J' t', L, RF p s (some s)))
    (hG : ∀ t' D' J', gLaw E D t = .inr (t', D') → zKpt (SPs s) J J' → zDc J' s D' → Q (some (.int 1)) (SH, zTs J' t', L, RF p s (some s))) : zXM w mX5_readLaw rX5_readLaw [.ref 4] (SH, zTs J t, L, RF p s (some s)) Q := by
  unfold zXM
  have s8 : 8 < s := by rcases hs with rfl | rfl <;> omega
  have ht1 := tOk_nx ht
  have hk1 := ht1.2.2.1
  have hg : gLaw E D t = gLaw E D t := rfl
  conv at hg => rhs; unfold gLaw
  refine zBlkR (M := mX5_readLaw) (nL := 2) (rt := (Option.some .boolean)) (blk := bX5_readLaw_0) (T := []) 0 hX5_readLaw_0 zChks_nil rfl rfl rfl (Nat.le_of_ble_eq_true rfl) (Nat.le_of_ble_eq_true rfl) ?_
  simp (implicitDefEqProofs := false) only [bX5_readLaw_0, zRun_cons, zRun_nil, zLk, zSto, zIns, zFil, zf0, zf1, zf2, zf3, List.filter_cons, List.filter_nil, Nat.reduceAdd, Nat.reduceEqDiff, Nat.reduceLT, Nat.reduceLeDiff, Nat.reduceBEq, Nat.reduceBNe, reduceIte, if_true, if_false, Bool.false_and, Bool.true_and, Bool.and_true, Bool.and_false, Bool.not_false, Bool.not_true, Bool.false_eq_true, beq_self_eq_true, BEq.rfl, zCat1, zCat2, zCat3, zKdI, zKdL, zKdR, true_and, and_true, zSI, zSL, zSR, zu_at, and_self, and_false, false_and, lv_args, zKdZ, zKdO, zB01, zB11, Option.toList_none, Option.toList_some, List.nil_append, List.cons_append, true_or, or_true, zRow_rd, zu_rd, zo_aload_n, zo_getfield, zKd_5_0, sh_4, rf_4_0, sh_1, zKn_0, zN10, zN01, not_true_eq_false, not_false_eq_true, false_implies, true_implies, implies_true, eq_self, nI_1, nI_40, nI_7, vz0, vz1, zb1_e0, zb1_n0]
  refine z_cV0 (M' := mX7_advance) (R' := rX7_advance) (i := 1) [] [] eX7_advance k5_81 (by decide +kernel : decode cX5_readLaw 4 = .ok (.invokevirtual 81, 3)) (Nat.le_of_ble_eq_true rfl) ⟨Nat.le_of_ble_eq_true rfl, Nat.le_of_ble_eq_true rfl, Nat.le_of_ble_eq_true rfl, Nat.le_of_ble_eq_true rfl, Nat.le_of_ble_eq_true rfl⟩ rfl rfl rfl sh_1 ?_
  refine cl_adv hE ht ?_
  by_cases h1 : 41 ≤ tKd (tNx E t) ∧ tKd (tNx E t) ≤ 43
  · rw [if_pos h1] at hg
    obtain ⟨h, hh⟩ : ∃ h, tKd (tNx E t) = h + 41 := ⟨tKd (tNx E t) - 41, by omega⟩
    have hh3 : h < 3 := by omega
    have ek : nI (tNx E t).2.2.1 - 41 = nI h := by rw [show (tNx E t).2.2.1 = h + 41 from hh, show (41 : Int32) = nI 41 from rfl, ← nI_add, Int32.add_sub_cancel]
    rw [hh, Nat.add_sub_cancel] at hg
    have z1 : (nI h < 0) = False := eq_false (nI_nn (by omega))
    have z2 : (nI h < 3) = True := eq_true (by rw [show (3 : Int32) = nI 3 from rfl, zlt_nat (by omega) (by omega)]; exact hh3)
    refine zBlkR (M := mX5_readLaw) (nL := 2) (rt := (Option.some .boolean)) (blk := bX5_readLaw_7) (T := [(27, bX5_readLaw_27), (33, bX5_readLaw_33)]) 1 hX5_readLaw_7 (zChks_cons hX5_readLaw_27 (zChks_cons hX5_readLaw_33 zChks_nil)) rfl rfl rfl (Nat.le_of_ble_eq_true rfl) (Nat.le_of_ble_eq_true rfl) ?_
    simp (implicitDefEqProofs := false) only [bX5_readLaw_7, bX5_readLaw_27, bX5_readLaw_33, zRun_cons, zRun_nil, zLk, zSto, zIns, zFil, zf0, zf1, zf2, zf3, List.filter_cons, List.filter_nil, Nat.reduceAdd, Nat.reduceEqDiff, Nat.reduceLT, Nat.reduceLeDiff, Nat.reduceBEq, Nat.reduceBNe, reduceIte, if_true, if_false, Bool.false_and, Bool.true_and, Bool.and_true, Bool.and_false, Bool.not_false, Bool.not_true, Bool.false_eq_true, beq_self_eq_true, BEq.rfl, zCat1, zCat2, zCat3, zKdI, zKdL, zKdR, true_and, and_true, zSI, zSL, zSR, zu_at, and_self, and_false, false_and, lv_args, zKdZ, zKdO, zB01, zB11, Option.toList_none, Option.toList_some, List.nil_append, List.cons_append, true_or, or_true, zRow_rd, zu_rd, zo_aload_n, zo_getfield, zo_bipush, zo_isub, zo_istore_n, zo_iload_n, zo_if_lt, zo_iconst, zo_icmp_lt, zb_41, zi_3, zi_1, zKd_5_0, zKd_7_6, zKd_5_8, sh_4, rf_4_0, sh_1, zcl_41, zcl_3, zcl_1, rf_4_8, zKn_s, zKn_0, zFind, (psh_0 hs), (psh_1 hs), (psh_2 hs), (psh_3 hs), (psh_4 hs), (psh_5 hs), (psh_6 hs), (psh_7 hs), (psh_8 hs), (psh_9 hs), (psh_10 hs), (psh_11 hs), (psh_12 hs), (psh_13 hs), (psh_14 hs), (psh_15 hs), (prf_1 hs), (prf_2 hs), (prf_3 hs), (prf_4 hs), (prf_6 hs), (prf_7 hs), (prf_8 hs), (prf_10 hs), (prf_11 hs), (prf_12 hs), (prf_13 hs), (prf_15 hs), (prf_17 hs), (prf_18 hs), (prf_19 hs), Nat.add_left_cancel_iff, Nat.left_eq_add, Nat.add_eq_left, (zpn_0 hs), (zpn_1 hs), (zpn_2 hs), (zpn_3 hs), (zpn_4 hs), (zpn_5 hs), (zpn_6 hs), (zpn_7 hs), zTs_12, zTs_13, zTs_14, zTs_15, zTs_16, zTs_17, zTs_o, zTs_u, ek, z1, z2, zN10, zN01, not_true_eq_false, not_false_eq_true, false_implies, true_implies, implies_true, eq_self, nI_1, nI_40, nI_7, vz0, vz1, zb1_e0, zb1_n0]
    refine z_cV0 (M' := mX4_hasLaw) (R' := rX4_hasLaw) (i := s) [.int (nI h)] [] eX4_hasLaw k5_177 (by decide +kernel : decode cX5_readLaw 38 = .ok (.invokevirtual 177, 3)) (Nat.le_of_ble_eq_true rfl) ⟨Nat.le_of_ble_eq_true rfl, Nat.le_of_ble_eq_true rfl, Nat.le_of_ble_eq_true rfl, Nat.le_of_ble_eq_true rfl, Nat.le_of_ble_eq_true rfl⟩ rfl rfl rfl (psh_0 hs) ?_
    refine cl_hasLaw hs hh3 ?_
    have dl := (hD.2.2.2.2.2.2.2.2.1 h hh3).1
    have eb : (!decide (zTs J (tNx E t) (s + 14) h = -1)) = dTold D h := by
      rw [zTs_o (by simp), dl]
      cases hb : dTold D h with
      | true =>
        have hlt := (hO.2.2.2.2.2 h hh3 hb).1
        have hle := (hO.2.2.2.2.2 h hh3 hb).2.1
        have := hO.1.2.2.2.2.2
        simp only [if_true]
        rw [decide_eq_false (fun q => nI_m1 (a := dF D h) (by omega) q.symm)]; rfl
      | false => simp
    rw [eb]
    cases hb : dTold D h with
    | true =>
      rw [if_pos hb] at hg
      refine zBlkR (M := mX5_readLaw) (nL := 2) (rt := (Option.some .boolean)) (blk := bX5_readLaw_41) (T := [(50, bX5_readLaw_50)]) 1 hX5_readLaw_41 (zChks_cons hX5_readLaw_50 zChks_nil) rfl rfl rfl (Nat.le_of_ble_eq_true rfl) (Nat.le_of_ble_eq_true rfl) ?_
      simp (implicitDefEqProofs := false) only [bX5_readLaw_41, bX5_readLaw_50, zRun_cons, zRun_nil, zLk, zSto, zIns, zFil, zf0, zf1, zf2, zf3, List.filter_cons, List.filter_nil, Nat.reduceAdd, Nat.reduceEqDiff, Nat.reduceLT, Nat.reduceLeDiff, Nat.reduceBEq, Nat.reduceBNe, reduceIte, if_true, if_false, Bool.false_and, Bool.true_and, Bool.and_true, Bool.and_false, Bool.not_false, Bool.not_true, Bool.false_eq_true, beq_self_eq_true, BEq.rfl, zCat1, zCat2, zCat3, zKdI, zKdL, zKdR, true_and, and_true, zSI, zSL, zSR, zu_at, and_self, and_false, false_and, lv_args, zKdZ, zKdO, zB01, zB11, Option.toList_none, Option.toList_some, List.nil_append, List.cons_append, true_or, or_true, zRow_rd, zu_rd, zo_if_eq, zo_aload_n, zo_iconst, zo_getfield, zi_3, zKd_5_0, zcl_3, sh_4, rf_4_0, sh_1, zKn_s, zKn_0, zFind, zb1_t, zN10, zN01, not_true_eq_false, not_false_eq_true, false_implies, true_implies, implies_true, eq_self, nI_1, nI_40, nI_7, vz0, vz1, zb1_e0, zb1_n0]
      refine z_cV0 (M' := mX5_fail) (R' := rX5_fail) (i := 4) [.int 3] [] eX5_fail k5_78 (by decide +kernel : decode cX5_readLaw 46 = .ok (.invokevirtual 78, 3)) (Nat.le_of_ble_eq_true rfl) ⟨Nat.le_of_ble_eq_true rfl, Nat.le_of_ble_eq_true rfl, Nat.le_of_ble_eq_true rfl, Nat.le_of_ble_eq_true rfl, Nat.le_of_ble_eq_true rfl⟩ rfl rfl rfl sh_4 ?_
      refine cl_fail ?_
      refine zBlkR (M := mX5_readLaw) (nL := 2) (rt := (Option.some .boolean)) (blk := bX5_readLaw_49) (T := []) 0 hX5_readLaw_49 zChks_nil rfl rfl rfl (Nat.le_of_ble_eq_true rfl) (Nat.le_of_ble_eq_true rfl) ?_
      simp (implicitDefEqProofs := false) only [bX5_readLaw_49, zRun_cons, zRun_nil, zLk, zSto, zIns, zFil, zf0, zf1, zf2, zf3, List.filter_cons, List.filter_nil, Nat.reduceAdd, Nat.reduceEqDiff, Nat.reduceLT, Nat.reduceLeDiff, Nat.reduceBEq, Nat.reduceBNe, reduceIte, if_true, if_false, Bool.false_and, Bool.true_and, Bool.and_true, Bool.and_false, Bool.not_false, Bool.not_true, Bool.false_eq_true, beq_self_eq_true, BEq.rfl, zCat1, zCat2, zCat3, zKdI, zKdL, zKdR, true_and, and_true, zSI, zSL, zSR, zu_at, and_self, and_false, false_and, lv_args, zKdZ, zKdO, zB01, zB11, Option.toList_none, Option.toList_some, List.nil_append, List.cons_append, true_or, or_true, zRow_rd, zu_rd, zo_ireturn, zRt, zKn_0, zN10, zN01, not_true_eq_false, not_false_eq_true, false_implies, true_implies, implies_true, eq_self, nI_1, nI_40, nI_7, vz0, vz1, zb1_e0, zb1_n0]
      exact hF _ _ _ _ hg ((zKpt_rfl.u (by unfold SPs; omega)).u (by unfold SPs; omega)) (by simp [zu_at]; rfl) (by simp [zu_at])
    | false =>
      rw [if_neg (by rw [hb]; decide)] at hg
      refine zBlkR (M := mX5_readLaw) (nL := 2) (rt := (Option.some .boolean)) (blk := bX5_readLaw_41) (T := [(50, bX5_readLaw_50)]) 1 hX5_readLaw_41 (zChks_cons hX5_readLaw_50 zChks_nil) rfl rfl rfl (Nat.le_of_ble_eq_true rfl) (Nat.le_of_ble_eq_true rfl) ?_
      simp (implicitDefEqProofs := false) only [bX5_readLaw_41, bX5_readLaw_50, zRun_cons, zRun_nil, zLk, zSto, zIns, zFil, zf0, zf1, zf2, zf3, List.filter_cons, List.filter_nil, Nat.reduceAdd, Nat.reduceEqDiff, Nat.reduceLT, Nat.reduceLeDiff, Nat.reduceBEq, Nat.reduceBNe, reduceIte, if_true, if_false, Bool.false_and, Bool.true_and, Bool.and_true, Bool.and_false, Bool.not_false, Bool.not_true, Bool.false_eq_true, beq_self_eq_true, BEq.rfl, zCat1, zCat2, zCat3, zKdI, zKdL, zKdR, true_and, and_true, zSI, zSL, zSR, zu_at, and_self, and_false, false_and, lv_args, zKdZ, zKdO, zB01, zB11, Option.toList_none, Option.toList_some, List.nil_append, List.cons_append, true_or, or_true, zRow_rd, zu_rd, zo_if_eq, zo_aload_n, zo_iconst, zo_getfield, zi_3, zKd_5_0, zcl_3, sh_4, rf_4_0, sh_1, zKn_s, zKn_0, zFind, zb1_f, zN10, zN01, not_true_eq_false, not_false_eq_true, false_implies, true_implies, implies_true, eq_self, nI_1, nI_40, nI_7, vz0, vz1, zb1_e0, zb1_n0]
      refine z_cV0 (M' := mX7_advance) (R' := rX7_advance) (i := 1) [] [] eX7_advance k5_81 (by decide +kernel : decode cX5_readLaw 54 = .ok (.invokevirtual 81, 3)) (Nat.le_of_ble_eq_true rfl) ⟨Nat.le_of_ble_eq_true rfl, Nat.le_of_ble_eq_true rfl, Nat.le_of_ble_eq_true rfl, Nat.le_of_ble_eq_true rfl, Nat.le_of_ble_eq_true rfl⟩ rfl rfl rfl sh_1 ?_
      refine cl_adv hE ht1 ?_
      have d46 := hD.1.2.2.2.2.2.1
      have d16 := hD.1.2.2.2.2.1
      have hv : vp_in (nI h) 3 := zvn (by omega) (by omega)
      have cl : (nI h).toNatClampNeg = h := nI_clamp (by omega)
      refine zBlkR (M := mX5_readLaw) (nL := 2) (rt := (Option.some .boolean)) (blk := bX5_readLaw_57) (T := []) 0 hX5_readLaw_57 zChks_nil rfl rfl rfl (Nat.le_of_ble_eq_true rfl) (Nat.le_of_ble_eq_true rfl) ?_
      simp (implicitDefEqProofs := false) only [bX5_readLaw_57, zRun_cons, zRun_nil, zLk, zSto, zIns, zFil, zf0, zf1, zf2, zf3, List.filter_cons, List.filter_nil, Nat.reduceAdd, Nat.reduceEqDiff, Nat.reduceLT, Nat.reduceLeDiff, Nat.reduceBEq, Nat.reduceBNe, reduceIte, if_true, if_false, Bool.false_and, Bool.true_and, Bool.and_true, Bool.and_false, Bool.not_false, Bool.not_true, Bool.false_eq_true, beq_self_eq_true, BEq.rfl, zCat1, zCat2, zCat3, zKdI, zKdL, zKdR, true_and, and_true, zSI, zSL, zSR, zu_at, and_self, and_false, false_and, lv_args, zKdZ, zKdO, zB01, zB11, Option.toList_none, Option.toList_some, List.nil_append, List.cons_append, true_or, or_true, zRow_rd, zu_rd, zo_aload_n, zo_getfield, zo_iload_n, zo_iastore, zKd_5_8, zKd_4_18, zKd_5_6, sh_4, rf_4_8, sh_55, rf_55_18, sh_69, sh_71, rf_71_18, sh_85, zKn_0, (psh_0 hs), (psh_1 hs), (psh_2 hs), (psh_3 hs), (psh_4 hs), (psh_5 hs), (psh_6 hs), (psh_7 hs), (psh_8 hs), (psh_9 hs), (psh_10 hs), (psh_11 hs), (psh_12 hs), (psh_13 hs), (psh_14 hs), (psh_15 hs), (prf_1 hs), (prf_2 hs), (prf_3 hs), (prf_4 hs), (prf_6 hs), (prf_7 hs), (prf_8 hs), (prf_10 hs), (prf_11 hs), (prf_12 hs), (prf_13 hs), (prf_15 hs), (prf_17 hs), (prf_18 hs), (prf_19 hs), Nat.add_left_cancel_iff, Nat.left_eq_add, Nat.add_eq_left, (zpn_0 hs), (zpn_1 hs), (zpn_2 hs), (zpn_3 hs), (zpn_4 hs), (zpn_5 hs), (zpn_6 hs), (zpn_7 hs), zTs_12, zTs_13, zTs_14, zTs_15, zTs_16, zTs_17, zTs_o, zTs_u, d46, hv, cl, zN10, zN01, not_true_eq_false, not_false_eq_true, false_implies, true_implies, implies_true, eq_self, nI_1, nI_40, nI_7, vz0, vz1, zb1_e0, zb1_n0]
      have k1 : zKpt (SPs s) J (zu J (s + 14) h (nI (dNk D))) := zKpt_rfl.u (by unfold SPs; omega)
      refine z_cV0 (M' := mX5_readFormula) (R' := rX5_readFormula) (i := 4) [] [] eX5_readFormula k5_183 (by decide +kernel : decode cX5_readLaw 71 = .ok (.invokevirtual 183, 3)) (Nat.le_of_ble_eq_true rfl) ⟨Nat.le_of_ble_eq_true rfl, Nat.le_of_ble_eq_true rfl, Nat.le_of_ble_eq_true rfl, Nat.le_of_ble_eq_true rfl, Nat.le_of_ble_eq_true rfl⟩ rfl rfl rfl sh_4 ?_
      unfold zXM
      refine zBlkR (M := mX5_readFormula) (nL := 4) (rt := (Option.some .boolean)) (blk := bX5_readFormula_0) (T := []) 0 hX5_readFormula_0 zChks_nil rfl rfl rfl (Nat.le_of_ble_eq_true rfl) (Nat.le_of_ble_eq_true rfl) ?_
      simp (implicitDefEqProofs := false) only [bX5_readFormula_0, zRun_cons, zRun_nil, zLk, zSto, zIns, zFil, zf0, zf1, zf2, zf3, List.filter_cons, List.filter_nil, Nat.reduceAdd, Nat.reduceEqDiff, Nat.reduceLT, Nat.reduceLeDiff, Nat.reduceBEq, Nat.reduceBNe, reduceIte, if_true, if_false, Bool.false_and, Bool.true_and, Bool.and_true, Bool.and_false, Bool.not_false, Bool.not_true, Bool.false_eq_true, beq_self_eq_true, BEq.rfl, zCat1, zCat2, zCat3, zKdI, zKdL, zKdR, true_and, and_true, zSI, zSL, zSR, zu_at, and_self, and_false, false_and, lv_args, zKdZ, zKdO, zB01, zB11, Option.toList_none, Option.toList_some, List.nil_append, List.cons_append, true_or, or_true, zRow_rd, zu_rd, zo_aload_n, zo_iconst, zo_putfield, zo_putfield_2, zo_putfield_3, zo_istore_n, zi_0, zi_1, zKd_5_4, zTy_5_4, zKd_5_5, zTy_5_5, zcl_0, sh_4, zcl_1, zPutC, zKn_0, zTs_12, zTs_13, zTs_14, zTs_15, zTs_16, zTs_17, zTs_o, zTs_u, zN10, zN01, not_true_eq_false, not_false_eq_true, false_implies, true_implies, implies_true, eq_self, nI_1, nI_40, nI_7, vz0, vz1, zb1_e0, zb1_n0]
      have hJ0 : zFc (zu (zu (zu J (s + 14) h (nI (dNk D))) 4 4 0) 4 5 0) s ([], [], dR D, dNk D, dNk D) := by
        refine ⟨by simp [zu_at]; rfl, by simp [zu_at]; rfl, ?_, ?_, trivial, fun i hi => ?_⟩
        · rw [zu_at, if_neg (by omega), zu_at, if_neg (by omega), zu_at, if_neg (by omega)]; exact d46
        · rw [zu_at, if_neg (by omega), zu_at, if_neg (by omega), zu_at, if_neg (by omega)]; exact d16
        · rw [zu_at, if_neg (by omega), zu_at, if_neg (by omega), zu_at, if_neg (by omega)]; exact hD.2.2.2.2.2.2.2.1 i hi
      have k2 : zKpt (SPs s) J (zu (zu (zu J (s + 14) h (nI (dNk D))) 4 4 0) 4 5 0) := (k1.u (by unfold SPs; omega)).u (by unfold SPs; omega)
      refine cl_formLoop (E := E) hok hs 700 0 (tNx E (tNx E t)) ([], [], dR D, dNk D, dNk D) true _ (by omega) (zEc_k hs k2 hE) (tOk_nx ht1) hJ0 (FOk_0 hO.1.2.2.2.2.2) (fun f J' t' h0 h1 h2 h3 => ?_) (fun t' S' J' h0 h1 h2 => ?_)
      · rw [h0] at hg
        refine zBlkR (M := mX5_readLaw) (nL := 2) (rt := (Option.some .boolean)) (blk := bX5_readLaw_74) (T := [(79, bX5_readLaw_79)]) 1 hX5_readLaw_74 (zChks_cons hX5_readLaw_79 zChks_nil) rfl rfl rfl (Nat.le_of_ble_eq_true rfl) (Nat.le_of_ble_eq_true rfl) ?_
        simp (implicitDefEqProofs := false) only [bX5_readLaw_74, bX5_readLaw_79, zRun_cons, zRun_nil, zLk, zSto, zIns, zFil, zf0, zf1, zf2, zf3, List.filter_cons, List.filter_nil, Nat.reduceAdd, Nat.reduceEqDiff, Nat.reduceLT, Nat.reduceLeDiff, Nat.reduceBEq, Nat.reduceBNe, reduceIte, if_true, if_false, Bool.false_and, Bool.true_and, Bool.and_true, Bool.and_false, Bool.not_false, Bool.not_true, Bool.false_eq_true, beq_self_eq_true, BEq.rfl, zCat1, zCat2, zCat3, zKdI, zKdL, zKdR, true_and, and_true, zSI, zSL, zSR, zu_at, and_self, and_false, false_and, lv_args, zKdZ, zKdO, zB01, zB11, Option.toList_none, Option.toList_some, List.nil_append, List.cons_append, true_or, or_true, zRow_rd, zu_rd, zo_if_ne, zo_iconst, zo_ireturn, zo_aload_n, zo_getfield, zo_iload_n, zo_iastore, zi_0, zi_1, zKd_5_8, zKd_4_19, zKd_5_6, zcl_0, sh_4, rf_4_8, sh_55, rf_55_19, sh_70, sh_71, rf_71_19, sh_86, zcl_1, zvi_0_3, zvi_1_3, zRt, zKn_s, zKn_0, zFind, zN10, zN01, not_true_eq_false, not_false_eq_true, false_implies, true_implies, implies_true, eq_self, nI_1, nI_40, nI_7, vz0, vz1, zb1_e0, zb1_n0]
        exact hF _ _ _ _ hg (k2.trans h1) h2 h3
      · rw [h0] at hg
        obtain ⟨hS, hw⟩ := fSum_ok (F := dNk D) (R0 := dR D) 700 _ _ true (FOk_0 hO.1.2.2.2.2.2) h0
        have j46 := h2.2.2.1
        refine zBlkR (M := mX5_readLaw) (nL := 2) (rt := (Option.some .boolean)) (blk := bX5_readLaw_74) (T := [(79, bX5_readLaw_79)]) 1 hX5_readLaw_74 (zChks_cons hX5_readLaw_79 zChks_nil) rfl rfl rfl (Nat.le_of_ble_eq_true rfl) (Nat.le_of_ble_eq_true rfl) ?_
        simp (implicitDefEqProofs := false) only [bX5_readLaw_74, bX5_readLaw_79, zRun_cons, zRun_nil, zLk, zSto, zIns, zFil, zf0, zf1, zf2, zf3, List.filter_cons, List.filter_nil, Nat.reduceAdd, Nat.reduceEqDiff, Nat.reduceLT, Nat.reduceLeDiff, Nat.reduceBEq, Nat.reduceBNe, reduceIte, if_true, if_false, Bool.false_and, Bool.true_and, Bool.and_true, Bool.and_false, Bool.not_false, Bool.not_true, Bool.false_eq_true, beq_self_eq_true, BEq.rfl, zCat1, zCat2, zCat3, zKdI, zKdL, zKdR, true_and, and_true, zSI, zSL, zSR, zu_at, and_self, and_false, false_and, lv_args, zKdZ, zKdO, zB01, zB11, Option.toList_none, Option.toList_some, List.nil_append, List.cons_append, true_or, or_true, zRow_rd, zu_rd, zo_if_ne, zo_iconst, zo_ireturn, zo_aload_n, zo_getfield, zo_iload_n, zo_iastore, zi_0, zi_1, zKd_5_8, zKd_4_19, zKd_5_6, zcl_0, sh_4, rf_4_8, sh_55, rf_55_19, sh_70, sh_71, rf_71_19, sh_86, zcl_1, zvi_0_3, zvi_1_3, zRt, zKn_s, zKn_0, zFind, (psh_0 hs), (psh_1 hs), (psh_2 hs), (psh_3 hs), (psh_4 hs), (psh_5 hs), (psh_6 hs), (psh_7 hs), (psh_8 hs), (psh_9 hs), (psh_10 hs), (psh_11 hs), (psh_12 hs), (psh_13 hs), (psh_14 hs), (psh_15 hs), (prf_1 hs), (prf_2 hs), (prf_3 hs), (prf_4 hs), (prf_6 hs), (prf_7 hs), (prf_8 hs), (prf_10 hs), (prf_11 hs), (prf_12 hs), (prf_13 hs), (prf_15 hs), (prf_17 hs), (prf_18 hs), (prf_19 hs), Nat.add_left_cancel_iff, Nat.left_eq_add, Nat.add_eq_left, (zpn_0 hs), (zpn_1 hs), (zpn_2 hs), (zpn_3 hs), (zpn_4 hs), (zpn_5 hs), (zpn_6 hs), (zpn_7 hs), zTs_12, zTs_13, zTs_14, zTs_15, zTs_16, zTs_17, zTs_o, zTs_u, j46, hv, cl, zN10, zN01, not_true_eq_false, not_false_eq_true, false_implies, true_implies, implies_true, eq_self, nI_1, nI_40, nI_7, vz0, vz1, zb1_e0, zb1_n0]
        have hc : S'.2.2.2.1 = S'.2.2.2.2 := by
          have := hS.1
          rw [hw] at this
          simpa [nbk] using this
        have kk : zKpt (SPs s) J (zu J' (s + 15) h (nI S'.2.2.2.1)) := (k2.trans (h1.mono (fun i k h => SFc_s h))).u (by unfold SPs; omega)
        refine hG _ _ _ hg kk (zDc_law hs hh3 hD ?_ ?_ hS.2.2.2.2.2.2.2.2.2 hc ?_ ?_)
        · refine zKpt.u (zKpt.trans (I1 := zu (zu (zu J (s + 14) h (nI (dNk D))) 4 4 0) 4 5 0) ?_ (h1.mono (fun i k q => Or.inl q))) (Or.inr ⟨Or.inr rfl, rfl⟩)
          exact ((zKpt_rfl.u (Or.inr ⟨Or.inl rfl, rfl⟩)).u (Or.inl (by unfold SFc; omega))).u (Or.inl (by unfold SFc; omega))
        · obtain ⟨q1, q2, q3, q4, q5, q6⟩ := h2
          refine ⟨?_, ?_, ?_, ?_, ?_, fun i hi => ?_⟩
          · rw [zu_at, if_neg (by omega)]; exact q1
          · rw [zu_at, if_neg (by omega)]; exact q2
          · rw [zu_at, if_neg (by omega)]; exact q3
          · rw [zu_at, if_neg (by omega)]; exact q4
          · refine zWs_c q5 (fun i hi => ?_)
            rw [zu_at, if_neg (by omega), zu_at, if_neg (by omega)]; exact ⟨rfl, rfl⟩
          · rw [zu_at, if_neg (by omega)]; exact q6 i hi
        · rw [zu_at, if_neg (by omega), h1 (s + 14) h (by unfold SFc; omega)]; simp [zu_at] <;> omega
        · simp [zu_at]
  · rw [if_neg h1] at hg
    have zk : ((nI (tNx E t).2.2.1 - 41 : Int32) < 0) ∨ ¬ ((nI (tNx E t).2.2.1 - 41 : Int32) < 3) := by
      have e := pk_sub_toInt (a := (tNx E t).2.2.1) (b := 41) (by omega) (by omega)
      have h1' : ¬ (41 ≤ (tNx E t).2.2.1 ∧ (tNx E t).2.2.1 ≤ 43) := h1
      rw [show nI 41 = (41 : Int32) from rfl] at e
      by_cases g : (tNx E t).2.2.1 < 41
      · left; rw [Int32.lt_iff_toInt_lt, e]; show _ < (0 : Int); omega
      · right; rw [Int32.lt_iff_toInt_lt, e]; show ¬ _ < (3 : Int); omega
    by_cases g : (nI (tNx E t).2.2.1 - 41 : Int32) < 0
    · have g' : ((nI (tNx E t).2.2.1 - 41 : Int32) < 0) = True := eq_true g
      refine zBlkR (M := mX5_readLaw) (nL := 2) (rt := (Option.some .boolean)) (blk := bX5_readLaw_7) (T := [(27, bX5_readLaw_27), (33, bX5_readLaw_33)]) 1 hX5_readLaw_7 (zChks_cons hX5_readLaw_27 (zChks_cons hX5_readLaw_33 zChks_nil)) rfl rfl rfl (Nat.le_of_ble_eq_true rfl) (Nat.le_of_ble_eq_true rfl) ?_
      simp (implicitDefEqProofs := false) only [bX5_readLaw_7, bX5_readLaw_27, bX5_readLaw_33, zRun_cons, zRun_nil, zLk, zSto, zIns, zFil, zf0, zf1, zf2, zf3, List.filter_cons, List.filter_nil, Nat.reduceAdd, Nat.reduceEqDiff, Nat.reduceLT, Nat.reduceLeDiff, Nat.reduceBEq, Nat.reduceBNe, reduceIte, if_true, if_false, Bool.false_and, Bool.true_and, Bool.and_true, Bool.and_false, Bool.not_false, Bool.not_true, Bool.false_eq_true, beq_self_eq_true, BEq.rfl, zCat1, zCat2, zCat3, zKdI, zKdL, zKdR, true_and, and_true, zSI, zSL, zSR, zu_at, and_self, and_false, false_and, lv_args, zKdZ, zKdO, zB01, zB11, Option.toList_none, Option.toList_some, List.nil_append, List.cons_append, true_or, or_true, zRow_rd, zu_rd, zo_aload_n, zo_getfield, zo_bipush, zo_isub, zo_istore_n, zo_iload_n, zo_if_lt, zo_iconst, zo_icmp_lt, zb_41, zi_3, zi_1, zKd_5_0, zKd_7_6, zKd_5_8, sh_4, rf_4_0, sh_1, zcl_41, zcl_3, zcl_1, rf_4_8, zKn_s, zKn_0, zFind, zTs_12, zTs_13, zTs_14, zTs_15, zTs_16, zTs_17, zTs_o, zTs_u, g', zN10, zN01, not_true_eq_false, not_false_eq_true, false_implies, true_implies, implies_true, eq_self, nI_1, nI_40, nI_7, vz0, vz1, zb1_e0, zb1_n0]
      refine z_cV0 (M' := mX5_fail) (R' := rX5_fail) (i := 4) [.int 1] [] eX5_fail k5_78 (by decide +kernel : decode cX5_readLaw 29 = .ok (.invokevirtual 78, 3)) (Nat.le_of_ble_eq_true rfl) ⟨Nat.le_of_ble_eq_true rfl, Nat.le_of_ble_eq_true rfl, Nat.le_of_ble_eq_true rfl, Nat.le_of_ble_eq_true rfl, Nat.le_of_ble_eq_true rfl⟩ rfl rfl rfl sh_4 ?_
      refine cl_fail ?_
      refine zBlkR (M := mX5_readLaw) (nL := 2) (rt := (Option.some .boolean)) (blk := bX5_readLaw_32) (T := []) 0 hX5_readLaw_32 zChks_nil rfl rfl rfl (Nat.le_of_ble_eq_true rfl) (Nat.le_of_ble_eq_true rfl) ?_
      simp (implicitDefEqProofs := false) only [bX5_readLaw_32, zRun_cons, zRun_nil, zLk, zSto, zIns, zFil, zf0, zf1, zf2, zf3, List.filter_cons, List.filter_nil, Nat.reduceAdd, Nat.reduceEqDiff, Nat.reduceLT, Nat.reduceLeDiff, Nat.reduceBEq, Nat.reduceBNe, reduceIte, if_true, if_false, Bool.false_and, Bool.true_and, Bool.and_true, Bool.and_false, Bool.not_false, Bool.not_true, Bool.false_eq_true, beq_self_eq_true, BEq.rfl, zCat1, zCat2, zCat3, zKdI, zKdL, zKdR, true_and, and_true, zSI, zSL, zSR, zu_at, and_self, and_false, false_and, lv_args, zKdZ, zKdO, zB01, zB11, Option.toList_none, Option.toList_some, List.nil_append, List.cons_append, true_or, or_true, zRow_rd, zu_rd, zo_ireturn, zRt, zKn_0, zN10, zN01, not_true_eq_false, not_false_eq_true, false_implies, true_implies, implies_true, eq_self, nI_1, nI_40, nI_7, vz0, vz1, zb1_e0, zb1_n0]
      exact hF _ _ _ _ hg ((zKpt_rfl.u (by unfold SPs; omega)).u (by unfold SPs; omega)) (by simp [zu_at]; rfl) (by simp [zu_at])
    · have g' : ((nI (tNx E t).2.2.1 - 41 : Int32) < 0) = False := eq_false g
      have g3' : ((nI (tNx E t).2.2.1 - 41 : Int32) < 3) = False := eq_false (zk.resolve_left g)
      refine zBlkR (M := mX5_readLaw) (nL := 2) (rt := (Option.some .boolean)) (blk := bX5_readLaw_7) (T := [(27, bX5_readLaw_27), (33, bX5_readLaw_33)]) 1 hX5_readLaw_7 (zChks_cons hX5_readLaw_27 (zChks_cons hX5_readLaw_33 zChks_nil)) rfl rfl rfl (Nat.le_of_ble_eq_true rfl) (Nat.le_of_ble_eq_true rfl) ?_
      simp (implicitDefEqProofs := false) only [bX5_readLaw_7, bX5_readLaw_27, bX5_readLaw_33, zRun_cons, zRun_nil, zLk, zSto, zIns, zFil, zf0, zf1, zf2, zf3, List.filter_cons, List.filter_nil, Nat.reduceAdd, Nat.reduceEqDiff, Nat.reduceLT, Nat.reduceLeDiff, Nat.reduceBEq, Nat.reduceBNe, reduceIte, if_true, if_false, Bool.false_and, Bool.true_and, Bool.and_true, Bool.and_false, Bool.not_false, Bool.not_true, Bool.false_eq_true, beq_self_eq_true, BEq.rfl, zCat1, zCat2, zCat3, zKdI, zKdL, zKdR, true_and, and_true, zSI, zSL, zSR, zu_at, and_self, and_false, false_and, lv_args, zKdZ, zKdO, zB01, zB11, Option.toList_none, Option.toList_some, List.nil_append, List.cons_append, true_or, or_true, zRow_rd, zu_rd, zo_aload_n, zo_getfield, zo_bipush, zo_isub, zo_istore_n, zo_iload_n, zo_if_lt, zo_iconst, zo_icmp_lt, zb_41, zi_3, zi_1, zKd_5_0, zKd_7_6, zKd_5_8, sh_4, rf_4_0, sh_1, zcl_41, zcl_3, zcl_1, rf_4_8, zKn_s, zKn_0, zFind, zTs_12, zTs_13, zTs_14, zTs_15, zTs_16, zTs_17, zTs_o, zTs_u, g', g3', zN10, zN01, not_true_eq_false, not_false_eq_true, false_implies, true_implies, implies_true, eq_self, nI_1, nI_40, nI_7, vz0, vz1, zb1_e0, zb1_n0]
      refine z_cV0 (M' := mX5_fail) (R' := rX5_fail) (i := 4) [.int 1] [] eX5_fail k5_78 (by decide +kernel : decode cX5_readLaw 29 = .ok (.invokevirtual 78, 3)) (Nat.le_of_ble_eq_true rfl) ⟨Nat.le_of_ble_eq_true rfl, Nat.le_of_ble_eq_true rfl, Nat.le_of_ble_eq_true rfl, Nat.le_of_ble_eq_true rfl, Nat.le_of_ble_eq_true rfl⟩ rfl rfl rfl sh_4 ?_
      refine cl_fail ?_
      refine zBlkR (M := mX5_readLaw) (nL := 2) (rt := (Option.some .boolean)) (blk := bX5_readLaw_32) (T := []) 0 hX5_readLaw_32 zChks_nil rfl rfl rfl (Nat.le_of_ble_eq_true rfl) (Nat.le_of_ble_eq_true rfl) ?_
      simp (implicitDefEqProofs := false) only [bX5_readLaw_32, zRun_cons, zRun_nil, zLk, zSto, zIns, zFil, zf0, zf1, zf2, zf3, List.filter_cons, List.filter_nil, Nat.reduceAdd, Nat.reduceEqDiff, Nat.reduceLT, Nat.reduceLeDiff, Nat.reduceBEq, Nat.reduceBNe, reduceIte, if_true, if_false, Bool.false_and, Bool.true_and, Bool.and_true, Bool.and_false, Bool.not_false, Bool.not_true, Bool.false_eq_true, beq_self_eq_true, BEq.rfl, zCat1, zCat2, zCat3, zKdI, zKdL, zKdR, true_and, and_true, zSI, zSL, zSR, zu_at, and_self, and_false, false_and, lv_args, zKdZ, zKdO, zB01, zB11, Option.toList_none, Option.toList_some, List.nil_append, List.cons_append, true_or, or_true, zRow_rd, zu_rd, zo_ireturn, zRt, zKn_0, zN10, zN01, not_true_eq_false, not_false_eq_true, false_implies, true_implies, implies_true, eq_self, nI_1, nI_40, nI_7, vz0, vz1, zb1_e0, zb1_n0]
      exact hF _ _ _ _ hg ((zKpt_rfl.u (by unfold SPs; omega)).u (by unfold SPs; omega)) (by simp [zu_at]; rfl) (by simp [zu_at])
end ZN98zc
