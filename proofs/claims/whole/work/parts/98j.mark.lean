/-! ===== TOKENS: marks in the class ===== -/
/-- a mark at i: where it ends, its kind -/
def oMr (T : Nat → Nat) (e i : Nat) : Nat × Nat := if T i = 60 ∨ T i = 62 then (let k := oCp (T i) (if i + 1 < e then T (i + 1) else 32); (if k = 7 ∨ k = 12 then i + 1 else i + 2, k)) else (i + 1, oMk (T i))
section ZN98j
variable {w : zP} {Q : Option Value → zMem → Prop} {μ : zMem} {I J : Nat → Nat → Int32} {L K : Nat → Nat → Int64} {p s : Nat} {r : Option Nat} {a b c i k n e : Nat} {x y v : Int32} {T : Nat → Nat} {W : Nat → Int32}
set_option maxRecDepth 20000 in
theorem cl_readMark (h3 : I 1 3 = nI e) (h4 : I 1 4 = nI i) (hi : i < e) (he : e ≤ 700) (ht : ∀ k, k < e → I 2 k = oSb (T k) ∧ T k < 256) (hQ : ∀ I', zKpt STk I I' → I' 1 7 = I 1 7 → I' 1 5 = I 1 5 → I' 1 4 = nI (oMr T e i).1 → I' 1 6 = nI (oMr T e i).2 → Q none (SH, I', L, RF p s r)) : zXM w mX7_readMark rX7_readMark [.ref 1, .int (oSb (T i))] (SH, I, L, RF p s r) Q := by
  unfold zXM
  obtain ⟨t1, t2⟩ := ht i hi
  have x60 : (oSb (T i) = 60) = (T i = 60) := propext (sb_eq (T i) t2 60 (by omega))
  have x62 : (oSb (T i) = 62) = (T i = 62) := propext (sb_eq (T i) t2 62 (by omega))
  have e32 : (32 : Int32) = oSb 32 := by decide
  have fin : ∀ (b k : Nat), b < 256 → oCp (T i) b = k → (oMr T e i) = (if k = 7 ∨ k = 12 then i + 1 else i + 2, k) → zX w mX7_readMark rX7_readMark Q 0 0 49 [(0, Value.ref 1), (1, Value.int (oSb (T i)))] [Value.int (oSb b), Value.int (oSb (T i)), Value.ref 1] (SH, zu I 1 4 (nI (i + 1)), L, RF p s r) := by
    intro b k hb hk hm
    rw [hm] at hQ
    refine z_cS0 (M' := mX7_comparison) (R' := rX7_comparison) [.int (oSb (T i)), .int (oSb b)] [.ref 1] eX7_comparison k7_82 (by decide +kernel : decode cX7_readMark 49 = .ok (.invokestatic 82, 3)) (Nat.le_of_ble_eq_true rfl) ⟨Nat.le_of_ble_eq_true rfl, Nat.le_of_ble_eq_true rfl, Nat.le_of_ble_eq_true rfl, Nat.le_of_ble_eq_true rfl, Nat.le_of_ble_eq_true rfl⟩ rfl rfl rfl ?_
    refine sp_comparison t2 hb ?_
    rw [hk]
    have hk16 : k < 16 := by rw [← hk]; unfold oCp; repeat' split
                             all_goals omega
    have y7 : (nI k = 7) = (k = 7) := zeq_nat (b := 7) (by omega) (by omega)
    have y12 : (nI k = 12) = (k = 12) := zeq_nat (b := 12) (by omega) (by omega)
    refine zBlkR (M := mX7_readMark) (nL := 2) (rt := (Option.none : Option Jvm.ClassFile.FieldType)) (blk := bX7_readMark_52) (T := [(94, bX7_readMark_94)]) 1 hX7_readMark_52 (zChks_cons hX7_readMark_94 zChks_nil) rfl rfl rfl (Nat.le_of_ble_eq_true rfl) (Nat.le_of_ble_eq_true rfl) ?_
    simp (implicitDefEqProofs := false) only [bX7_readMark_52, bX7_readMark_94, zRun_cons, zRun_nil, zLk, zSto, zIns, zFil, zf0, zf1, zf2, zf3, List.filter_cons, List.filter_nil, Nat.reduceAdd, Nat.reduceEqDiff, Nat.reduceLT, Nat.reduceLeDiff, Nat.reduceBEq, Nat.reduceBNe, reduceIte, if_true, if_false, Bool.false_and, Bool.true_and, Bool.and_true, Bool.and_false, Bool.not_false, Bool.not_true, Bool.false_eq_true, beq_self_eq_true, BEq.rfl, zCat1, zCat2, zCat3, zKdI, zKdL, zKdR, true_and, and_true, zSI, zSL, zSR, zu_at, and_self, and_false, false_and, lv_args, zKdZ, zKdO, zB01, zB11, Option.toList_none, Option.toList_some, List.nil_append, List.cons_append, true_or, or_true, zRow_rd, zu_rd, zo_putfield, zo_putfield_2, zo_putfield_3, zo_aload_n, zo_getfield, zo_bipush, zo_icmp_eq, zo_dup, zo_iconst, zo_iadd, zo_goto, zo_return_, zb_7, zb_12, zi_1, zKd_7_6, zTy_7_6, zKd_7_4, zTy_7_4, sh_1, zcl_7, zcl_12, zcl_1, zPutC, zKn_s, zKn_0, zFind, y7, y12, nI_1, zN10, zN01, not_true_eq_false, not_false_eq_true, false_implies, true_implies, implies_true, eq_self, nI_1, nI_40, nI_7, vz0, vz1, zb1_e0, zb1_n0]
    have kA : zKpt STk I (zu (zu I 1 4 (nI (i + 1))) 1 6 (nI k)) := (zKpt_rfl.u (by unfold STk; omega)).u (by unfold STk; omega)
    by_cases g7 : k = 7
    · rw [if_pos (Or.inl g7)] at hQ
      simp [g7] at hQ ⊢
      exact hQ _ (by rw [g7] at kA; exact kA) (by simp [zu_at]) (by simp [zu_at]) (by simp [zu_at]) (by simp [zu_at]; try rfl)
    · by_cases g12 : k = 12
      · rw [if_pos (Or.inr g12)] at hQ
        simp [g12] at hQ ⊢
        exact hQ _ (by rw [g12] at kA; exact kA) (by simp [zu_at]) (by simp [zu_at]) (by simp [zu_at]) (by simp [zu_at]; try rfl)
      · rw [if_neg (by omega)] at hQ
        simp [g7, g12] at hQ ⊢
        exact hQ _ (kA.u (by unfold STk; omega)) (by simp [zu_at]) (by simp [zu_at]) (by simp [zu_at]; try rfl) (by simp [zu_at])
  by_cases hc : T i = 60 ∨ T i = 62
  · by_cases hn : i + 1 < e
    · have hx : (nI e ≤ nI (i + 1)) = False := eq_false (by rw [zle_nat (by omega) (by omega)]; omega)
      have hv : vp_in (nI (i + 1)) 700 := zvn (by omega) (by omega)
      obtain ⟨t3, t4⟩ := ht (i + 1) hn
      have key := fin (T (i + 1)) _ t4 rfl (by unfold oMr; rw [if_pos hc, if_pos hn])
      refine zBlkR (M := mX7_readMark) (nL := 2) (rt := (Option.none : Option Jvm.ClassFile.FieldType)) (blk := bX7_readMark_0) (T := [(22, bX7_readMark_22), (47, bX7_readMark_47), (86, bX7_readMark_86)]) 2 hX7_readMark_0 (zChks_cons hX7_readMark_22 (zChks_cons hX7_readMark_47 (zChks_cons hX7_readMark_86 zChks_nil))) rfl rfl rfl (Nat.le_of_ble_eq_true rfl) (Nat.le_of_ble_eq_true rfl) ?_
      simp (implicitDefEqProofs := false) only [bX7_readMark_0, bX7_readMark_22, bX7_readMark_47, bX7_readMark_86, zRun_cons, zRun_nil, zLk, zSto, zIns, zFil, zf0, zf1, zf2, zf3, List.filter_cons, List.filter_nil, Nat.reduceAdd, Nat.reduceEqDiff, Nat.reduceLT, Nat.reduceLeDiff, Nat.reduceBEq, Nat.reduceBNe, reduceIte, if_true, if_false, Bool.false_and, Bool.true_and, Bool.and_true, Bool.and_false, Bool.not_false, Bool.not_true, Bool.false_eq_true, beq_self_eq_true, BEq.rfl, zCat1, zCat2, zCat3, zKdI, zKdL, zKdR, true_and, and_true, zSI, zSL, zSR, zu_at, and_self, and_false, false_and, lv_args, zKdZ, zKdO, zB01, zB11, Option.toList_none, Option.toList_some, List.nil_append, List.cons_append, true_or, or_true, zRow_rd, zu_rd, zo_aload_n, zo_dup, zo_getfield, zo_iconst, zo_iadd, zo_putfield, zo_putfield_2, zo_putfield_3, zo_iload_n, zo_bipush, zo_icmp_eq, zo_icmp_ne, zo_icmp_ge, zo_baload, zo_goto, zi_1, zb_60, zb_62, zb_32, zKd_7_4, zTy_7_4, zKd_7_3, zKd_7_0, sh_1, zcl_1, zcl_60, zcl_62, rf_1_0, sh_2, zcl_32, zvi_1_700, zvi_60_700, zvi_62_700, zvi_32_700, zPutC, zKn_s, zKn_0, zFind, h3, h4, nI_1, x60, x62, hx, hv, t3, nI_clamp (n := i + 1) (by omega), zN10, zN01, not_true_eq_false, not_false_eq_true, false_implies, true_implies, implies_true, eq_self, nI_1, nI_40, nI_7, vz0, vz1, zb1_e0, zb1_n0]
      rcases hc with g | g <;> simp [g] at key ⊢ <;> exact key
    · have hx : (nI e ≤ nI (i + 1)) = True := eq_true (by rw [zle_nat (by omega) (by omega)]; omega)
      have key := fin 32 _ (by omega) rfl (by unfold oMr; rw [if_pos hc, if_neg hn])
      rw [← e32] at key
      refine zBlkR (M := mX7_readMark) (nL := 2) (rt := (Option.none : Option Jvm.ClassFile.FieldType)) (blk := bX7_readMark_0) (T := [(22, bX7_readMark_22), (47, bX7_readMark_47), (86, bX7_readMark_86)]) 2 hX7_readMark_0 (zChks_cons hX7_readMark_22 (zChks_cons hX7_readMark_47 (zChks_cons hX7_readMark_86 zChks_nil))) rfl rfl rfl (Nat.le_of_ble_eq_true rfl) (Nat.le_of_ble_eq_true rfl) ?_
      simp (implicitDefEqProofs := false) only [bX7_readMark_0, bX7_readMark_22, bX7_readMark_47, bX7_readMark_86, zRun_cons, zRun_nil, zLk, zSto, zIns, zFil, zf0, zf1, zf2, zf3, List.filter_cons, List.filter_nil, Nat.reduceAdd, Nat.reduceEqDiff, Nat.reduceLT, Nat.reduceLeDiff, Nat.reduceBEq, Nat.reduceBNe, reduceIte, if_true, if_false, Bool.false_and, Bool.true_and, Bool.and_true, Bool.and_false, Bool.not_false, Bool.not_true, Bool.false_eq_true, beq_self_eq_true, BEq.rfl, zCat1, zCat2, zCat3, zKdI, zKdL, zKdR, true_and, and_true, zSI, zSL, zSR, zu_at, and_self, and_false, false_and, lv_args, zKdZ, zKdO, zB01, zB11, Option.toList_none, Option.toList_some, List.nil_append, List.cons_append, true_or, or_true, zRow_rd, zu_rd, zo_aload_n, zo_dup, zo_getfield, zo_iconst, zo_iadd, zo_putfield, zo_putfield_2, zo_putfield_3, zo_iload_n, zo_bipush, zo_icmp_eq, zo_icmp_ne, zo_icmp_ge, zo_baload, zo_goto, zi_1, zb_60, zb_62, zb_32, zKd_7_4, zTy_7_4, zKd_7_3, zKd_7_0, sh_1, zcl_1, zcl_60, zcl_62, rf_1_0, sh_2, zcl_32, zvi_1_700, zvi_60_700, zvi_62_700, zvi_32_700, zPutC, zKn_s, zKn_0, zFind, h3, h4, nI_1, x60, x62, hx, zN10, zN01, not_true_eq_false, not_false_eq_true, false_implies, true_implies, implies_true, eq_self, nI_1, nI_40, nI_7, vz0, vz1, zb1_e0, zb1_n0]
      rcases hc with g | g <;> simp [g] at key ⊢ <;> exact key
  · have n60 : (T i = 60) = False := eq_false (fun g => hc (Or.inl g))
    have n62 : (T i = 62) = False := eq_false (fun g => hc (Or.inr g))
    unfold oMr at hQ
    rw [if_neg hc] at hQ
    refine zBlkR (M := mX7_readMark) (nL := 2) (rt := (Option.none : Option Jvm.ClassFile.FieldType)) (blk := bX7_readMark_0) (T := [(22, bX7_readMark_22), (47, bX7_readMark_47), (86, bX7_readMark_86)]) 2 hX7_readMark_0 (zChks_cons hX7_readMark_22 (zChks_cons hX7_readMark_47 (zChks_cons hX7_readMark_86 zChks_nil))) rfl rfl rfl (Nat.le_of_ble_eq_true rfl) (Nat.le_of_ble_eq_true rfl) ?_
    simp (implicitDefEqProofs := false) only [bX7_readMark_0, bX7_readMark_22, bX7_readMark_47, bX7_readMark_86, zRun_cons, zRun_nil, zLk, zSto, zIns, zFil, zf0, zf1, zf2, zf3, List.filter_cons, List.filter_nil, Nat.reduceAdd, Nat.reduceEqDiff, Nat.reduceLT, Nat.reduceLeDiff, Nat.reduceBEq, Nat.reduceBNe, reduceIte, if_true, if_false, Bool.false_and, Bool.true_and, Bool.and_true, Bool.and_false, Bool.not_false, Bool.not_true, Bool.false_eq_true, beq_self_eq_true, BEq.rfl, zCat1, zCat2, zCat3, zKdI, zKdL, zKdR, true_and, and_true, zSI, zSL, zSR, zu_at, and_self, and_false, false_and, lv_args, zKdZ, zKdO, zB01, zB11, Option.toList_none, Option.toList_some, List.nil_append, List.cons_append, true_or, or_true, zRow_rd, zu_rd, zo_aload_n, zo_dup, zo_getfield, zo_iconst, zo_iadd, zo_putfield, zo_putfield_2, zo_putfield_3, zo_iload_n, zo_bipush, zo_icmp_eq, zo_icmp_ne, zo_icmp_ge, zo_baload, zo_goto, zi_1, zb_60, zb_62, zb_32, zKd_7_4, zTy_7_4, zKd_7_3, zKd_7_0, sh_1, zcl_1, zcl_60, zcl_62, rf_1_0, sh_2, zcl_32, zvi_1_700, zvi_60_700, zvi_62_700, zvi_32_700, zPutC, zKn_s, zKn_0, zFind, h4, nI_1, x60, x62, n60, n62, zN10, zN01, not_true_eq_false, not_false_eq_true, false_implies, true_implies, implies_true, eq_self, nI_1, nI_40, nI_7, vz0, vz1, zb1_e0, zb1_n0]
    refine z_cS0 (M' := mX7_markKind) (R' := rX7_markKind) [.int (oSb (T i))] [.ref 1] eX7_markKind k7_85 (by decide +kernel : decode cX7_readMark 88 = .ok (.invokestatic 85, 3)) (Nat.le_of_ble_eq_true rfl) ⟨Nat.le_of_ble_eq_true rfl, Nat.le_of_ble_eq_true rfl, Nat.le_of_ble_eq_true rfl, Nat.le_of_ble_eq_true rfl, Nat.le_of_ble_eq_true rfl⟩ rfl rfl rfl ?_
    refine sp_markKind t2 ?_
    refine zBlkR (M := mX7_readMark) (nL := 2) (rt := (Option.none : Option Jvm.ClassFile.FieldType)) (blk := bX7_readMark_91) (T := []) 0 hX7_readMark_91 zChks_nil rfl rfl rfl (Nat.le_of_ble_eq_true rfl) (Nat.le_of_ble_eq_true rfl) ?_
    simp (implicitDefEqProofs := false) only [bX7_readMark_91, zRun_cons, zRun_nil, zLk, zSto, zIns, zFil, zf0, zf1, zf2, zf3, List.filter_cons, List.filter_nil, Nat.reduceAdd, Nat.reduceEqDiff, Nat.reduceLT, Nat.reduceLeDiff, Nat.reduceBEq, Nat.reduceBNe, reduceIte, if_true, if_false, Bool.false_and, Bool.true_and, Bool.and_true, Bool.and_false, Bool.not_false, Bool.not_true, Bool.false_eq_true, beq_self_eq_true, BEq.rfl, zCat1, zCat2, zCat3, zKdI, zKdL, zKdR, true_and, and_true, zSI, zSL, zSR, zu_at, and_self, and_false, false_and, lv_args, zKdZ, zKdO, zB01, zB11, Option.toList_none, Option.toList_some, List.nil_append, List.cons_append, true_or, or_true, zRow_rd, zu_rd, zo_putfield, zo_putfield_2, zo_putfield_3, zo_return_, zKd_7_6, zTy_7_6, sh_1, zPutC, zKn_0, zN10, zN01, not_true_eq_false, not_false_eq_true, false_implies, true_implies, implies_true, eq_self, nI_1, nI_40, nI_7, vz0, vz1, zb1_e0, zb1_n0]
    exact hQ _ ((zKpt_rfl.u (by unfold STk; omega)).u (by unfold STk; omega)) (by simp [zu_at]) (by simp [zu_at]) (by simp [zu_at]) (by simp [zu_at])
end ZN98j
