/-! ===== comparisons of longs; more of the reference's small methods ===== -/
theorem lc_lt (x y : Int64) : (lg_cmp x y < 0) = (x < y) := by
  apply propext
  unfold lg_cmp
  by_cases h : y < x
  · rw [if_pos h]
    constructor
    · intro q; exact absurd q (by decide)
    · intro q; exact absurd (Int64.lt_trans h q) (Int64.lt_irrefl)
  · rw [if_neg h]
    by_cases h2 : x = y
    · rw [if_pos h2]
      subst h2
      constructor
      · intro q; exact absurd q (by decide)
      · intro q; exact absurd q (Int64.lt_irrefl)
    · rw [if_neg h2]
      constructor
      · intro _
        rcases Int64.lt_or_eq_of_le (Int64.not_lt.mp h) with q | q
        · exact q
        · exact absurd q h2
      · intro _; decide
theorem lc_eq (x y : Int64) : (lg_cmp x y = 0) = (x = y) := by
  apply propext
  unfold lg_cmp
  by_cases h : y < x
  · rw [if_pos h]
    constructor
    · intro q; exact absurd q (by decide)
    · intro q; subst q; exact absurd h (Int64.lt_irrefl)
  · rw [if_neg h]
    by_cases h2 : x = y
    · rw [if_pos h2]; exact ⟨fun _ => h2, fun _ => rfl⟩
    · rw [if_neg h2]
      exact ⟨fun q => absurd q (by decide), fun q => absurd q h2⟩
theorem lc_gt (x y : Int64) : (0 < lg_cmp x y) = (y < x) := by
  apply propext
  unfold lg_cmp
  by_cases h : y < x
  · rw [if_pos h]; exact ⟨fun _ => h, fun _ => by decide⟩
  · rw [if_neg h]
    by_cases h2 : x = y
    · rw [if_pos h2]; exact ⟨fun q => absurd q (by decide), fun q => absurd q h⟩
    · rw [if_neg h2]; exact ⟨fun q => absurd q (by decide), fun q => absurd q h⟩
theorem lc_ge (x y : Int64) : (0 ≤ lg_cmp x y) = (y ≤ x) := by
  have h := lc_lt x y
  apply propext
  rw [← Int32.not_lt, ← Int64.not_lt]
  exact not_congr (iff_of_eq h)
theorem lc_le (x y : Int64) : (lg_cmp x y ≤ 0) = (x ≤ y) := by
  have h := lc_gt x y
  apply propext
  rw [← Int32.not_lt, ← Int64.not_lt]
  exact not_congr (iff_of_eq h)
section ZMT
variable {w : zP} {Q : Option Value → zMem → Prop} {μ : zMem} {I : Nat → Nat → Int32} {L : Nat → Nat → Int64} {p s : Nat} {r : Option Nat}
set_option maxRecDepth 20000 in
theorem mo_dropHeld {n : Nat} (hn : n < 96) (h : I 87 47 = nI (n + 1)) (hQ : Q (some (.int (I 111 n))) (SH, zu I 87 47 (nI n), L, RF p s r)) : zXM w mX10_dropHeld rX10_dropHeld [.ref 87] (SH, I, L, RF p s r) Q := by
  unfold zXM
  refine zBlkR (M := mX10_dropHeld) (nL := 1) (rt := (Option.some .int)) (blk := bX10_dropHeld_0) (T := []) 0 hX10_dropHeld_0 zChks_nil rfl rfl rfl (Nat.le_of_ble_eq_true rfl) (Nat.le_of_ble_eq_true rfl) ?_
  simp only [bX10_dropHeld_0, zRun_cons, zRun_nil, zLk, zSto, zIns, zFil, zf0, zf1, zf2, zf3, List.filter_cons, List.filter_nil, Nat.reduceAdd, Nat.reduceEqDiff, Nat.reduceLT, Nat.reduceLeDiff, Nat.reduceBEq, Nat.reduceBNe, reduceIte, if_true, if_false, Bool.false_and, Bool.true_and, Bool.and_true, Bool.and_false, Bool.not_false, Bool.not_true, Bool.false_eq_true, beq_self_eq_true, BEq.rfl, zCat1, zCat2, zCat3, zKdI, zKdL, zKdR, true_and, and_true, zSI, zSL, zSR, zu_at, and_self, and_false, false_and, lv_args, zKdZ, zKdO, zB01, zB11, Option.toList_none, Option.toList_some, List.nil_append, List.cons_append, true_or, or_true, zRow_rd, zu_rd, zo_aload_n, zo_dup, zo_getfield, zo_iconst, zo_isub, zo_putfield, zo_putfield_2, zo_putfield_3, zo_iaload, zo_ireturn, zi_1, zKd_10_47, zTy_10_47, zKd_10_45, sh_87, zcl_1, rf_87_45, sh_111, zvi_1_96, zRt, zPutC, zKn_0, h, nI_pred]
  rw [nI_clamp (by omega)]
  exact ⟨zvn (by omega) (by decide), hQ⟩
set_option maxRecDepth 20000 in
theorem mo_waitsFor {n : Nat} {k : Int32} (hn : n < 96) (h : I 87 46 = nI n) (hQ : Q none (SH, zu (zu I 110 n k) 87 46 (nI (n + 1)), L, RF p s r)) : zXM w mX10_waitsFor rX10_waitsFor [.ref 87, .int k] (SH, I, L, RF p s r) Q := by
  unfold zXM
  refine zBlkR (M := mX10_waitsFor) (nL := 2) (rt := (Option.none : Option Jvm.ClassFile.FieldType)) (blk := bX10_waitsFor_0) (T := []) 0 hX10_waitsFor_0 zChks_nil rfl rfl rfl (Nat.le_of_ble_eq_true rfl) (Nat.le_of_ble_eq_true rfl) ?_
  simp only [bX10_waitsFor_0, zRun_cons, zRun_nil, zLk, zSto, zIns, zFil, zf0, zf1, zf2, zf3, List.filter_cons, List.filter_nil, Nat.reduceAdd, Nat.reduceEqDiff, Nat.reduceLT, Nat.reduceLeDiff, Nat.reduceBEq, Nat.reduceBNe, reduceIte, if_true, if_false, Bool.false_and, Bool.true_and, Bool.and_true, Bool.and_false, Bool.not_false, Bool.not_true, Bool.false_eq_true, beq_self_eq_true, BEq.rfl, zCat1, zCat2, zCat3, zKdI, zKdL, zKdR, true_and, and_true, zSI, zSL, zSR, zu_at, and_self, and_false, false_and, lv_args, zKdZ, zKdO, zB01, zB11, Option.toList_none, Option.toList_some, List.nil_append, List.cons_append, true_or, or_true, zRow_rd, zu_rd, zo_aload_n, zo_getfield, zo_iload_n, zo_iastore, zo_dup, zo_iconst, zo_iadd, zo_putfield, zo_putfield_2, zo_putfield_3, zo_return_, zi_1, zKd_10_44, zKd_10_46, zTy_10_46, sh_87, rf_87_44, sh_110, zcl_1, zvi_1_96, zPutC, zKn_0, h, nI_1]
  rw [nI_clamp (by omega)]
  exact ⟨zvn (by omega) (by decide), hQ⟩
set_option maxRecDepth 20000 in
theorem mo_grown {n h : Nat} {k a b : Int32} (hn : n < 64) (hh : h < 96) (h1 : I 87 23 = nI n) (h2 : I 87 47 = nI h) (hQ : Q none (SH, zu (zu (zu (zu (zu (zu I 107 (64 + n) k) 108 (64 + n) a) 109 (64 + n) b) 111 h (nI n)) 87 47 (nI (h + 1))) 87 23 (nI (n + 1)), L, RF p s r)) : zXM w mX10_grown rX10_grown [.ref 87, .int k, .int a, .int b] (SH, I, L, RF p s r) Q := by
  unfold zXM
  refine zBlkR (M := mX10_grown) (nL := 4) (rt := (Option.none : Option Jvm.ClassFile.FieldType)) (blk := bX10_grown_0) (T := []) 0 hX10_grown_0 zChks_nil rfl rfl rfl (Nat.le_of_ble_eq_true rfl) (Nat.le_of_ble_eq_true rfl) ?_
  simp only [bX10_grown_0, zRun_cons, zRun_nil, zLk, zSto, zIns, zFil, zf0, zf1, zf2, zf3, List.filter_cons, List.filter_nil, Nat.reduceAdd, Nat.reduceEqDiff, Nat.reduceLT, Nat.reduceLeDiff, Nat.reduceBEq, Nat.reduceBNe, reduceIte, if_true, if_false, Bool.false_and, Bool.true_and, Bool.and_true, Bool.and_false, Bool.not_false, Bool.not_true, Bool.false_eq_true, beq_self_eq_true, BEq.rfl, zCat1, zCat2, zCat3, zKdI, zKdL, zKdR, true_and, and_true, zSI, zSL, zSR, zu_at, and_self, and_false, false_and, lv_args, zKdZ, zKdO, zB01, zB11, Option.toList_none, Option.toList_some, List.nil_append, List.cons_append, true_or, or_true, zRow_rd, zu_rd, zo_aload_n, zo_getfield, zo_bipush, zo_iadd, zo_iload_n, zo_iastore, zo_dup, zo_iconst, zo_putfield, zo_putfield_2, zo_putfield_3, zo_return_, zb_64, zi_1, zKd_10_41, zKd_10_23, zKd_10_42, zKd_10_43, zKd_10_45, zKd_10_47, zTy_10_47, zTy_10_23, sh_87, rf_87_41, sh_107, zcl_64, rf_87_42, sh_108, rf_87_43, sh_109, rf_87_45, sh_111, zcl_1, zvi_64_96, zvi_64_128, zvi_1_96, zvi_1_128, zPutC, zKn_0, h1, h2, nI_1]
  simp only [show (64 : Int32) = nI 64 from rfl, nI_add, nI_clamp (n := 64 + n) (by omega), nI_clamp (n := h) (by omega)]
  exact ⟨zvn (by omega) (by decide), zvn (by omega) (by decide), zvn (by omega) (by decide), zvn (by omega) (by decide), hQ⟩
set_option maxRecDepth 20000 in
theorem mo_isCounted (hQ : if I 87 49 = 64 then Q (some (.int 0)) (SH, zu (zu I 87 4 2) 87 5 (I 87 10), L, RF p s r) else Q (some (.int 1)) (SH, zu I 87 49 (I 87 49 + 1), L, RF p s r)) : zXM w mX10_isCounted rX10_isCounted [.ref 87] (SH, I, L, RF p s r) Q := by
  unfold zXM
  refine zBlkR (M := mX10_isCounted) (nL := 1) (rt := (Option.some .boolean)) (blk := bX10_isCounted_0) (T := [(15, bX10_isCounted_15)]) 1 hX10_isCounted_0 (zChks_cons hX10_isCounted_15 zChks_nil) rfl rfl rfl (Nat.le_of_ble_eq_true rfl) (Nat.le_of_ble_eq_true rfl) ?_
  simp only [bX10_isCounted_0, bX10_isCounted_15, zRun_cons, zRun_nil, zLk, zSto, zIns, zFil, zf0, zf1, zf2, zf3, List.filter_cons, List.filter_nil, Nat.reduceAdd, Nat.reduceEqDiff, Nat.reduceLT, Nat.reduceLeDiff, Nat.reduceBEq, Nat.reduceBNe, reduceIte, if_true, if_false, Bool.false_and, Bool.true_and, Bool.and_true, Bool.and_false, Bool.not_false, Bool.not_true, Bool.false_eq_true, beq_self_eq_true, BEq.rfl, zCat1, zCat2, zCat3, zKdI, zKdL, zKdR, true_and, and_true, zSI, zSL, zSR, zu_at, and_self, and_false, false_and, lv_args, zKdZ, zKdO, zB01, zB11, Option.toList_none, Option.toList_some, List.nil_append, List.cons_append, true_or, or_true, zRow_rd, zu_rd, zo_aload_n, zo_getfield, zo_bipush, zo_icmp_ne, zo_iconst, zo_dup, zo_iadd, zo_putfield, zo_putfield_2, zo_putfield_3, zo_ireturn, zb_64, zi_2, zi_1, zKd_10_49, zTy_10_49, sh_87, zcl_64, zcl_2, zcl_1, zRt, zPutC, zKn_s, zKn_0, zFind]
  by_cases h : I 87 49 = 64
  · rw [if_pos h] at hQ
    refine ⟨fun q => absurd h q, fun _ => ?_⟩
    refine z_cV0 (M' := mX10_wrong) (R' := rX10_wrong) (i := 87) [.int 2] [] eX10_wrong k10_220 (by decide +kernel : decode cX10_isCounted 11 = .ok (.invokevirtual 220, 3)) (Nat.le_of_ble_eq_true rfl) ⟨Nat.le_of_ble_eq_true rfl, Nat.le_of_ble_eq_true rfl, Nat.le_of_ble_eq_true rfl, Nat.le_of_ble_eq_true rfl, Nat.le_of_ble_eq_true rfl⟩ rfl rfl rfl sh_87 ?_
    refine mo_wrong ?_
    refine zBlkR (M := mX10_isCounted) (nL := 1) (rt := (Option.some .boolean)) (blk := bX10_isCounted_14) (T := []) 0 hX10_isCounted_14 zChks_nil rfl rfl rfl (Nat.le_of_ble_eq_true rfl) (Nat.le_of_ble_eq_true rfl) ?_
    simp only [bX10_isCounted_14, zRun_cons, zRun_nil, zLk, zSto, zIns, zFil, zf0, zf1, zf2, zf3, List.filter_cons, List.filter_nil, Nat.reduceAdd, Nat.reduceEqDiff, Nat.reduceLT, Nat.reduceLeDiff, Nat.reduceBEq, Nat.reduceBNe, reduceIte, if_true, if_false, Bool.false_and, Bool.true_and, Bool.and_true, Bool.and_false, Bool.not_false, Bool.not_true, Bool.false_eq_true, beq_self_eq_true, BEq.rfl, zCat1, zCat2, zCat3, zKdI, zKdL, zKdR, true_and, and_true, zSI, zSL, zSR, zu_at, and_self, and_false, false_and, lv_args, zKdZ, zKdO, zB01, zB11, Option.toList_none, Option.toList_some, List.nil_append, List.cons_append, true_or, or_true, zRow_rd, zu_rd, zo_ireturn, zRt, zKn_0]
    exact hQ
  · rw [if_neg h] at hQ
    exact ⟨fun _ => hQ, fun q => absurd q h⟩
def zNameMet (kd wh : Int32) : Int32 := if kd = 1 then if wh = 5 then 6 else if wh = 26 then 7 else if wh < 20 then -1 else wh - 20 else -1
set_option maxRecDepth 20000 in
theorem mo_nameMet (hQ : Q (some (.int (zNameMet (I 87 8) (I 87 9)))) (SH, I, L, RF p s r)) : zXM w mX10_nameMet rX10_nameMet [.ref 87] (SH, I, L, RF p s r) Q := by
  unfold zXM
  refine zBlkR (M := mX10_nameMet) (nL := 1) (rt := (Option.some .int)) (blk := bX10_nameMet_0) (T := [(10, bX10_nameMet_10), (23, bX10_nameMet_23), (37, bX10_nameMet_37), (56, bX10_nameMet_56), (57, bX10_nameMet_57)]) 4 hX10_nameMet_0 (zChks_cons hX10_nameMet_10 (zChks_cons hX10_nameMet_23 (zChks_cons hX10_nameMet_37 (zChks_cons hX10_nameMet_56 (zChks_cons hX10_nameMet_57 zChks_nil))))) rfl rfl rfl (Nat.le_of_ble_eq_true rfl) (Nat.le_of_ble_eq_true rfl) ?_
  simp only [bX10_nameMet_0, bX10_nameMet_10, bX10_nameMet_23, bX10_nameMet_37, bX10_nameMet_56, bX10_nameMet_57, zRun_cons, zRun_nil, zLk, zSto, zIns, zFil, zf0, zf1, zf2, zf3, List.filter_cons, List.filter_nil, Nat.reduceAdd, Nat.reduceEqDiff, Nat.reduceLT, Nat.reduceLeDiff, Nat.reduceBEq, Nat.reduceBNe, reduceIte, if_true, if_false, Bool.false_and, Bool.true_and, Bool.and_true, Bool.and_false, Bool.not_false, Bool.not_true, Bool.false_eq_true, beq_self_eq_true, BEq.rfl, zCat1, zCat2, zCat3, zKdI, zKdL, zKdR, true_and, and_true, zSI, zSL, zSR, zu_at, and_self, and_false, false_and, lv_args, zKdZ, zKdO, zB01, zB11, Option.toList_none, Option.toList_some, List.nil_append, List.cons_append, true_or, or_true, zRow_rd, zu_rd, zo_aload_n, zo_getfield, zo_iconst, zo_icmp_eq, zo_ireturn, zo_icmp_ne, zo_bipush, zo_goto, zo_icmp_lt, zo_isub, zi_1, zi_m1, zi_5, zb_6, zb_26, zb_7, zb_20, zKd_10_8, zKd_10_9, sh_87, zcl_1, zcl_5, zcl_6, zcl_26, zcl_7, zcl_20, zRt, zKn_s, zKn_0, zFind]
  unfold zNameMet at hQ
  by_cases h1 : I 87 8 = 1 <;> by_cases h2 : I 87 9 = 5 <;> by_cases h3 : I 87 9 = 26 <;> by_cases h4 : I 87 9 < 20 <;> simp [h1, h2, h3, h4] at hQ ⊢ <;> exact hQ
def zCmp (sg : Int32) (a b : Int64) : Bool := if sg = 5 then decide (a < b) else if sg = 6 then decide (a ≤ b) else if sg = 7 then decide (a = b) else if sg = 8 then !decide (a = b) else if sg = 9 then decide (b ≤ a) else decide (b < a)
set_option maxRecDepth 20000 in
theorem mo_compares {sg : Int32} {a b : Int64} (hQ : Q (some (.int (zb1 (zCmp sg a b)))) μ) : zXM w mX10_compares rX10_compares [.int sg, .long a, .long b] μ Q := by
  unfold zXM
  refine zBlkR (M := mX10_compares) (nL := 5) (rt := (Option.some .boolean)) (blk := bX10_compares_0) (T := []) 0 hX10_compares_0 zChks_nil rfl rfl rfl (Nat.le_of_ble_eq_true rfl) (Nat.le_of_ble_eq_true rfl) ?_
  simp only [bX10_compares_0, zRun_cons, zRun_nil, zLk, zSto, zIns, zFil, zf0, zf1, zf2, zf3, List.filter_cons, List.filter_nil, Nat.reduceAdd, Nat.reduceEqDiff, Nat.reduceLT, Nat.reduceLeDiff, Nat.reduceBEq, Nat.reduceBNe, reduceIte, if_true, if_false, Bool.false_and, Bool.true_and, Bool.and_true, Bool.and_false, Bool.not_false, Bool.not_true, Bool.false_eq_true, beq_self_eq_true, BEq.rfl, zCat1, zCat2, zCat3, zKdI, zKdL, zKdR, true_and, and_true, zSI, zSL, zSR, zu_at, and_self, and_false, false_and, lv_args, zKdZ, zKdO, zB01, zB11, Option.toList_none, Option.toList_some, List.nil_append, List.cons_append, true_or, or_true, zRow_rd, zu_rd, zo_iload_n, zKn_0, zCat2]
  refine z_tsw (dt := 96) [(5, 36), (6, 48), (7, 60), (8, 72), (9, 84)] (by decide +kernel : decode cX10_compares 1 = .ok (.tableswitch 95 5 9 #[35, 47, 59, 71, 83], 35)) (by decide) (by decide) (by decide) ?_
  simp only [zSw_cons, zSw_nil]
  unfold zCmp at hQ
  refine ⟨fun h => ?_, fun h => ⟨fun h1 => ?_, fun h1 => ⟨fun h2 => ?_, fun h2 => ⟨fun h3 => ?_, fun h3 => ⟨fun h4 => ?_, fun h4 => ?_⟩⟩⟩⟩⟩
  · refine zBlkR (M := mX10_compares) (nL := 5) (rt := (Option.some .boolean)) (blk := bX10_compares_36) (T := [(46, bX10_compares_46), (47, bX10_compares_47)]) 1 hX10_compares_36 (zChks_cons hX10_compares_46 (zChks_cons hX10_compares_47 zChks_nil)) rfl rfl rfl (Nat.le_of_ble_eq_true rfl) (Nat.le_of_ble_eq_true rfl) ?_
    simp only [bX10_compares_36, bX10_compares_46, bX10_compares_47, zRun_cons, zRun_nil, zLk, zSto, zIns, zFil, zf0, zf1, zf2, zf3, List.filter_cons, List.filter_nil, Nat.reduceAdd, Nat.reduceEqDiff, Nat.reduceLT, Nat.reduceLeDiff, Nat.reduceBEq, Nat.reduceBNe, reduceIte, if_true, if_false, Bool.false_and, Bool.true_and, Bool.and_true, Bool.and_false, Bool.not_false, Bool.not_true, Bool.false_eq_true, beq_self_eq_true, BEq.rfl, zCat1, zCat2, zCat3, zKdI, zKdL, zKdR, true_and, and_true, zSI, zSL, zSR, zu_at, and_self, and_false, false_and, lv_args, zKdZ, zKdO, zB01, zB11, Option.toList_none, Option.toList_some, List.nil_append, List.cons_append, true_or, or_true, zRow_rd, zu_rd, zo_lload_n, zo_lcmp, zo_if_ge, zo_iconst, zo_goto, zo_ireturn, zi_1, zi_0, zcl_1, zcl_0, zRt, zKn_s, zKn_0, zFind, lc_ge]
    rw [if_pos h] at hQ
    by_cases q : a < b
    · have q2 : ¬ b ≤ a := Int64.not_le.mpr q
      simp [zb1, q] at hQ; simp [q2]; exact hQ
    · have q2 : b ≤ a := Int64.not_lt.mp q
      simp [zb1, q] at hQ; simp [q2]; exact hQ
  · refine zBlkR (M := mX10_compares) (nL := 5) (rt := (Option.some .boolean)) (blk := bX10_compares_48) (T := [(58, bX10_compares_58), (59, bX10_compares_59)]) 1 hX10_compares_48 (zChks_cons hX10_compares_58 (zChks_cons hX10_compares_59 zChks_nil)) rfl rfl rfl (Nat.le_of_ble_eq_true rfl) (Nat.le_of_ble_eq_true rfl) ?_
    simp only [bX10_compares_48, bX10_compares_58, bX10_compares_59, zRun_cons, zRun_nil, zLk, zSto, zIns, zFil, zf0, zf1, zf2, zf3, List.filter_cons, List.filter_nil, Nat.reduceAdd, Nat.reduceEqDiff, Nat.reduceLT, Nat.reduceLeDiff, Nat.reduceBEq, Nat.reduceBNe, reduceIte, if_true, if_false, Bool.false_and, Bool.true_and, Bool.and_true, Bool.and_false, Bool.not_false, Bool.not_true, Bool.false_eq_true, beq_self_eq_true, BEq.rfl, zCat1, zCat2, zCat3, zKdI, zKdL, zKdR, true_and, and_true, zSI, zSL, zSR, zu_at, and_self, and_false, false_and, lv_args, zKdZ, zKdO, zB01, zB11, Option.toList_none, Option.toList_some, List.nil_append, List.cons_append, true_or, or_true, zRow_rd, zu_rd, zo_lload_n, zo_lcmp, zo_if_gt, zo_iconst, zo_goto, zo_ireturn, zi_1, zi_0, zcl_1, zcl_0, zRt, zKn_s, zKn_0, zFind, lc_gt]
    rw [if_neg h, if_pos h1] at hQ
    by_cases q : a ≤ b
    · have q2 : ¬ b < a := Int64.not_lt.mpr q
      simp [zb1, q] at hQ; simp [q2]; exact hQ
    · have q2 : b < a := Int64.not_le.mp q
      simp [zb1, q] at hQ; simp [q2]; exact hQ
  · refine zBlkR (M := mX10_compares) (nL := 5) (rt := (Option.some .boolean)) (blk := bX10_compares_60) (T := [(70, bX10_compares_70), (71, bX10_compares_71)]) 1 hX10_compares_60 (zChks_cons hX10_compares_70 (zChks_cons hX10_compares_71 zChks_nil)) rfl rfl rfl (Nat.le_of_ble_eq_true rfl) (Nat.le_of_ble_eq_true rfl) ?_
    simp only [bX10_compares_60, bX10_compares_70, bX10_compares_71, zRun_cons, zRun_nil, zLk, zSto, zIns, zFil, zf0, zf1, zf2, zf3, List.filter_cons, List.filter_nil, Nat.reduceAdd, Nat.reduceEqDiff, Nat.reduceLT, Nat.reduceLeDiff, Nat.reduceBEq, Nat.reduceBNe, reduceIte, if_true, if_false, Bool.false_and, Bool.true_and, Bool.and_true, Bool.and_false, Bool.not_false, Bool.not_true, Bool.false_eq_true, beq_self_eq_true, BEq.rfl, zCat1, zCat2, zCat3, zKdI, zKdL, zKdR, true_and, and_true, zSI, zSL, zSR, zu_at, and_self, and_false, false_and, lv_args, zKdZ, zKdO, zB01, zB11, Option.toList_none, Option.toList_some, List.nil_append, List.cons_append, true_or, or_true, zRow_rd, zu_rd, zo_lload_n, zo_lcmp, zo_if_ne, zo_iconst, zo_goto, zo_ireturn, zi_1, zi_0, zcl_1, zcl_0, zRt, zKn_s, zKn_0, zFind, lc_eq]
    rw [if_neg h, if_neg h1, if_pos h2] at hQ
    by_cases q : a = b <;> simp [zb1, q] at hQ ⊢ <;> exact hQ
  · refine zBlkR (M := mX10_compares) (nL := 5) (rt := (Option.some .boolean)) (blk := bX10_compares_72) (T := [(82, bX10_compares_82), (83, bX10_compares_83)]) 1 hX10_compares_72 (zChks_cons hX10_compares_82 (zChks_cons hX10_compares_83 zChks_nil)) rfl rfl rfl (Nat.le_of_ble_eq_true rfl) (Nat.le_of_ble_eq_true rfl) ?_
    simp only [bX10_compares_72, bX10_compares_82, bX10_compares_83, zRun_cons, zRun_nil, zLk, zSto, zIns, zFil, zf0, zf1, zf2, zf3, List.filter_cons, List.filter_nil, Nat.reduceAdd, Nat.reduceEqDiff, Nat.reduceLT, Nat.reduceLeDiff, Nat.reduceBEq, Nat.reduceBNe, reduceIte, if_true, if_false, Bool.false_and, Bool.true_and, Bool.and_true, Bool.and_false, Bool.not_false, Bool.not_true, Bool.false_eq_true, beq_self_eq_true, BEq.rfl, zCat1, zCat2, zCat3, zKdI, zKdL, zKdR, true_and, and_true, zSI, zSL, zSR, zu_at, and_self, and_false, false_and, lv_args, zKdZ, zKdO, zB01, zB11, Option.toList_none, Option.toList_some, List.nil_append, List.cons_append, true_or, or_true, zRow_rd, zu_rd, zo_lload_n, zo_lcmp, zo_if_eq, zo_iconst, zo_goto, zo_ireturn, zi_1, zi_0, zcl_1, zcl_0, zRt, zKn_s, zKn_0, zFind, lc_eq]
    rw [if_neg h, if_neg h1, if_neg h2, if_pos h3] at hQ
    by_cases q : a = b <;> simp [zb1, q] at hQ ⊢ <;> exact hQ
  · refine zBlkR (M := mX10_compares) (nL := 5) (rt := (Option.some .boolean)) (blk := bX10_compares_84) (T := [(94, bX10_compares_94), (95, bX10_compares_95)]) 1 hX10_compares_84 (zChks_cons hX10_compares_94 (zChks_cons hX10_compares_95 zChks_nil)) rfl rfl rfl (Nat.le_of_ble_eq_true rfl) (Nat.le_of_ble_eq_true rfl) ?_
    simp only [bX10_compares_84, bX10_compares_94, bX10_compares_95, zRun_cons, zRun_nil, zLk, zSto, zIns, zFil, zf0, zf1, zf2, zf3, List.filter_cons, List.filter_nil, Nat.reduceAdd, Nat.reduceEqDiff, Nat.reduceLT, Nat.reduceLeDiff, Nat.reduceBEq, Nat.reduceBNe, reduceIte, if_true, if_false, Bool.false_and, Bool.true_and, Bool.and_true, Bool.and_false, Bool.not_false, Bool.not_true, Bool.false_eq_true, beq_self_eq_true, BEq.rfl, zCat1, zCat2, zCat3, zKdI, zKdL, zKdR, true_and, and_true, zSI, zSL, zSR, zu_at, and_self, and_false, false_and, lv_args, zKdZ, zKdO, zB01, zB11, Option.toList_none, Option.toList_some, List.nil_append, List.cons_append, true_or, or_true, zRow_rd, zu_rd, zo_lload_n, zo_lcmp, zo_if_lt, zo_iconst, zo_goto, zo_ireturn, zi_1, zi_0, zcl_1, zcl_0, zRt, zKn_s, zKn_0, zFind, lc_lt]
    rw [if_neg h, if_neg h1, if_neg h2, if_neg h3, if_pos h4] at hQ
    by_cases q : b ≤ a
    · have q2 : ¬ a < b := Int64.not_lt.mpr q
      simp [zb1, q] at hQ; simp [q2]; exact hQ
    · have q2 : a < b := Int64.not_le.mp q
      simp [zb1, q] at hQ; simp [q2]; exact hQ
  · refine zBlkR (M := mX10_compares) (nL := 5) (rt := (Option.some .boolean)) (blk := bX10_compares_96) (T := [(106, bX10_compares_106), (107, bX10_compares_107)]) 1 hX10_compares_96 (zChks_cons hX10_compares_106 (zChks_cons hX10_compares_107 zChks_nil)) rfl rfl rfl (Nat.le_of_ble_eq_true rfl) (Nat.le_of_ble_eq_true rfl) ?_
    simp only [bX10_compares_96, bX10_compares_106, bX10_compares_107, zRun_cons, zRun_nil, zLk, zSto, zIns, zFil, zf0, zf1, zf2, zf3, List.filter_cons, List.filter_nil, Nat.reduceAdd, Nat.reduceEqDiff, Nat.reduceLT, Nat.reduceLeDiff, Nat.reduceBEq, Nat.reduceBNe, reduceIte, if_true, if_false, Bool.false_and, Bool.true_and, Bool.and_true, Bool.and_false, Bool.not_false, Bool.not_true, Bool.false_eq_true, beq_self_eq_true, BEq.rfl, zCat1, zCat2, zCat3, zKdI, zKdL, zKdR, true_and, and_true, zSI, zSL, zSR, zu_at, and_self, and_false, false_and, lv_args, zKdZ, zKdO, zB01, zB11, Option.toList_none, Option.toList_some, List.nil_append, List.cons_append, true_or, or_true, zRow_rd, zu_rd, zo_lload_n, zo_lcmp, zo_if_le, zo_iconst, zo_goto, zo_ireturn, zi_1, zi_0, zcl_1, zcl_0, zRt, zKn_s, zKn_0, zFind, lc_le]
    rw [if_neg h, if_neg h1, if_neg h2, if_neg h3, if_neg h4] at hQ
    by_cases q : b < a
    · have q2 : ¬ a ≤ b := Int64.not_le.mpr q
      simp [zb1, q] at hQ; simp [q2]; exact hQ
    · have q2 : a ≤ b := Int64.not_lt.mp q
      simp [zb1, q] at hQ; simp [q2]; exact hQ
end ZMT
