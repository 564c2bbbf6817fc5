/-! ===== TOKENS: the class's leaves ===== -/
def oLet (b : Nat) : Bool := decide (97 ≤ b) && decide (b ≤ 122)
def oDig (b : Nat) : Bool := decide (48 ≤ b) && decide (b ≤ 57)
def oSpc (b : Nat) : Bool := decide (b = 32) || decide (b = 10)
/-- the class's kind of a mark -/
def oMk (b : Nat) : Nat := if b = 59 then 4 else if b = 40 then 5 else if b = 41 then 6 else if b = 61 then 9 else if b = 43 then 13 else if b = 45 then 14 else if b = 42 then 15 else if b = 47 then 16 else 1
/-- the class's kind of a comparison: first sign, next byte (32 at the end) -/
def oCp (a b : Nat) : Nat := if a = 62 then (if b = 61 then 11 else 12) else if b = 61 then 8 else if b = 62 then 10 else 7
section ZN98
variable {w : zP} {Q : Option Value → zMem → Prop} {μ : zMem} {I J : Nat → Nat → Int32} {L K : Nat → Nat → Int64} {p s : Nat} {r : Option Nat} {a b c i k n : Nat} {x y : Int32}
theorem sb_let : ∀ b, b < 256 → ((97 ≤ oSb b ∧ oSb b ≤ 122) ↔ oLet b = true) := by decide +kernel
theorem sb_dig : ∀ b, b < 256 → ((48 ≤ oSb b ∧ oSb b ≤ 57) ↔ oDig b = true) := by decide +kernel
theorem sb_eq : ∀ b, b < 256 → ∀ c, c < 128 → ((oSb b = nI c) ↔ b = c) := by decide +kernel
set_option maxRecDepth 20000 in
theorem sp_isLetter (hb : b < 256) (hQ : Q (some (.int (zb1 (oLet b)))) μ) : zXM w mX7_isLetter rX7_isLetter [.int (oSb b)] μ Q := by
  unfold zXM
  have h := sb_let b hb
  generalize oSb b = v at *
  by_cases g1 : v < 97
  · have hl : oLet b = false := by
      cases hl : oLet b with
      | false => rfl
      | true => exact absurd (h.mpr hl).1 (Int32.not_le.mpr g1)
    rw [hl] at hQ
    have x1 : (v < 97) = True := eq_true g1
    refine zBlkR (M := mX7_isLetter) (nL := 1) (rt := (Option.some .boolean)) (blk := bX7_isLetter_0) (T := [(16, bX7_isLetter_16), (17, bX7_isLetter_17)]) 1 hX7_isLetter_0 (zChks_cons hX7_isLetter_16 (zChks_cons hX7_isLetter_17 zChks_nil)) rfl rfl rfl (Nat.le_of_ble_eq_true rfl) (Nat.le_of_ble_eq_true rfl) ?_
    simp (implicitDefEqProofs := false) only [bX7_isLetter_0, bX7_isLetter_16, bX7_isLetter_17, zRun_cons, zRun_nil, zLk, zSto, zIns, zFil, zf0, zf1, zf2, zf3, List.filter_cons, List.filter_nil, Nat.reduceAdd, Nat.reduceEqDiff, Nat.reduceLT, Nat.reduceLeDiff, Nat.reduceBEq, Nat.reduceBNe, reduceIte, if_true, if_false, Bool.false_and, Bool.true_and, Bool.and_true, Bool.and_false, Bool.not_false, Bool.not_true, Bool.false_eq_true, beq_self_eq_true, BEq.rfl, zCat1, zCat2, zCat3, zKdI, zKdL, zKdR, true_and, and_true, zSI, zSL, zSR, zu_at, and_self, and_false, false_and, lv_args, zKdZ, zKdO, zB01, zB11, Option.toList_none, Option.toList_some, List.nil_append, List.cons_append, true_or, or_true, zRow_rd, zu_rd, zo_iload_n, zo_bipush, zo_icmp_lt, zo_icmp_gt, zo_iconst, zo_goto, zo_ireturn, zb_97, zb_122, zi_1, zi_0, zcl_97, zcl_122, zcl_1, zcl_0, zRt, zKn_s, zKn_0, zFind, x1, zN10, zN01, not_true_eq_false, not_false_eq_true, false_implies, true_implies, implies_true, eq_self, nI_1, nI_40, nI_7, vz0, vz1, zb1_e0, zb1_n0]
    exact hQ
  · have x1 : (v < 97) = False := eq_false g1
    by_cases g2 : 122 < v
    · have hl : oLet b = false := by
        cases hl : oLet b with
        | false => rfl
        | true => exact absurd (h.mpr hl).2 (Int32.not_le.mpr g2)
      rw [hl] at hQ
      have x2 : (122 < v) = True := eq_true g2
      refine zBlkR (M := mX7_isLetter) (nL := 1) (rt := (Option.some .boolean)) (blk := bX7_isLetter_0) (T := [(16, bX7_isLetter_16), (17, bX7_isLetter_17)]) 1 hX7_isLetter_0 (zChks_cons hX7_isLetter_16 (zChks_cons hX7_isLetter_17 zChks_nil)) rfl rfl rfl (Nat.le_of_ble_eq_true rfl) (Nat.le_of_ble_eq_true rfl) ?_
      simp (implicitDefEqProofs := false) only [bX7_isLetter_0, bX7_isLetter_16, bX7_isLetter_17, zRun_cons, zRun_nil, zLk, zSto, zIns, zFil, zf0, zf1, zf2, zf3, List.filter_cons, List.filter_nil, Nat.reduceAdd, Nat.reduceEqDiff, Nat.reduceLT, Nat.reduceLeDiff, Nat.reduceBEq, Nat.reduceBNe, reduceIte, if_true, if_false, Bool.false_and, Bool.true_and, Bool.and_true, Bool.and_false, Bool.not_false, Bool.not_true, Bool.false_eq_true, beq_self_eq_true, BEq.rfl, zCat1, zCat2, zCat3, zKdI, zKdL, zKdR, true_and, and_true, zSI, zSL, zSR, zu_at, and_self, and_false, false_and, lv_args, zKdZ, zKdO, zB01, zB11, Option.toList_none, Option.toList_some, List.nil_append, List.cons_append, true_or, or_true, zRow_rd, zu_rd, zo_iload_n, zo_bipush, zo_icmp_lt, zo_icmp_gt, zo_iconst, zo_goto, zo_ireturn, zb_97, zb_122, zi_1, zi_0, zcl_97, zcl_122, zcl_1, zcl_0, zRt, zKn_s, zKn_0, zFind, x1, x2, zN10, zN01, not_true_eq_false, not_false_eq_true, false_implies, true_implies, implies_true, eq_self, nI_1, nI_40, nI_7, vz0, vz1, zb1_e0, zb1_n0]
      exact hQ
    · have x2 : (122 < v) = False := eq_false g2
      have hl : oLet b = true := h.mp ⟨Int32.not_lt.mp g1, Int32.not_lt.mp g2⟩
      rw [hl] at hQ
      refine zBlkR (M := mX7_isLetter) (nL := 1) (rt := (Option.some .boolean)) (blk := bX7_isLetter_0) (T := [(16, bX7_isLetter_16), (17, bX7_isLetter_17)]) 1 hX7_isLetter_0 (zChks_cons hX7_isLetter_16 (zChks_cons hX7_isLetter_17 zChks_nil)) rfl rfl rfl (Nat.le_of_ble_eq_true rfl) (Nat.le_of_ble_eq_true rfl) ?_
      simp (implicitDefEqProofs := false) only [bX7_isLetter_0, bX7_isLetter_16, bX7_isLetter_17, zRun_cons, zRun_nil, zLk, zSto, zIns, zFil, zf0, zf1, zf2, zf3, List.filter_cons, List.filter_nil, Nat.reduceAdd, Nat.reduceEqDiff, Nat.reduceLT, Nat.reduceLeDiff, Nat.reduceBEq, Nat.reduceBNe, reduceIte, if_true, if_false, Bool.false_and, Bool.true_and, Bool.and_true, Bool.and_false, Bool.not_false, Bool.not_true, Bool.false_eq_true, beq_self_eq_true, BEq.rfl, zCat1, zCat2, zCat3, zKdI, zKdL, zKdR, true_and, and_true, zSI, zSL, zSR, zu_at, and_self, and_false, false_and, lv_args, zKdZ, zKdO, zB01, zB11, Option.toList_none, Option.toList_some, List.nil_append, List.cons_append, true_or, or_true, zRow_rd, zu_rd, zo_iload_n, zo_bipush, zo_icmp_lt, zo_icmp_gt, zo_iconst, zo_goto, zo_ireturn, zb_97, zb_122, zi_1, zi_0, zcl_97, zcl_122, zcl_1, zcl_0, zRt, zKn_s, zKn_0, zFind, x1, x2, zN10, zN01, not_true_eq_false, not_false_eq_true, false_implies, true_implies, implies_true, eq_self, nI_1, nI_40, nI_7, vz0, vz1, zb1_e0, zb1_n0]
      exact hQ
set_option maxRecDepth 20000 in
theorem sp_isDigit (hb : b < 256) (hQ : Q (some (.int (zb1 (oDig b)))) μ) : zXM w mX7_isDigit rX7_isDigit [.int (oSb b)] μ Q := by
  unfold zXM
  have h := sb_dig b hb
  generalize oSb b = v at *
  by_cases g1 : v < 48
  · have hl : oDig b = false := by
      cases hl : oDig b with
      | false => rfl
      | true => exact absurd (h.mpr hl).1 (Int32.not_le.mpr g1)
    rw [hl] at hQ
    have x1 : (v < 48) = True := eq_true g1
    refine zBlkR (M := mX7_isDigit) (nL := 1) (rt := (Option.some .boolean)) (blk := bX7_isDigit_0) (T := [(16, bX7_isDigit_16), (17, bX7_isDigit_17)]) 1 hX7_isDigit_0 (zChks_cons hX7_isDigit_16 (zChks_cons hX7_isDigit_17 zChks_nil)) rfl rfl rfl (Nat.le_of_ble_eq_true rfl) (Nat.le_of_ble_eq_true rfl) ?_
    simp (implicitDefEqProofs := false) only [bX7_isDigit_0, bX7_isDigit_16, bX7_isDigit_17, zRun_cons, zRun_nil, zLk, zSto, zIns, zFil, zf0, zf1, zf2, zf3, List.filter_cons, List.filter_nil, Nat.reduceAdd, Nat.reduceEqDiff, Nat.reduceLT, Nat.reduceLeDiff, Nat.reduceBEq, Nat.reduceBNe, reduceIte, if_true, if_false, Bool.false_and, Bool.true_and, Bool.and_true, Bool.and_false, Bool.not_false, Bool.not_true, Bool.false_eq_true, beq_self_eq_true, BEq.rfl, zCat1, zCat2, zCat3, zKdI, zKdL, zKdR, true_and, and_true, zSI, zSL, zSR, zu_at, and_self, and_false, false_and, lv_args, zKdZ, zKdO, zB01, zB11, Option.toList_none, Option.toList_some, List.nil_append, List.cons_append, true_or, or_true, zRow_rd, zu_rd, zo_iload_n, zo_bipush, zo_icmp_lt, zo_icmp_gt, zo_iconst, zo_goto, zo_ireturn, zb_48, zb_57, zi_1, zi_0, zcl_48, zcl_57, zcl_1, zcl_0, zRt, zKn_s, zKn_0, zFind, x1, zN10, zN01, not_true_eq_false, not_false_eq_true, false_implies, true_implies, implies_true, eq_self, nI_1, nI_40, nI_7, vz0, vz1, zb1_e0, zb1_n0]
    exact hQ
  · have x1 : (v < 48) = False := eq_false g1
    by_cases g2 : 57 < v
    · have hl : oDig b = false := by
        cases hl : oDig b with
        | false => rfl
        | true => exact absurd (h.mpr hl).2 (Int32.not_le.mpr g2)
      rw [hl] at hQ
      have x2 : (57 < v) = True := eq_true g2
      refine zBlkR (M := mX7_isDigit) (nL := 1) (rt := (Option.some .boolean)) (blk := bX7_isDigit_0) (T := [(16, bX7_isDigit_16), (17, bX7_isDigit_17)]) 1 hX7_isDigit_0 (zChks_cons hX7_isDigit_16 (zChks_cons hX7_isDigit_17 zChks_nil)) rfl rfl rfl (Nat.le_of_ble_eq_true rfl) (Nat.le_of_ble_eq_true rfl) ?_
      simp (implicitDefEqProofs := false) only [bX7_isDigit_0, bX7_isDigit_16, bX7_isDigit_17, zRun_cons, zRun_nil, zLk, zSto, zIns, zFil, zf0, zf1, zf2, zf3, List.filter_cons, List.filter_nil, Nat.reduceAdd, Nat.reduceEqDiff, Nat.reduceLT, Nat.reduceLeDiff, Nat.reduceBEq, Nat.reduceBNe, reduceIte, if_true, if_false, Bool.false_and, Bool.true_and, Bool.and_true, Bool.and_false, Bool.not_false, Bool.not_true, Bool.false_eq_true, beq_self_eq_true, BEq.rfl, zCat1, zCat2, zCat3, zKdI, zKdL, zKdR, true_and, and_true, zSI, zSL, zSR, zu_at, and_self, and_false, false_and, lv_args, zKdZ, zKdO, zB01, zB11, Option.toList_none, Option.toList_some, List.nil_append, List.cons_append, true_or, or_true, zRow_rd, zu_rd, zo_iload_n, zo_bipush, zo_icmp_lt, zo_icmp_gt, zo_iconst, zo_goto, zo_ireturn, zb_48, zb_57, zi_1, zi_0, zcl_48, zcl_57, zcl_1, zcl_0, zRt, zKn_s, zKn_0, zFind, x1, x2, zN10, zN01, not_true_eq_false, not_false_eq_true, false_implies, true_implies, implies_true, eq_self, nI_1, nI_40, nI_7, vz0, vz1, zb1_e0, zb1_n0]
      exact hQ
    · have x2 : (57 < v) = False := eq_false g2
      have hl : oDig b = true := h.mp ⟨Int32.not_lt.mp g1, Int32.not_lt.mp g2⟩
      rw [hl] at hQ
      refine zBlkR (M := mX7_isDigit) (nL := 1) (rt := (Option.some .boolean)) (blk := bX7_isDigit_0) (T := [(16, bX7_isDigit_16), (17, bX7_isDigit_17)]) 1 hX7_isDigit_0 (zChks_cons hX7_isDigit_16 (zChks_cons hX7_isDigit_17 zChks_nil)) rfl rfl rfl (Nat.le_of_ble_eq_true rfl) (Nat.le_of_ble_eq_true rfl) ?_
      simp (implicitDefEqProofs := false) only [bX7_isDigit_0, bX7_isDigit_16, bX7_isDigit_17, zRun_cons, zRun_nil, zLk, zSto, zIns, zFil, zf0, zf1, zf2, zf3, List.filter_cons, List.filter_nil, Nat.reduceAdd, Nat.reduceEqDiff, Nat.reduceLT, Nat.reduceLeDiff, Nat.reduceBEq, Nat.reduceBNe, reduceIte, if_true, if_false, Bool.false_and, Bool.true_and, Bool.and_true, Bool.and_false, Bool.not_false, Bool.not_true, Bool.false_eq_true, beq_self_eq_true, BEq.rfl, zCat1, zCat2, zCat3, zKdI, zKdL, zKdR, true_and, and_true, zSI, zSL, zSR, zu_at, and_self, and_false, false_and, lv_args, zKdZ, zKdO, zB01, zB11, Option.toList_none, Option.toList_some, List.nil_append, List.cons_append, true_or, or_true, zRow_rd, zu_rd, zo_iload_n, zo_bipush, zo_icmp_lt, zo_icmp_gt, zo_iconst, zo_goto, zo_ireturn, zb_48, zb_57, zi_1, zi_0, zcl_48, zcl_57, zcl_1, zcl_0, zRt, zKn_s, zKn_0, zFind, x1, x2, zN10, zN01, not_true_eq_false, not_false_eq_true, false_implies, true_implies, implies_true, eq_self, nI_1, nI_40, nI_7, vz0, vz1, zb1_e0, zb1_n0]
      exact hQ
set_option maxRecDepth 20000 in
theorem sp_comparison (ha : a < 256) (hb : b < 256) (hQ : Q (some (.int (nI (oCp a b)))) μ) : zXM w mX7_comparison rX7_comparison [.int (oSb a), .int (oSb b)] μ Q := by
  unfold zXM
  have x1 : (oSb a = 62) = (a = 62) := propext (sb_eq a ha 62 (by omega))
  have x2 : (oSb b = 61) = (b = 61) := propext (sb_eq b hb 61 (by omega))
  have x3 : (oSb b = 62) = (b = 62) := propext (sb_eq b hb 62 (by omega))
  unfold oCp at hQ
  refine zBlkR (M := mX7_comparison) (nL := 2) (rt := (Option.some .int)) (blk := bX7_comparison_0) (T := [(17, bX7_comparison_17), (19, bX7_comparison_19), (20, bX7_comparison_20), (31, bX7_comparison_31), (42, bX7_comparison_42), (44, bX7_comparison_44)]) 3 hX7_comparison_0 (zChks_cons hX7_comparison_17 (zChks_cons hX7_comparison_19 (zChks_cons hX7_comparison_20 (zChks_cons hX7_comparison_31 (zChks_cons hX7_comparison_42 (zChks_cons hX7_comparison_44 zChks_nil)))))) rfl rfl rfl (Nat.le_of_ble_eq_true rfl) (Nat.le_of_ble_eq_true rfl) ?_
  simp (implicitDefEqProofs := false) only [bX7_comparison_0, bX7_comparison_17, bX7_comparison_19, bX7_comparison_20, bX7_comparison_31, bX7_comparison_42, bX7_comparison_44, zRun_cons, zRun_nil, zLk, zSto, zIns, zFil, zf0, zf1, zf2, zf3, List.filter_cons, List.filter_nil, Nat.reduceAdd, Nat.reduceEqDiff, Nat.reduceLT, Nat.reduceLeDiff, Nat.reduceBEq, Nat.reduceBNe, reduceIte, if_true, if_false, Bool.false_and, Bool.true_and, Bool.and_true, Bool.and_false, Bool.not_false, Bool.not_true, Bool.false_eq_true, beq_self_eq_true, BEq.rfl, zCat1, zCat2, zCat3, zKdI, zKdL, zKdR, true_and, and_true, zSI, zSL, zSR, zu_at, and_self, and_false, false_and, lv_args, zKdZ, zKdO, zB01, zB11, Option.toList_none, Option.toList_some, List.nil_append, List.cons_append, true_or, or_true, zRow_rd, zu_rd, zo_iload_n, zo_bipush, zo_icmp_ne, zo_goto, zo_ireturn, zb_62, zb_61, zb_11, zb_12, zb_8, zb_10, zb_7, zcl_62, zcl_61, zcl_11, zcl_12, zcl_8, zcl_10, zcl_7, zRt, zKn_s, zKn_0, zFind, x1, x2, x3, zN10, zN01, not_true_eq_false, not_false_eq_true, false_implies, true_implies, implies_true, eq_self, nI_1, nI_40, nI_7, vz0, vz1, zb1_e0, zb1_n0]
  by_cases g1 : a = 62 <;> by_cases g2 : b = 61 <;> by_cases g3 : b = 62 <;> simp [g1, g2, g3] at hQ ⊢ <;> exact hQ
set_option maxRecDepth 20000 in
theorem sp_markKind (hb : b < 256) (hQ : Q (some (.int (nI (oMk b)))) μ) : zXM w mX7_markKind rX7_markKind [.int (oSb b)] μ Q := by
  unfold zXM
  have q104 : oMk b = 4 → zX w mX7_markKind rX7_markKind Q 0 0 104 [(0, Value.int (oSb b))] [] μ := by
    intro e
    rw [e] at hQ
    refine zBlkR (M := mX7_markKind) (nL := 1) (rt := (Option.some .int)) (blk := bX7_markKind_104) (T := []) 0 hX7_markKind_104 zChks_nil rfl rfl rfl (Nat.le_of_ble_eq_true rfl) (Nat.le_of_ble_eq_true rfl) ?_
    simp (implicitDefEqProofs := false) only [bX7_markKind_104, zRun_cons, zRun_nil, zLk, zSto, zIns, zFil, zf0, zf1, zf2, zf3, List.filter_cons, List.filter_nil, Nat.reduceAdd, Nat.reduceEqDiff, Nat.reduceLT, Nat.reduceLeDiff, Nat.reduceBEq, Nat.reduceBNe, reduceIte, if_true, if_false, Bool.false_and, Bool.true_and, Bool.and_true, Bool.and_false, Bool.not_false, Bool.not_true, Bool.false_eq_true, beq_self_eq_true, BEq.rfl, zCat1, zCat2, zCat3, zKdI, zKdL, zKdR, true_and, and_true, zSI, zSL, zSR, zu_at, and_self, and_false, false_and, lv_args, zKdZ, zKdO, zB01, zB11, Option.toList_none, Option.toList_some, List.nil_append, List.cons_append, true_or, or_true, zRow_rd, zu_rd, zo_iconst, zo_ireturn, zi_4, zcl_4, zRt, zKn_0, zN10, zN01, not_true_eq_false, not_false_eq_true, false_implies, true_implies, implies_true, eq_self, nI_1, nI_40, nI_7, vz0, vz1, zb1_e0, zb1_n0]
    exact hQ
  have q106 : oMk b = 5 → zX w mX7_markKind rX7_markKind Q 0 0 106 [(0, Value.int (oSb b))] [] μ := by
    intro e
    rw [e] at hQ
    refine zBlkR (M := mX7_markKind) (nL := 1) (rt := (Option.some .int)) (blk := bX7_markKind_106) (T := []) 0 hX7_markKind_106 zChks_nil rfl rfl rfl (Nat.le_of_ble_eq_true rfl) (Nat.le_of_ble_eq_true rfl) ?_
    simp (implicitDefEqProofs := false) only [bX7_markKind_106, zRun_cons, zRun_nil, zLk, zSto, zIns, zFil, zf0, zf1, zf2, zf3, List.filter_cons, List.filter_nil, Nat.reduceAdd, Nat.reduceEqDiff, Nat.reduceLT, Nat.reduceLeDiff, Nat.reduceBEq, Nat.reduceBNe, reduceIte, if_true, if_false, Bool.false_and, Bool.true_and, Bool.and_true, Bool.and_false, Bool.not_false, Bool.not_true, Bool.false_eq_true, beq_self_eq_true, BEq.rfl, zCat1, zCat2, zCat3, zKdI, zKdL, zKdR, true_and, and_true, zSI, zSL, zSR, zu_at, and_self, and_false, false_and, lv_args, zKdZ, zKdO, zB01, zB11, Option.toList_none, Option.toList_some, List.nil_append, List.cons_append, true_or, or_true, zRow_rd, zu_rd, zo_iconst, zo_ireturn, zi_5, zcl_5, zRt, zKn_0, zN10, zN01, not_true_eq_false, not_false_eq_true, false_implies, true_implies, implies_true, eq_self, nI_1, nI_40, nI_7, vz0, vz1, zb1_e0, zb1_n0]
    exact hQ
  have q108 : oMk b = 6 → zX w mX7_markKind rX7_markKind Q 0 0 108 [(0, Value.int (oSb b))] [] μ := by
    intro e
    rw [e] at hQ
    refine zBlkR (M := mX7_markKind) (nL := 1) (rt := (Option.some .int)) (blk := bX7_markKind_108) (T := []) 0 hX7_markKind_108 zChks_nil rfl rfl rfl (Nat.le_of_ble_eq_true rfl) (Nat.le_of_ble_eq_true rfl) ?_
    simp (implicitDefEqProofs := false) only [bX7_markKind_108, zRun_cons, zRun_nil, zLk, zSto, zIns, zFil, zf0, zf1, zf2, zf3, List.filter_cons, List.filter_nil, Nat.reduceAdd, Nat.reduceEqDiff, Nat.reduceLT, Nat.reduceLeDiff, Nat.reduceBEq, Nat.reduceBNe, reduceIte, if_true, if_false, Bool.false_and, Bool.true_and, Bool.and_true, Bool.and_false, Bool.not_false, Bool.not_true, Bool.false_eq_true, beq_self_eq_true, BEq.rfl, zCat1, zCat2, zCat3, zKdI, zKdL, zKdR, true_and, and_true, zSI, zSL, zSR, zu_at, and_self, and_false, false_and, lv_args, zKdZ, zKdO, zB01, zB11, Option.toList_none, Option.toList_some, List.nil_append, List.cons_append, true_or, or_true, zRow_rd, zu_rd, zo_bipush, zo_ireturn, zb_6, zcl_6, zRt, zKn_0, zN10, zN01, not_true_eq_false, not_false_eq_true, false_implies, true_implies, implies_true, eq_self, nI_1, nI_40, nI_7, vz0, vz1, zb1_e0, zb1_n0]
    exact hQ
  have q111 : oMk b = 9 → zX w mX7_markKind rX7_markKind Q 0 0 111 [(0, Value.int (oSb b))] [] μ := by
    intro e
    rw [e] at hQ
    refine zBlkR (M := mX7_markKind) (nL := 1) (rt := (Option.some .int)) (blk := bX7_markKind_111) (T := []) 0 hX7_markKind_111 zChks_nil rfl rfl rfl (Nat.le_of_ble_eq_true rfl) (Nat.le_of_ble_eq_true rfl) ?_
    simp (implicitDefEqProofs := false) only [bX7_markKind_111, zRun_cons, zRun_nil, zLk, zSto, zIns, zFil, zf0, zf1, zf2, zf3, List.filter_cons, List.filter_nil, Nat.reduceAdd, Nat.reduceEqDiff, Nat.reduceLT, Nat.reduceLeDiff, Nat.reduceBEq, Nat.reduceBNe, reduceIte, if_true, if_false, Bool.false_and, Bool.true_and, Bool.and_true, Bool.and_false, Bool.not_false, Bool.not_true, Bool.false_eq_true, beq_self_eq_true, BEq.rfl, zCat1, zCat2, zCat3, zKdI, zKdL, zKdR, true_and, and_true, zSI, zSL, zSR, zu_at, and_self, and_false, false_and, lv_args, zKdZ, zKdO, zB01, zB11, Option.toList_none, Option.toList_some, List.nil_append, List.cons_append, true_or, or_true, zRow_rd, zu_rd, zo_bipush, zo_ireturn, zb_9, zcl_9, zRt, zKn_0, zN10, zN01, not_true_eq_false, not_false_eq_true, false_implies, true_implies, implies_true, eq_self, nI_1, nI_40, nI_7, vz0, vz1, zb1_e0, zb1_n0]
    exact hQ
  have q114 : oMk b = 13 → zX w mX7_markKind rX7_markKind Q 0 0 114 [(0, Value.int (oSb b))] [] μ := by
    intro e
    rw [e] at hQ
    refine zBlkR (M := mX7_markKind) (nL := 1) (rt := (Option.some .int)) (blk := bX7_markKind_114) (T := []) 0 hX7_markKind_114 zChks_nil rfl rfl rfl (Nat.le_of_ble_eq_true rfl) (Nat.le_of_ble_eq_true rfl) ?_
    simp (implicitDefEqProofs := false) only [bX7_markKind_114, zRun_cons, zRun_nil, zLk, zSto, zIns, zFil, zf0, zf1, zf2, zf3, List.filter_cons, List.filter_nil, Nat.reduceAdd, Nat.reduceEqDiff, Nat.reduceLT, Nat.reduceLeDiff, Nat.reduceBEq, Nat.reduceBNe, reduceIte, if_true, if_false, Bool.false_and, Bool.true_and, Bool.and_true, Bool.and_false, Bool.not_false, Bool.not_true, Bool.false_eq_true, beq_self_eq_true, BEq.rfl, zCat1, zCat2, zCat3, zKdI, zKdL, zKdR, true_and, and_true, zSI, zSL, zSR, zu_at, and_self, and_false, false_and, lv_args, zKdZ, zKdO, zB01, zB11, Option.toList_none, Option.toList_some, List.nil_append, List.cons_append, true_or, or_true, zRow_rd, zu_rd, zo_bipush, zo_ireturn, zb_13, zcl_13, zRt, zKn_0, zN10, zN01, not_true_eq_false, not_false_eq_true, false_implies, true_implies, implies_true, eq_self, nI_1, nI_40, nI_7, vz0, vz1, zb1_e0, zb1_n0]
    exact hQ
  have q117 : oMk b = 14 → zX w mX7_markKind rX7_markKind Q 0 0 117 [(0, Value.int (oSb b))] [] μ := by
    intro e
    rw [e] at hQ
    refine zBlkR (M := mX7_markKind) (nL := 1) (rt := (Option.some .int)) (blk := bX7_markKind_117) (T := []) 0 hX7_markKind_117 zChks_nil rfl rfl rfl (Nat.le_of_ble_eq_true rfl) (Nat.le_of_ble_eq_true rfl) ?_
    simp (implicitDefEqProofs := false) only [bX7_markKind_117, zRun_cons, zRun_nil, zLk, zSto, zIns, zFil, zf0, zf1, zf2, zf3, List.filter_cons, List.filter_nil, Nat.reduceAdd, Nat.reduceEqDiff, Nat.reduceLT, Nat.reduceLeDiff, Nat.reduceBEq, Nat.reduceBNe, reduceIte, if_true, if_false, Bool.false_and, Bool.true_and, Bool.and_true, Bool.and_false, Bool.not_false, Bool.not_true, Bool.false_eq_true, beq_self_eq_true, BEq.rfl, zCat1, zCat2, zCat3, zKdI, zKdL, zKdR, true_and, and_true, zSI, zSL, zSR, zu_at, and_self, and_false, false_and, lv_args, zKdZ, zKdO, zB01, zB11, Option.toList_none, Option.toList_some, List.nil_append, List.cons_append, true_or, or_true, zRow_rd, zu_rd, zo_bipush, zo_ireturn, zb_14, zcl_14, zRt, zKn_0, zN10, zN01, not_true_eq_false, not_false_eq_true, false_implies, true_implies, implies_true, eq_self, nI_1, nI_40, nI_7, vz0, vz1, zb1_e0, zb1_n0]
    exact hQ
  have q120 : oMk b = 15 → zX w mX7_markKind rX7_markKind Q 0 0 120 [(0, Value.int (oSb b))] [] μ := by
    intro e
    rw [e] at hQ
    refine zBlkR (M := mX7_markKind) (nL := 1) (rt := (Option.some .int)) (blk := bX7_markKind_120) (T := []) 0 hX7_markKind_120 zChks_nil rfl rfl rfl (Nat.le_of_ble_eq_true rfl) (Nat.le_of_ble_eq_true rfl) ?_
    simp (implicitDefEqProofs := false) only [bX7_markKind_120, zRun_cons, zRun_nil, zLk, zSto, zIns, zFil, zf0, zf1, zf2, zf3, List.filter_cons, List.filter_nil, Nat.reduceAdd, Nat.reduceEqDiff, Nat.reduceLT, Nat.reduceLeDiff, Nat.reduceBEq, Nat.reduceBNe, reduceIte, if_true, if_false, Bool.false_and, Bool.true_and, Bool.and_true, Bool.and_false, Bool.not_false, Bool.not_true, Bool.false_eq_true, beq_self_eq_true, BEq.rfl, zCat1, zCat2, zCat3, zKdI, zKdL, zKdR, true_and, and_true, zSI, zSL, zSR, zu_at, and_self, and_false, false_and, lv_args, zKdZ, zKdO, zB01, zB11, Option.toList_none, Option.toList_some, List.nil_append, List.cons_append, true_or, or_true, zRow_rd, zu_rd, zo_bipush, zo_ireturn, zb_15, zcl_15, zRt, zKn_0, zN10, zN01, not_true_eq_false, not_false_eq_true, false_implies, true_implies, implies_true, eq_self, nI_1, nI_40, nI_7, vz0, vz1, zb1_e0, zb1_n0]
    exact hQ
  have q123 : oMk b = 16 → zX w mX7_markKind rX7_markKind Q 0 0 123 [(0, Value.int (oSb b))] [] μ := by
    intro e
    rw [e] at hQ
    refine zBlkR (M := mX7_markKind) (nL := 1) (rt := (Option.some .int)) (blk := bX7_markKind_123) (T := []) 0 hX7_markKind_123 zChks_nil rfl rfl rfl (Nat.le_of_ble_eq_true rfl) (Nat.le_of_ble_eq_true rfl) ?_
    simp (implicitDefEqProofs := false) only [bX7_markKind_123, zRun_cons, zRun_nil, zLk, zSto, zIns, zFil, zf0, zf1, zf2, zf3, List.filter_cons, List.filter_nil, Nat.reduceAdd, Nat.reduceEqDiff, Nat.reduceLT, Nat.reduceLeDiff, Nat.reduceBEq, Nat.reduceBNe, reduceIte, if_true, if_false, Bool.false_and, Bool.true_and, Bool.and_true, Bool.and_false, Bool.not_false, Bool.not_true, Bool.false_eq_true, beq_self_eq_true, BEq.rfl, zCat1, zCat2, zCat3, zKdI, zKdL, zKdR, true_and, and_true, zSI, zSL, zSR, zu_at, and_self, and_false, false_and, lv_args, zKdZ, zKdO, zB01, zB11, Option.toList_none, Option.toList_some, List.nil_append, List.cons_append, true_or, or_true, zRow_rd, zu_rd, zo_bipush, zo_ireturn, zb_16, zcl_16, zRt, zKn_0, zN10, zN01, not_true_eq_false, not_false_eq_true, false_implies, true_implies, implies_true, eq_self, nI_1, nI_40, nI_7, vz0, vz1, zb1_e0, zb1_n0]
    exact hQ
  have q126 : oMk b = 1 → zX w mX7_markKind rX7_markKind Q 0 0 126 [(0, Value.int (oSb b))] [] μ := by
    intro e
    rw [e] at hQ
    refine zBlkR (M := mX7_markKind) (nL := 1) (rt := (Option.some .int)) (blk := bX7_markKind_126) (T := []) 0 hX7_markKind_126 zChks_nil rfl rfl rfl (Nat.le_of_ble_eq_true rfl) (Nat.le_of_ble_eq_true rfl) ?_
    simp (implicitDefEqProofs := false) only [bX7_markKind_126, zRun_cons, zRun_nil, zLk, zSto, zIns, zFil, zf0, zf1, zf2, zf3, List.filter_cons, List.filter_nil, Nat.reduceAdd, Nat.reduceEqDiff, Nat.reduceLT, Nat.reduceLeDiff, Nat.reduceBEq, Nat.reduceBNe, reduceIte, if_true, if_false, Bool.false_and, Bool.true_and, Bool.and_true, Bool.and_false, Bool.not_false, Bool.not_true, Bool.false_eq_true, beq_self_eq_true, BEq.rfl, zCat1, zCat2, zCat3, zKdI, zKdL, zKdR, true_and, and_true, zSI, zSL, zSR, zu_at, and_self, and_false, false_and, lv_args, zKdZ, zKdO, zB01, zB11, Option.toList_none, Option.toList_some, List.nil_append, List.cons_append, true_or, or_true, zRow_rd, zu_rd, zo_iconst, zo_ireturn, zi_1, zcl_1, zRt, zKn_0, zN10, zN01, not_true_eq_false, not_false_eq_true, false_implies, true_implies, implies_true, eq_self, nI_1, nI_40, nI_7, vz0, vz1, zb1_e0, zb1_n0]
    exact hQ
  refine zBlkR (M := mX7_markKind) (nL := 1) (rt := (Option.some .int)) (blk := bX7_markKind_0) (T := []) 0 hX7_markKind_0 zChks_nil rfl rfl rfl (Nat.le_of_ble_eq_true rfl) (Nat.le_of_ble_eq_true rfl) ?_
  simp (implicitDefEqProofs := false) only [bX7_markKind_0, zRun_cons, zRun_nil, zLk, zSto, zIns, zFil, zf0, zf1, zf2, zf3, List.filter_cons, List.filter_nil, Nat.reduceAdd, Nat.reduceEqDiff, Nat.reduceLT, Nat.reduceLeDiff, Nat.reduceBEq, Nat.reduceBNe, reduceIte, if_true, if_false, Bool.false_and, Bool.true_and, Bool.and_true, Bool.and_false, Bool.not_false, Bool.not_true, Bool.false_eq_true, beq_self_eq_true, BEq.rfl, zCat1, zCat2, zCat3, zKdI, zKdL, zKdR, true_and, and_true, zSI, zSL, zSR, zu_at, and_self, and_false, false_and, lv_args, zKdZ, zKdO, zB01, zB11, Option.toList_none, Option.toList_some, List.nil_append, List.cons_append, true_or, or_true, zRow_rd, zu_rd, zo_iload_n, zKn_0, zN10, zN01, not_true_eq_false, not_false_eq_true, false_implies, true_implies, implies_true, eq_self, nI_1, nI_40, nI_7, vz0, vz1, zb1_e0, zb1_n0]
  refine z_tsw (dt := 126) [(40, 106), (41, 108), (42, 120), (43, 114), (44, 126), (45, 117), (46, 126), (47, 123), (48, 126), (49, 126), (50, 126), (51, 126), (52, 126), (53, 126), (54, 126), (55, 126), (56, 126), (57, 126), (58, 126), (59, 104), (60, 126), (61, 111)] (by decide +kernel : decode cX7_markKind 1 = .ok (.tableswitch 125 40 61 #[105, 107, 119, 113, 125, 116, 125, 122, 125, 125, 125, 125, 125, 125, 125, 125, 125, 125, 125, 103, 125, 110], 103)) (by decide) (by decide) (by decide) ?_
  simp only [zSw_cons, zSw_nil]
  refine ⟨fun h0 => ?_, fun h0 => ⟨fun h1 => ?_, fun h1 => ⟨fun h2 => ?_, fun h2 => ⟨fun h3 => ?_, fun h3 => ⟨fun h4 => ?_, fun h4 => ⟨fun h5 => ?_, fun h5 => ⟨fun h6 => ?_, fun h6 => ⟨fun h7 => ?_, fun h7 => ⟨fun h8 => ?_, fun h8 => ⟨fun h9 => ?_, fun h9 => ⟨fun h10 => ?_, fun h10 => ⟨fun h11 => ?_, fun h11 => ⟨fun h12 => ?_, fun h12 => ⟨fun h13 => ?_, fun h13 => ⟨fun h14 => ?_, fun h14 => ⟨fun h15 => ?_, fun h15 => ⟨fun h16 => ?_, fun h16 => ⟨fun h17 => ?_, fun h17 => ⟨fun h18 => ?_, fun h18 => ⟨fun h19 => ?_, fun h19 => ⟨fun h20 => ?_, fun h20 => ⟨fun h21 => ?_, fun h21 => ?_⟩⟩⟩⟩⟩⟩⟩⟩⟩⟩⟩⟩⟩⟩⟩⟩⟩⟩⟩⟩⟩⟩
  · have e : b = 40 := (sb_eq b hb 40 (by omega)).mp h0
    exact q106 (by rw [e]; decide)
  · have e : b = 41 := (sb_eq b hb 41 (by omega)).mp h1
    exact q108 (by rw [e]; decide)
  · have e : b = 42 := (sb_eq b hb 42 (by omega)).mp h2
    exact q120 (by rw [e]; decide)
  · have e : b = 43 := (sb_eq b hb 43 (by omega)).mp h3
    exact q114 (by rw [e]; decide)
  · have e : b = 44 := (sb_eq b hb 44 (by omega)).mp h4
    exact q126 (by rw [e]; decide)
  · have e : b = 45 := (sb_eq b hb 45 (by omega)).mp h5
    exact q117 (by rw [e]; decide)
  · have e : b = 46 := (sb_eq b hb 46 (by omega)).mp h6
    exact q126 (by rw [e]; decide)
  · have e : b = 47 := (sb_eq b hb 47 (by omega)).mp h7
    exact q123 (by rw [e]; decide)
  · have e : b = 48 := (sb_eq b hb 48 (by omega)).mp h8
    exact q126 (by rw [e]; decide)
  · have e : b = 49 := (sb_eq b hb 49 (by omega)).mp h9
    exact q126 (by rw [e]; decide)
  · have e : b = 50 := (sb_eq b hb 50 (by omega)).mp h10
    exact q126 (by rw [e]; decide)
  · have e : b = 51 := (sb_eq b hb 51 (by omega)).mp h11
    exact q126 (by rw [e]; decide)
  · have e : b = 52 := (sb_eq b hb 52 (by omega)).mp h12
    exact q126 (by rw [e]; decide)
  · have e : b = 53 := (sb_eq b hb 53 (by omega)).mp h13
    exact q126 (by rw [e]; decide)
  · have e : b = 54 := (sb_eq b hb 54 (by omega)).mp h14
    exact q126 (by rw [e]; decide)
  · have e : b = 55 := (sb_eq b hb 55 (by omega)).mp h15
    exact q126 (by rw [e]; decide)
  · have e : b = 56 := (sb_eq b hb 56 (by omega)).mp h16
    exact q126 (by rw [e]; decide)
  · have e : b = 57 := (sb_eq b hb 57 (by omega)).mp h17
    exact q126 (by rw [e]; decide)
  · have e : b = 58 := (sb_eq b hb 58 (by omega)).mp h18
    exact q126 (by rw [e]; decide)
  · have e : b = 59 := (sb_eq b hb 59 (by omega)).mp h19
    exact q104 (by rw [e]; decide)
  · have e : b = 60 := (sb_eq b hb 60 (by omega)).mp h20
    exact q126 (by rw [e]; decide)
  · have e : b = 61 := (sb_eq b hb 61 (by omega)).mp h21
    exact q111 (by rw [e]; decide)
  · have n : ∀ c, c < 128 → ¬ oSb b = nI c → ¬ b = c := fun c hc h e => h ((sb_eq b hb c hc).mpr e)
    refine q126 ?_
    unfold oMk
    rw [if_neg (n 59 (by omega) h19), if_neg (n 40 (by omega) h0), if_neg (n 41 (by omega) h1), if_neg (n 61 (by omega) h21), if_neg (n 43 (by omega) h3), if_neg (n 45 (by omega) h5), if_neg (n 42 (by omega) h2), if_neg (n 47 (by omega) h7)]
end ZN98
