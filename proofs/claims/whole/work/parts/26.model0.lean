/-! ===== THE REFERENCE: plain, copies, keepText, begin ===== -/
theorem zu_zRow_ne {α : Type} (f : Nat → Nat → α) {i j : Nat} (k : Nat) (v : α) (r : Nat → α) (h : i ≠ j) : zu (zRow f j r) i k v = zRow (zu f i k v) j r := by
  funext a b
  by_cases h1 : a = j
  · subst h1
    have h2 : ¬ (a = i ∧ b = k) := fun q => h q.1.symm
    simp [zu, zRow, h2]
  · simp [zu, zRow, h1]
theorem zuR {α : Type} {i j : Nat} (h : i ≠ j) (f : Nat → Nat → α) (k : Nat) (v : α) (r : Nat → α) : zu (zRow f j r) i k v = zRow (zu f i k v) j r := zu_zRow_ne f k v r h
theorem vz0 : vp_nar .boolean 0 = 0 := rfl
theorem vz1 : vp_nar .boolean 1 = 1 := rfl
theorem vzb {x : Int32} (h : x = 0 ∨ x = 1) : vp_nar .boolean x = x := by rcases h with rfl | rfl <;> rfl
def zSeg (lo n : Nat) (v : Int32) (f : Nat → Int32) : Nat → Int32 := fun b => if lo ≤ b ∧ b < lo + n then v else f b
theorem zSeg_0 (lo : Nat) (v : Int32) (f : Nat → Int32) : zSeg lo 0 v f = f := by
  funext b
  have : ¬ (lo ≤ b ∧ b < lo + 0) := by omega
  simp only [zSeg, if_neg this]
theorem zSeg_s (lo n : Nat) (v : Int32) (f : Nat → Int32) : (fun b => if b = lo + n then v else zSeg lo n v f b) = zSeg lo (n + 1) v f := by
  funext b
  simp only [zSeg]
  by_cases h : b = lo + n
  · have : lo ≤ b ∧ b < lo + (n + 1) := by omega
    rw [if_pos h, if_pos this]
  · rw [if_neg h]
    by_cases h2 : lo ≤ b ∧ b < lo + n
    · have : lo ≤ b ∧ b < lo + (n + 1) := by omega
      rw [if_pos h2, if_pos this]
    · have : ¬ (lo ≤ b ∧ b < lo + (n + 1)) := by omega
      rw [if_neg h2, if_neg this]
/-- the cells of the reference are there -/
def zMo (sh : List zSh) (Rf : Nat → Nat → Option Nat) : Prop := (∀ a, 87 ≤ a → a < 139 → sh[a]? = SH[a]?) ∧ ∀ k, k < 103 → Rf 87 k = RF 0 0 none 87 k
theorem zMo_all {p s : Nat} {r : Option Nat} : zMo SH (RF p s r) := ⟨fun _ _ _ => rfl, fun _ _ => rfl⟩
section ZM1
variable {w : zP} {Q : Option Value → zMem → Prop} {sh : List zSh} {I : Nat → Nat → Int32} {L : Nat → Nat → Int64} {Rf : Nat → Nat → Option Nat}
/-- the fields of a text that is about to be read -/
def zPlainF (I : Nat → Nat → Int32) : Nat → Nat → Int32 := zu (zu (zu (zu (zu (zu (zu I 87 18 0) 87 19 0) 87 20 0) 87 21 0) 87 22 0) 87 23 0) 87 49 0
def zPlainOnce (f : Nat → Int32) : Nat → Int32 := fun b => if b = 25 then 5 else if b = 24 then 3 else if b = 23 then 10 else if b = 21 then 2 else zSeg 16 16 0 f b
def zPlainM (I : Nat → Nat → Int32) : Nat → Nat → Int32 := zRow (zRow (zRow (zPlainF I) 102 (zPlainOnce (I 102))) 103 (zFill 16 0 (I 103))) 104 (zSeg 3 3 0 (I 104))
set_option maxRecDepth 20000 in
theorem mo_plain (hm : zMo sh Rf) (hQ : Q none (sh, zPlainM I, L, Rf)) : zXM w mX10_plain rX10_plain [.ref 87] (sh, I, L, Rf) Q := by
  unfold zXM
  have s87 := hm.1 87 (by decide) (by decide)
  have s102 := hm.1 102 (by decide) (by decide)
  have s103 := hm.1 103 (by decide) (by decide)
  have s104 := hm.1 104 (by decide) (by decide)
  have r36 := hm.2 36 (by decide)
  have r37 := hm.2 37 (by decide)
  have r38 := hm.2 38 (by decide)
  refine zBlkR (M := mX10_plain) (nL := 2) (rt := (Option.none : Option Jvm.ClassFile.FieldType)) (blk := bX10_plain_0) (T := []) 0 hX10_plain_0 zChks_nil rfl rfl rfl (Nat.le_of_ble_eq_true rfl) (Nat.le_of_ble_eq_true rfl) ?_
  simp only [bX10_plain_0, zRun_cons, zRun_nil, zLk, zSto, zIns, zFil, zf0, zf1, zf2, zf3, List.filter_cons, List.filter_nil, Nat.reduceAdd, Nat.reduceEqDiff, Nat.reduceLT, Nat.reduceLeDiff, Nat.reduceBEq, Nat.reduceBNe, reduceIte, if_true, if_false, Bool.false_and, Bool.true_and, Bool.and_true, Bool.and_false, Bool.not_false, Bool.not_true, Bool.false_eq_true, beq_self_eq_true, BEq.rfl, zCat1, zCat2, zCat3, zKdI, zKdL, zKdR, true_and, and_true, zSI, zSL, zSR, zu_at, and_self, and_false, false_and, lv_args, zKdZ, zKdO, zB01, zB11, Option.toList_none, Option.toList_some, List.nil_append, List.cons_append, true_or, or_true, zRow_rd, zu_rd, zo_aload_n, zo_iconst, zo_putfield, zo_putfield_2, zo_putfield_3, zo_istore_n, zi_0, zKd_10_18, zTy_10_18, zKd_10_19, zTy_10_19, zKd_10_20, zTy_10_20, zKd_10_21, zTy_10_21, zKd_10_22, zTy_10_22, zKd_10_23, zTy_10_23, zKd_10_49, zTy_10_49, zcl_0, sh_87, zPutC, zKn_0, s87]
  have key := zLoop (n := 16) (P := fun c => zX w mX10_plain rX10_plain Q 0 0 37 [(0, Value.ref 87), (1, Value.int (nI c))] [] (sh, zRow (zRow (zPlainF I) 102 (zSeg 16 c 0 (I 102))) 103 (zFill c 0 (I 103)), L, Rf)) (fun c hc ih => ?_) 0 (Nat.zero_le _)
  · rw [zSeg_0, zFill_0] at key
    have e : zRow (zRow (zPlainF I) 102 (I 102)) 103 (I 103) = zPlainF I := by
      have e1 : zPlainF I 102 = I 102 := by funext b; simp [zPlainF, zu_at]
      have e2 : zPlainF I 103 = I 103 := by funext b; simp [zPlainF, zu_at]
      rw [← e1, ← e2, zRow_self, zRow_self]
    rw [e] at key
    exact key
  · refine zBlkR (M := mX10_plain) (nL := 2) (rt := (Option.none : Option Jvm.ClassFile.FieldType)) (blk := bX10_plain_37) (T := []) 0 hX10_plain_37 zChks_nil rfl rfl rfl (Nat.le_of_ble_eq_true rfl) (Nat.le_of_ble_eq_true rfl) ?_
    simp only [bX10_plain_37, zRun_cons, zRun_nil, zLk, zSto, zIns, zFil, zf0, zf1, zf2, zf3, List.filter_cons, List.filter_nil, Nat.reduceAdd, Nat.reduceEqDiff, Nat.reduceLT, Nat.reduceLeDiff, Nat.reduceBEq, Nat.reduceBNe, reduceIte, if_true, if_false, Bool.false_and, Bool.true_and, Bool.and_true, Bool.and_false, Bool.not_false, Bool.not_true, Bool.false_eq_true, beq_self_eq_true, BEq.rfl, zCat1, zCat2, zCat3, zKdI, zKdL, zKdR, true_and, and_true, zSI, zSL, zSR, zu_at, and_self, and_false, false_and, lv_args, zKdZ, zKdO, zB01, zB11, Option.toList_none, Option.toList_some, List.nil_append, List.cons_append, true_or, or_true, zRow_rd, zu_rd, zo_iload_n, zo_bipush, zo_icmp_ge, zo_aload_n, zo_getfield, zo_iadd, zo_iconst, zo_iastore, zo_bastore, zo_iinc, zo_goto, zb_16, zi_0, zi_1, zKd_10_36, zKd_10_37, zcl_16, sh_87, rf_87_36, sh_102, zcl_0, rf_87_37, sh_103, zvi_16_32, zvi_0_16, zvi_0_32, zKn_0, s87, s102, s103, r36, r37]
    simp only [show (16 : Int32) = nI 16 from rfl, zle_nat (a := 16) (b := c) (by omega) (by omega), nI_add, nI_clamp (n := c) (by omega), nI_clamp (n := 16 + c) (by omega), nI_1, vz0, zuR (show (102 : Nat) ≠ 103 by decide), zu_zRow, zSeg_s, zFill_s]
    refine ⟨fun h => ?_, fun h => ⟨zvn (by omega) (by decide), zvn (by omega) (by decide), ih (by omega)⟩⟩
    have : c = 16 := by omega
    subst this
    refine zBlkR (M := mX10_plain) (nL := 2) (rt := (Option.none : Option Jvm.ClassFile.FieldType)) (blk := bX10_plain_66) (T := []) 0 hX10_plain_66 zChks_nil rfl rfl rfl (Nat.le_of_ble_eq_true rfl) (Nat.le_of_ble_eq_true rfl) ?_
    simp only [bX10_plain_66, zRun_cons, zRun_nil, zLk, zSto, zIns, zFil, zf0, zf1, zf2, zf3, List.filter_cons, List.filter_nil, Nat.reduceAdd, Nat.reduceEqDiff, Nat.reduceLT, Nat.reduceLeDiff, Nat.reduceBEq, Nat.reduceBNe, reduceIte, if_true, if_false, Bool.false_and, Bool.true_and, Bool.and_true, Bool.and_false, Bool.not_false, Bool.not_true, Bool.false_eq_true, beq_self_eq_true, BEq.rfl, zCat1, zCat2, zCat3, zKdI, zKdL, zKdR, true_and, and_true, zSI, zSL, zSR, zu_at, and_self, and_false, false_and, lv_args, zKdZ, zKdO, zB01, zB11, Option.toList_none, Option.toList_some, List.nil_append, List.cons_append, true_or, or_true, zRow_rd, zu_rd, zo_aload_n, zo_getfield, zo_bipush, zo_iconst, zo_iastore, zo_istore_n, zb_21, zi_2, zb_23, zb_10, zb_24, zi_3, zb_25, zi_5, zKd_10_36, sh_87, rf_87_36, sh_102, zcl_21, zcl_2, zcl_23, zcl_10, zcl_24, zcl_3, zcl_25, zcl_5, zvi_21_32, zvi_2_32, zvi_23_32, zvi_10_32, zvi_24_32, zvi_3_32, zvi_25_32, zvi_5_32, zKn_0, s87, s102, r36]
    simp only [zuR (show (102 : Nat) ≠ 103 by decide), zu_zRow]
    have key2 := zLoop (n := 3) (P := fun c => zX w mX10_plain rX10_plain Q 0 0 101 [(0, Value.ref 87), (1, Value.int (nI (3 + c)))] [] (sh, zRow (zRow (zRow (zPlainF I) 102 (zPlainOnce (I 102))) 103 (zFill 16 0 (I 103))) 104 (zSeg 3 c 0 (I 104)), L, Rf)) (fun c hc ih2 => ?_) 0 (Nat.zero_le _)
    · rw [zSeg_0] at key2
      have e : zRow (zRow (zRow (zPlainF I) 102 (zPlainOnce (I 102))) 103 (zFill 16 0 (I 103))) 104 (I 104) = zRow (zRow (zPlainF I) 102 (zPlainOnce (I 102))) 103 (zFill 16 0 (I 103)) := by
        have e1 : zRow (zRow (zPlainF I) 102 (zPlainOnce (I 102))) 103 (zFill 16 0 (I 103)) 104 = I 104 := by
          rw [zRow_rd, zRow_rd]
          funext b
          simp [zPlainF, zu_at]
        conv => lhs; rw [← e1]
        rw [zRow_self]
      rw [e] at key2
      exact key2
    · refine zBlkR (M := mX10_plain) (nL := 2) (rt := (Option.none : Option Jvm.ClassFile.FieldType)) (blk := bX10_plain_101) (T := [(120, bX10_plain_120)]) 1 hX10_plain_101 (zChks_cons hX10_plain_120 zChks_nil) rfl rfl rfl (Nat.le_of_ble_eq_true rfl) (Nat.le_of_ble_eq_true rfl) ?_
      simp only [bX10_plain_101, bX10_plain_120, zRun_cons, zRun_nil, zLk, zSto, zIns, zFil, zf0, zf1, zf2, zf3, List.filter_cons, List.filter_nil, Nat.reduceAdd, Nat.reduceEqDiff, Nat.reduceLT, Nat.reduceLeDiff, Nat.reduceBEq, Nat.reduceBNe, reduceIte, if_true, if_false, Bool.false_and, Bool.true_and, Bool.and_true, Bool.and_false, Bool.not_false, Bool.not_true, Bool.false_eq_true, beq_self_eq_true, BEq.rfl, zCat1, zCat2, zCat3, zKdI, zKdL, zKdR, true_and, and_true, zSI, zSL, zSR, zu_at, and_self, and_false, false_and, lv_args, zKdZ, zKdO, zB01, zB11, Option.toList_none, Option.toList_some, List.nil_append, List.cons_append, true_or, or_true, zRow_rd, zu_rd, zo_iload_n, zo_bipush, zo_icmp_ge, zo_aload_n, zo_getfield, zo_iconst, zo_bastore, zo_iinc, zo_goto, zo_return_, zb_6, zi_0, zi_1, zKd_10_38, zcl_6, sh_87, rf_87_38, sh_104, zcl_0, zvi_0_6, zKn_s, zKn_0, zFind, s87, s104, r38]
      simp only [show (6 : Int32) = nI 6 from rfl, zle_nat (a := 6) (b := 3 + c) (by omega) (by omega), nI_clamp (n := 3 + c) (by omega), nI_1, vz0, zu_zRow, zSeg_s, Nat.add_assoc]
      refine ⟨fun h => ?_, fun h => ⟨zvn (by omega) (by decide), ih2 (by omega)⟩⟩
      have : c = 3 := by omega
      subst this
      exact hQ
end ZM1
