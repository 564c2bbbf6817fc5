section
/-! ===== TOKENS: the class's start; the reference's packed ===== -/
def STs (i k : Nat) : Prop := i = 1 ∧ 3 ≤ k ∧ k ≤ 7
section ZN98l
variable {w : zP} {Q : Option Value → zMem → Prop} {μ : zMem} {I J : Nat → Nat → Int32} {L K : Nat → Nat → Int64} {p s : Nat} {r : Option Nat} {a b c i k n e m : Nat} {x y v : Int32} {T : Nat → Nat} {W : Nat → Int32}
set_option maxRecDepth 20000 in
theorem cl_tkStart (h3 : I 3 = W) (h2 : I 1 2 = nI m) (hm : m ≤ 700) (hn : n < 2 ^ 31) (ht : ∀ k, k < m → I 2 k = oSb (T k) ∧ T k < 256) (hQ : ∀ I', zKpt STs I I' → I' 1 3 = nI (min n m) → I' 1 5 = nI (oTc W T (min n m) 0).1 → I' 1 4 = nI (oTc W T (min n m) 0).2.1 → I' 1 6 = nI (oTc W T (min n m) 0).2.2.1 → I' 1 7 = (oTc W T (min n m) 0).2.2.2 → Q none (SH, I', L, RF p s r)) : zXM w mX7_start rX7_start [.ref 1, .int (nI n)] (SH, I, L, RF p s r) Q := by
  unfold zXM
  refine zBlkR (M := mX7_start) (nL := 2) (rt := (Option.none : Option Jvm.ClassFile.FieldType)) (blk := bX7_start_0) (T := []) 0 hX7_start_0 zChks_nil rfl rfl rfl (Nat.le_of_ble_eq_true rfl) (Nat.le_of_ble_eq_true rfl) ?_
  simp (implicitDefEqProofs := false) only [bX7_start_0, zRun_cons, zRun_nil, zLk, zSto, zIns, zFil, zf0, zf1, zf2, zf3, List.filter_cons, List.filter_nil, Nat.reduceAdd, Nat.reduceEqDiff, Nat.reduceLT, Nat.reduceLeDiff, Nat.reduceBEq, Nat.reduceBNe, reduceIte, if_true, if_false, Bool.false_and, Bool.true_and, Bool.and_true, Bool.and_false, Bool.not_false, Bool.not_true, Bool.false_eq_true, beq_self_eq_true, BEq.rfl, zCat1, zCat2, zCat3, zKdI, zKdL, zKdR, true_and, and_true, zSI, zSL, zSR, zu_at, and_self, and_false, false_and, lv_args, zKdZ, zKdO, zB01, zB11, Option.toList_none, Option.toList_some, List.nil_append, List.cons_append, true_or, or_true, zRow_rd, zu_rd, zo_aload_n, zo_iload_n, zo_getfield, zKd_7_2, sh_1, zKn_0, h2, zN10, zN01, not_true_eq_false, not_false_eq_true, false_implies, true_implies, implies_true, eq_self, nI_1, nI_40, nI_7, vz0, vz1, zb1_e0, zb1_n0]
  refine z_cS0 (M' := mJ9_min_7cf53) (R' := rJ9_min_7cf53) [.int (nI n), .int (nI m)] [.ref 1] eJ9_min_7cf53 k7_39 (by decide +kernel : decode cX7_start 6 = .ok (.invokestatic 39, 3)) (Nat.le_of_ble_eq_true rfl) ⟨Nat.le_of_ble_eq_true rfl, Nat.le_of_ble_eq_true rfl, Nat.le_of_ble_eq_true rfl, Nat.le_of_ble_eq_true rfl, Nat.le_of_ble_eq_true rfl⟩ rfl rfl rfl ?_
  refine sp_min ?_
  have hmin : (if nI m < nI n then nI m else nI n) = nI (min n m) := by
    simp only [zlt_nat (a := m) (b := n) (by omega) (by omega)]
    split
    · congr 1; omega
    · congr 1; omega
  rw [hmin]
  refine zBlkR (M := mX7_start) (nL := 2) (rt := (Option.none : Option Jvm.ClassFile.FieldType)) (blk := bX7_start_9) (T := []) 0 hX7_start_9 zChks_nil rfl rfl rfl (Nat.le_of_ble_eq_true rfl) (Nat.le_of_ble_eq_true rfl) ?_
  simp (implicitDefEqProofs := false) only [bX7_start_9, zRun_cons, zRun_nil, zLk, zSto, zIns, zFil, zf0, zf1, zf2, zf3, List.filter_cons, List.filter_nil, Nat.reduceAdd, Nat.reduceEqDiff, Nat.reduceLT, Nat.reduceLeDiff, Nat.reduceBEq, Nat.reduceBNe, reduceIte, if_true, if_false, Bool.false_and, Bool.true_and, Bool.and_true, Bool.and_false, Bool.not_false, Bool.not_true, Bool.false_eq_true, beq_self_eq_true, BEq.rfl, zCat1, zCat2, zCat3, zKdI, zKdL, zKdR, true_and, and_true, zSI, zSL, zSR, zu_at, and_self, and_false, false_and, lv_args, zKdZ, zKdO, zB01, zB11, Option.toList_none, Option.toList_some, List.nil_append, List.cons_append, true_or, or_true, zRow_rd, zu_rd, zo_putfield, zo_putfield_2, zo_putfield_3, zo_aload_n, zo_iconst, zi_0, zKd_7_3, zTy_7_3, zKd_7_4, zTy_7_4, sh_1, zcl_0, zPutC, zKn_0, zN10, zN01, not_true_eq_false, not_false_eq_true, false_implies, true_implies, implies_true, eq_self, nI_1, nI_40, nI_7, vz0, vz1, zb1_e0, zb1_n0]
  refine z_cV0 (M' := mX7_advance) (R' := rX7_advance) (i := 1) [] [] eX7_advance k7_49 (by decide +kernel : decode cX7_start 18 = .ok (.invokevirtual 49, 3)) (Nat.le_of_ble_eq_true rfl) ⟨Nat.le_of_ble_eq_true rfl, Nat.le_of_ble_eq_true rfl, Nat.le_of_ble_eq_true rfl, Nat.le_of_ble_eq_true rfl, Nat.le_of_ble_eq_true rfl⟩ rfl rfl rfl sh_1 ?_
  have k0 : zKpt STs I (zu (zu I 1 3 (nI (min n m))) 1 4 0) := (zKpt_rfl.u (by unfold STs; omega)).u (by unfold STs; omega)
  refine cl_tkAdvance (W := W) (T := T) (min n m) 0 _ (by rw [← h3]; funext k; rw [zu_at, if_neg (by omega), zu_at, if_neg (by omega)]) (by simp [zu_at]) (by simp [zu_at]; rfl) (by omega) (fun k hk => by rw [zu_at, if_neg (by omega), zu_at, if_neg (by omega)]; exact ht k (by omega)) (fun I' k' g5 g4 g6 g7 => ?_)
  rw [Nat.zero_add] at g5 g4 g6 g7
  refine zBlkR (M := mX7_start) (nL := 2) (rt := (Option.none : Option Jvm.ClassFile.FieldType)) (blk := bX7_start_21) (T := []) 0 hX7_start_21 zChks_nil rfl rfl rfl (Nat.le_of_ble_eq_true rfl) (Nat.le_of_ble_eq_true rfl) ?_
  simp (implicitDefEqProofs := false) only [bX7_start_21, zRun_cons, zRun_nil, zLk, zSto, zIns, zFil, zf0, zf1, zf2, zf3, List.filter_cons, List.filter_nil, Nat.reduceAdd, Nat.reduceEqDiff, Nat.reduceLT, Nat.reduceLeDiff, Nat.reduceBEq, Nat.reduceBNe, reduceIte, if_true, if_false, Bool.false_and, Bool.true_and, Bool.and_true, Bool.and_false, Bool.not_false, Bool.not_true, Bool.false_eq_true, beq_self_eq_true, BEq.rfl, zCat1, zCat2, zCat3, zKdI, zKdL, zKdR, true_and, and_true, zSI, zSL, zSR, zu_at, and_self, and_false, false_and, lv_args, zKdZ, zKdO, zB01, zB11, Option.toList_none, Option.toList_some, List.nil_append, List.cons_append, true_or, or_true, zRow_rd, zu_rd, zo_return_, zKn_0, zN10, zN01, not_true_eq_false, not_false_eq_true, false_implies, true_implies, implies_true, eq_self, nI_1, nI_40, nI_7, vz0, vz1, zb1_e0, zb1_n0]
  exact hQ I' (k0.trans (k'.mono (fun i k g => by unfold STj at g; unfold STs; omega))) (by rw [k' 1 3 (by unfold STj; omega)]; simp [zu_at]) g5 g4 g6 g7
end ZN98l
end
