-- needs: 40 41
section ZT
variable {w : zP} {Q : Option Value → zMem → Prop} {I : Nat → Nat → Int32} {L : Nat → Nat → Int64} {p s : Nat} {r : Option Nat}
/-- which chairs of the half b are in the state 'what' at the place q (below 0: anywhere) -/
def zMany (I : Nat → Nat → Int32) (b : Nat) (q what : Int32) (c : Nat) : Bool := I 114 (40 * b + c) == what && (decide (q < 0) || I 115 (40 * b + c) == q)
set_option maxRecDepth 20000 in
theorem mo_manyAt {b ch : Nat} {q what : Int32} (hb : b < 2) (hch : ch ≤ 40) (hI : I 102 1 = nI ch) (hQ : Q (some (.int (nI (zCnt (zMany I b q what) ch)))) (SH, I, L, RF p s r)) : zXM w mX10_manyAt rX10_manyAt [.ref 87, .int (nI b), .int q, .int what] (SH, I, L, RF p s r) Q := by
  unfold zXM
  refine zBlkR (M := mX10_manyAt) (nL := 6) (rt := (Option.some .int)) (blk := bX10_manyAt_0) (T := []) 0 hX10_manyAt_0 zChks_nil rfl rfl rfl (Nat.le_of_ble_eq_true rfl) (Nat.le_of_ble_eq_true rfl) ?_
  simp only [bX10_manyAt_0, zRun_cons, zRun_nil, zLk, zSto, zIns, zFil, zf0, zf1, zf2, zf3, List.filter_cons, List.filter_nil, Nat.reduceAdd, Nat.reduceEqDiff, Nat.reduceLT, Nat.reduceLeDiff, Nat.reduceBEq, Nat.reduceBNe, reduceIte, if_true, if_false, Bool.false_and, Bool.true_and, Bool.and_true, Bool.and_false, Bool.not_false, Bool.not_true, Bool.false_eq_true, beq_self_eq_true, BEq.rfl, zCat1, zCat2, zCat3, zKdI, zKdL, zKdR, true_and, and_true, zSI, zSL, zSR, zu_at, and_self, and_false, false_and, lv_args, zKdZ, zKdO, zB01, zB11, Option.toList_none, Option.toList_some, List.nil_append, List.cons_append, true_or, or_true, zRow_rd, zu_rd, zo_iconst, zo_istore, zi_0, zcl_0, zKn_0]
  refine zLoop (n := ch) (P := fun c => zX w mX10_manyAt rX10_manyAt Q 0 0 6 [(0, Value.ref 87), (1, Value.int (nI b)), (2, Value.int q), (3, Value.int what), (4, Value.int (nI (zCnt (zMany I b q what) c))), (5, Value.int (nI c))] [] (SH, I, L, RF p s r)) (fun c hc ih => ?_) 0 (Nat.zero_le _)
  have e : (40 : Int32) * nI b + nI c = nI (40 * b + c) := by rw [nI_lit40, pk_mul, nI_add]
  refine zBlkR (M := mX10_manyAt) (nL := 6) (rt := (Option.some .int)) (blk := bX10_manyAt_6) (T := [(55, bX10_manyAt_55), (59, bX10_manyAt_59), (60, bX10_manyAt_60), (69, bX10_manyAt_69)]) 2 hX10_manyAt_6 (zChks_cons hX10_manyAt_55 (zChks_cons hX10_manyAt_59 (zChks_cons hX10_manyAt_60 (zChks_cons hX10_manyAt_69 zChks_nil)))) rfl rfl rfl (Nat.le_of_ble_eq_true rfl) (Nat.le_of_ble_eq_true rfl) ?_
  simp only [bX10_manyAt_6, bX10_manyAt_55, bX10_manyAt_59, bX10_manyAt_60, bX10_manyAt_69, zRun_cons, zRun_nil, zLk, zSto, zIns, zFil, zf0, zf1, zf2, zf3, List.filter_cons, List.filter_nil, Nat.reduceAdd, Nat.reduceEqDiff, Nat.reduceLT, Nat.reduceLeDiff, Nat.reduceBEq, Nat.reduceBNe, reduceIte, if_true, if_false, Bool.false_and, Bool.true_and, Bool.and_true, Bool.and_false, Bool.not_false, Bool.not_true, Bool.false_eq_true, beq_self_eq_true, BEq.rfl, zCat1, zCat2, zCat3, zKdI, zKdL, zKdR, true_and, and_true, zSI, zSL, zSR, zu_at, and_self, and_false, false_and, lv_args, zKdZ, zKdO, zB01, zB11, Option.toList_none, Option.toList_some, List.nil_append, List.cons_append, true_or, or_true, zRow_rd, zu_rd, zo_iload, zo_aload_n, zo_getfield, zo_iconst, zo_iaload, zo_icmp_ge, zo_bipush, zo_iload_n, zo_imul, zo_iadd, zo_icmp_ne, zo_if_lt, zo_goto, zo_istore, zo_iinc, zo_ireturn, zi_1, zb_40, zi_0, zKd_10_36, zKd_10_57, zKd_10_58, sh_87, rf_87_36, sh_102, zcl_1, rf_87_57, sh_114, zcl_40, rf_87_58, sh_115, zcl_0, zvi_1_32, zvi_1_80, zvi_40_80, zvi_0_32, zvi_0_80, zRt, zKn_s, zKn_0, zFind]
  simp only [hI, e, nI_clamp (n := 40 * b + c) (by omega), zle_nat (a := ch) (b := c) (by omega) (by omega), nI_1, nI_a0] at ih ⊢
  refine ⟨fun h => ?_, fun h => ⟨zvn (by omega) (by omega), fun h2 => ?_, fun h2 => ⟨fun h3 => ?_, fun h3 => ⟨zvn (by omega) (by omega), fun h4 => ?_, fun h4 => ?_⟩⟩⟩⟩
  · have : c = ch := by omega
    subst this
    exact hQ
  · rw [zCnt_f (by simp [zMany, h2])] at ih
    exact ih (by omega)
  · rw [zCnt_t (by simp [zMany, h2, h3])] at ih
    exact ih (by omega)
  · rw [zCnt_f (by simp [zMany, h2, h3, h4])] at ih
    exact ih (by omega)
  · rw [zCnt_t (by simp [zMany, h2, h4])] at ih
    exact ih (by omega)
end ZT
