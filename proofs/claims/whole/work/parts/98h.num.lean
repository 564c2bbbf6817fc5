/-! ===== TOKENS: numbers in the class ===== -/
/-- a number's digits: where they end, what they tell (at most a million) -/
def oNm (T : Nat → Nat) : Nat → Nat → Nat → Nat × Nat
  | 0, i, v => (i, v)
  | n + 1, i, v => if oDig (T i) = true then oNm T n (i + 1) (min 1000000 (v * 10 + T i - 48)) else (i, v)
def STk (i k : Nat) : Prop := i = 1 ∧ (k = 4 ∨ k = 6 ∨ k = 7)
section ZN98h
variable {w : zP} {Q : Option Value → zMem → Prop} {μ : zMem} {I J : Nat → Nat → Int32} {L K : Nat → Nat → Int64} {p s : Nat} {r : Option Nat} {a b c i k n v e : Nat} {x y : Int32} {T : Nat → Nat}
theorem sb_lo : ∀ b, b < 128 → oSb b = nI b := by decide +kernel
theorem oDig_lo (h : oDig b = true) : 48 ≤ b ∧ b ≤ 57 := by
  unfold oDig at h
  simp at h
  exact h
set_option maxRecDepth 20000 in
theorem cl_readNumber : ∀ (n i v : Nat) (I : Nat → Nat → Int32), I 1 3 = nI (i + n) → I 1 4 = nI i → I 1 7 = nI v → v ≤ 1000000 → i + n ≤ 700 → (∀ k, k < i + n → I 2 k = oSb (T k) ∧ T k < 256) → (∀ I', zKpt STk I I' → I' 1 4 = nI (oNm T n i v).1 → I' 1 7 = nI (oNm T n i v).2 → I' 1 6 = 2 → Q none (SH, I', L, RF p s r)) → zXM w mX7_readNumber rX7_readNumber [.ref 1] (SH, I, L, RF p s r) Q := by
  intro n
  induction n with
  | zero =>
    intro i v I h3 h4 h7 hv hn ht hQ
    unfold zXM
    have hx : (nI i ≤ nI i) = True := eq_true (by rw [zle_nat (by omega) (by omega)]; omega)
    have h3 : I 1 3 = nI i := h3
    refine zBlkR (M := mX7_readNumber) (nL := 1) (rt := (Option.none : Option Jvm.ClassFile.FieldType)) (blk := bX7_readNumber_0) (T := [(68, bX7_readNumber_68)]) 1 hX7_readNumber_0 (zChks_cons hX7_readNumber_68 zChks_nil) rfl rfl rfl (Nat.le_of_ble_eq_true rfl) (Nat.le_of_ble_eq_true rfl) ?_
    simp (implicitDefEqProofs := false) only [bX7_readNumber_0, bX7_readNumber_68, zRun_cons, zRun_nil, zLk, zSto, zIns, zFil, zf0, zf1, zf2, zf3, List.filter_cons, List.filter_nil, Nat.reduceAdd, Nat.reduceEqDiff, Nat.reduceLT, Nat.reduceLeDiff, Nat.reduceBEq, Nat.reduceBNe, reduceIte, if_true, if_false, Bool.false_and, Bool.true_and, Bool.and_true, Bool.and_false, Bool.not_false, Bool.not_true, Bool.false_eq_true, beq_self_eq_true, BEq.rfl, zCat1, zCat2, zCat3, zKdI, zKdL, zKdR, true_and, and_true, zSI, zSL, zSR, zu_at, and_self, and_false, false_and, lv_args, zKdZ, zKdO, zB01, zB11, Option.toList_none, Option.toList_some, List.nil_append, List.cons_append, true_or, or_true, zRow_rd, zu_rd, zo_aload_n, zo_getfield, zo_icmp_ge, zo_baload, zo_iconst, zo_putfield, zo_putfield_2, zo_putfield_3, zo_return_, zi_2, zKd_7_4, zKd_7_3, zKd_7_0, zKd_7_6, zTy_7_6, sh_1, rf_1_0, sh_2, zcl_2, zvi_2_700, zPutC, zKn_s, zKn_0, zFind, h3, h4, hx, zN10, zN01, not_true_eq_false, not_false_eq_true, false_implies, true_implies, implies_true, eq_self, nI_1, nI_40, nI_7, vz0, vz1, zb1_e0, zb1_n0]
    exact hQ _ (zKpt_rfl.u (by unfold STk; omega)) (by simp [zu_at]; exact h4) (by simp [zu_at]; exact h7) (by simp [zu_at])
  | succ n ih =>
    intro i v I h3 h4 h7 hv hn ht hQ
    unfold zXM
    have hx : (nI (i + (n + 1)) ≤ nI i) = False := eq_false (by rw [zle_nat (by omega) (by omega)]; omega)
    have hvi : vp_in (nI i) 700 := zvn (by omega) (by omega)
    obtain ⟨t1, t2⟩ := ht i (by omega)
    unfold oNm at hQ
    refine zBlkR (M := mX7_readNumber) (nL := 1) (rt := (Option.none : Option Jvm.ClassFile.FieldType)) (blk := bX7_readNumber_0) (T := [(68, bX7_readNumber_68)]) 1 hX7_readNumber_0 (zChks_cons hX7_readNumber_68 zChks_nil) rfl rfl rfl (Nat.le_of_ble_eq_true rfl) (Nat.le_of_ble_eq_true rfl) ?_
    simp (implicitDefEqProofs := false) only [bX7_readNumber_0, bX7_readNumber_68, zRun_cons, zRun_nil, zLk, zSto, zIns, zFil, zf0, zf1, zf2, zf3, List.filter_cons, List.filter_nil, Nat.reduceAdd, Nat.reduceEqDiff, Nat.reduceLT, Nat.reduceLeDiff, Nat.reduceBEq, Nat.reduceBNe, reduceIte, if_true, if_false, Bool.false_and, Bool.true_and, Bool.and_true, Bool.and_false, Bool.not_false, Bool.not_true, Bool.false_eq_true, beq_self_eq_true, BEq.rfl, zCat1, zCat2, zCat3, zKdI, zKdL, zKdR, true_and, and_true, zSI, zSL, zSR, zu_at, and_self, and_false, false_and, lv_args, zKdZ, zKdO, zB01, zB11, Option.toList_none, Option.toList_some, List.nil_append, List.cons_append, true_or, or_true, zRow_rd, zu_rd, zo_aload_n, zo_getfield, zo_icmp_ge, zo_baload, zo_iconst, zo_putfield, zo_putfield_2, zo_putfield_3, zo_return_, zi_2, zKd_7_4, zKd_7_3, zKd_7_0, zKd_7_6, zTy_7_6, sh_1, rf_1_0, sh_2, zcl_2, zvi_2_700, zPutC, zKn_s, zKn_0, zFind, h3, h4, hx, hvi, t1, nI_clamp (n := i) (by omega), zN10, zN01, not_true_eq_false, not_false_eq_true, false_implies, true_implies, implies_true, eq_self, nI_1, nI_40, nI_7, vz0, vz1, zb1_e0, zb1_n0]
    refine z_cS0 (M' := mX7_isDigit) (R' := rX7_isDigit) [.int (oSb (T i))] [] eX7_isDigit k7_68 (by decide +kernel : decode cX7_readNumber 20 = .ok (.invokestatic 68, 3)) (Nat.le_of_ble_eq_true rfl) ⟨Nat.le_of_ble_eq_true rfl, Nat.le_of_ble_eq_true rfl, Nat.le_of_ble_eq_true rfl, Nat.le_of_ble_eq_true rfl, Nat.le_of_ble_eq_true rfl⟩ rfl rfl rfl ?_
    refine sp_isDigit t2 ?_
    cases hd : oDig (T i) with
    | false =>
      rw [if_neg (by rw [hd]; decide)] at hQ
      refine zBlkR (M := mX7_readNumber) (nL := 1) (rt := (Option.none : Option Jvm.ClassFile.FieldType)) (blk := bX7_readNumber_23) (T := [(68, bX7_readNumber_68)]) 1 hX7_readNumber_23 (zChks_cons hX7_readNumber_68 zChks_nil) rfl rfl rfl (Nat.le_of_ble_eq_true rfl) (Nat.le_of_ble_eq_true rfl) ?_
      simp (implicitDefEqProofs := false) only [bX7_readNumber_23, bX7_readNumber_68, zRun_cons, zRun_nil, zLk, zSto, zIns, zFil, zf0, zf1, zf2, zf3, List.filter_cons, List.filter_nil, Nat.reduceAdd, Nat.reduceEqDiff, Nat.reduceLT, Nat.reduceLeDiff, Nat.reduceBEq, Nat.reduceBNe, reduceIte, if_true, if_false, Bool.false_and, Bool.true_and, Bool.and_true, Bool.and_false, Bool.not_false, Bool.not_true, Bool.false_eq_true, beq_self_eq_true, BEq.rfl, zCat1, zCat2, zCat3, zKdI, zKdL, zKdR, true_and, and_true, zSI, zSL, zSR, zu_at, and_self, and_false, false_and, lv_args, zKdZ, zKdO, zB01, zB11, Option.toList_none, Option.toList_some, List.nil_append, List.cons_append, true_or, or_true, zRow_rd, zu_rd, zo_if_eq, zo_aload_n, zo_ldc, zo_getfield, zo_bipush, zo_imul, zo_baload, zo_iadd, zo_isub, zo_iconst, zo_putfield, zo_putfield_2, zo_putfield_3, zo_return_, zi_1000000, zb_10, zb_48, zi_2, zKd_7_7, zKd_7_0, zKd_7_4, zKd_7_6, zTy_7_6, sh_1, zcl_10, rf_1_0, sh_2, zcl_48, zcl_2, zvi_10_700, zvi_48_700, zvi_2_700, zPutC, zKn_s, zKn_0, zFind, zb1_f, zN10, zN01, not_true_eq_false, not_false_eq_true, false_implies, true_implies, implies_true, eq_self, nI_1, nI_40, nI_7, vz0, vz1, zb1_e0, zb1_n0]
      exact hQ _ (zKpt_rfl.u (by unfold STk; omega)) (by simp [zu_at]; exact h4) (by simp [zu_at]; exact h7) (by simp [zu_at])
    | true =>
      rw [if_pos hd] at hQ
      have hb := oDig_lo hd
      have e1 : nI v * 10 + oSb (T i) - 48 = nI (v * 10 + T i - 48) := by
        rw [sb_lo (T i) (by omega), show (10 : Int32) = nI 10 from rfl, pk_mul, nI_add, show (48 : Int32) = nI 48 from rfl]
        obtain ⟨q, hq⟩ : ∃ q, v * 10 + T i = q + 48 := ⟨v * 10 + T i - 48, by omega⟩
        rw [hq, ← nI_add, Int32.add_sub_cancel]; congr 1
      refine zBlkR (M := mX7_readNumber) (nL := 1) (rt := (Option.none : Option Jvm.ClassFile.FieldType)) (blk := bX7_readNumber_23) (T := [(68, bX7_readNumber_68)]) 1 hX7_readNumber_23 (zChks_cons hX7_readNumber_68 zChks_nil) rfl rfl rfl (Nat.le_of_ble_eq_true rfl) (Nat.le_of_ble_eq_true rfl) ?_
      simp (implicitDefEqProofs := false) only [bX7_readNumber_23, bX7_readNumber_68, zRun_cons, zRun_nil, zLk, zSto, zIns, zFil, zf0, zf1, zf2, zf3, List.filter_cons, List.filter_nil, Nat.reduceAdd, Nat.reduceEqDiff, Nat.reduceLT, Nat.reduceLeDiff, Nat.reduceBEq, Nat.reduceBNe, reduceIte, if_true, if_false, Bool.false_and, Bool.true_and, Bool.and_true, Bool.and_false, Bool.not_false, Bool.not_true, Bool.false_eq_true, beq_self_eq_true, BEq.rfl, zCat1, zCat2, zCat3, zKdI, zKdL, zKdR, true_and, and_true, zSI, zSL, zSR, zu_at, and_self, and_false, false_and, lv_args, zKdZ, zKdO, zB01, zB11, Option.toList_none, Option.toList_some, List.nil_append, List.cons_append, true_or, or_true, zRow_rd, zu_rd, zo_if_eq, zo_aload_n, zo_ldc, zo_getfield, zo_bipush, zo_imul, zo_baload, zo_iadd, zo_isub, zo_iconst, zo_putfield, zo_putfield_2, zo_putfield_3, zo_return_, zi_1000000, zb_10, zb_48, zi_2, zKd_7_7, zKd_7_0, zKd_7_4, zKd_7_6, zTy_7_6, sh_1, zcl_10, rf_1_0, sh_2, zcl_48, zcl_2, zvi_10_700, zvi_48_700, zvi_2_700, zPutC, zKn_s, zKn_0, zFind, zb1_t, h4, h7, hvi, t1, e1, nI_clamp (n := i) (by omega), zN10, zN01, not_true_eq_false, not_false_eq_true, false_implies, true_implies, implies_true, eq_self, nI_1, nI_40, nI_7, vz0, vz1, zb1_e0, zb1_n0]
      refine z_cS0 (M' := mJ9_min_7cf53) (R' := rJ9_min_7cf53) [.int 1000000, .int (nI (v * 10 + T i - 48))] [.ref 1] eJ9_min_7cf53 k7_39 (by decide +kernel : decode cX7_readNumber 49 = .ok (.invokestatic 39, 3)) (Nat.le_of_ble_eq_true rfl) ⟨Nat.le_of_ble_eq_true rfl, Nat.le_of_ble_eq_true rfl, Nat.le_of_ble_eq_true rfl, Nat.le_of_ble_eq_true rfl, Nat.le_of_ble_eq_true rfl⟩ rfl rfl rfl ?_
      refine sp_min ?_
      have hm : (if nI (v * 10 + T i - 48) < (1000000 : Int32) then nI (v * 10 + T i - 48) else 1000000) = nI (min 1000000 (v * 10 + T i - 48)) := by
        simp only [show (1000000 : Int32) = nI 1000000 from rfl, zlt_nat (a := v * 10 + T i - 48) (b := 1000000) (by omega) (by omega)]
        split
        · congr 1; omega
        · congr 1; omega
      rw [hm]
      refine zBlkR (M := mX7_readNumber) (nL := 1) (rt := (Option.none : Option Jvm.ClassFile.FieldType)) (blk := bX7_readNumber_52) (T := []) 0 hX7_readNumber_52 zChks_nil rfl rfl rfl (Nat.le_of_ble_eq_true rfl) (Nat.le_of_ble_eq_true rfl) ?_
      simp (implicitDefEqProofs := false) only [bX7_readNumber_52, zRun_cons, zRun_nil, zLk, zSto, zIns, zFil, zf0, zf1, zf2, zf3, List.filter_cons, List.filter_nil, Nat.reduceAdd, Nat.reduceEqDiff, Nat.reduceLT, Nat.reduceLeDiff, Nat.reduceBEq, Nat.reduceBNe, reduceIte, if_true, if_false, Bool.false_and, Bool.true_and, Bool.and_true, Bool.and_false, Bool.not_false, Bool.not_true, Bool.false_eq_true, beq_self_eq_true, BEq.rfl, zCat1, zCat2, zCat3, zKdI, zKdL, zKdR, true_and, and_true, zSI, zSL, zSR, zu_at, and_self, and_false, false_and, lv_args, zKdZ, zKdO, zB01, zB11, Option.toList_none, Option.toList_some, List.nil_append, List.cons_append, true_or, or_true, zRow_rd, zu_rd, zo_putfield, zo_putfield_2, zo_putfield_3, zo_aload_n, zo_dup, zo_getfield, zo_iconst, zo_iadd, zo_goto, zi_1, zKd_7_7, zTy_7_7, zKd_7_4, zTy_7_4, sh_1, zcl_1, zPutC, zKn_0, h4, nI_1, zN10, zN01, not_true_eq_false, not_false_eq_true, false_implies, true_implies, implies_true, eq_self, nI_1, nI_40, nI_7, vz0, vz1, zb1_e0, zb1_n0]
      have := ih (i + 1) (min 1000000 (v * 10 + T i - 48)) (zu (zu I 1 7 (nI (min 1000000 (v * 10 + T i - 48)))) 1 4 (nI (i + 1))) (by simp [zu_at]; rw [h3]; congr 1; omega) (by simp [zu_at]) (by simp [zu_at]) (by omega) (by omega) (fun k hk => by rw [zu_at, if_neg (by omega), zu_at, if_neg (by omega)]; exact ht k (by omega)) (fun I' k' g4 g7 g6 => hQ I' (((zKpt_rfl.u (by unfold STk; omega)).u (by unfold STk; omega)).trans k') g4 g7 g6)
      unfold zXM at this
      exact this
end ZN98h
