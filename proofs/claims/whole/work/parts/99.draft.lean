section
/-! ===== TOKENS: words in the class ===== -/
/-- the kind of a word packed as v, by the table W -/
def oWk (W : Nat → Int32) (v : Int32) : Nat := if zFst (fun k => W k == v) 27 < 27 then 20 + zFst (fun k => W k == v) 27 else 3
/-- a word's letters: where they end, how many, how packed (first six alone) -/
def oWr (T : Nat → Nat) : Nat → Nat → Nat → Int32 → Nat × Nat × Int32
  | 0, i, m, v => (i, m, v)
  | n + 1, i, m, v => if oLet (T i) = true then oWr T n (i + 1) (m + 1) (if m < 6 then v ||| zLett (nI (T i)) (nI m) else v) else (i, m, v)
section ZN98i
variable {w : zP} {Q : Option Value → zMem → Prop} {μ : zMem} {I J : Nat → Nat → Int32} {L K : Nat → Nat → Int64} {p s : Nat} {r : Option Nat} {a b c i k n e : Nat} {x y v : Int32} {T : Nat → Nat} {W : Nat → Int32}
theorem oLet_lo (h : oLet b = true) : 97 ≤ b ∧ b ≤ 122 := by
  unfold oLet at h
  simp at h
  exact h
theorem oWr_m {T : Nat → Nat} : ∀ n i m v, (oWr T n i m v).2.1 ≤ m + n
  | 0, i, m, v => by show m ≤ m + 0; omega
  | n + 1, i, m, v => by
    unfold oWr
    split
    · have := oWr_m (T := T) n (i + 1) (m + 1) (if m < 6 then v ||| zLett (nI (T i)) (nI m) else v)
      omega
    · show m ≤ _; omega
set_option maxRecDepth 20000 in
theorem cl_wordKind (h3 : I 3 = W) (h7 : I 1 7 = v) (hQ : Q (some (.int (nI (oWk W v)))) (SH, I, L, RF p s r)) : zXM w mX7_wordKind rX7_wordKind [.ref 1] (SH, I, L, RF p s r) Q := by
  unfold zXM
  refine zBlkR (M := mX7_wordKind) (nL := 2) (rt := (Option.some .int)) (blk := bX7_wordKind_0) (T := []) 0 hX7_wordKind_0 zChks_nil rfl rfl rfl (Nat.le_of_ble_eq_true rfl) (Nat.le_of_ble_eq_true rfl) ?_
  simp (implicitDefEqProofs := false) only [bX7_wordKind_0, zRun_cons, zRun_nil, zLk, zSto, zIns, zFil, zf0, zf1, zf2, zf3, List.filter_cons, List.filter_nil, Nat.reduceAdd, Nat.reduceEqDiff, Nat.reduceLT, Nat.reduceLeDiff, Nat.reduceBEq, Nat.reduceBNe, reduceIte, if_true, if_false, Bool.false_and, Bool.true_and, Bool.and_true, Bool.and_false, Bool.not_false, Bool.not_true, Bool.false_eq_true, beq_self_eq_true, BEq.rfl, zCat1, zCat2, zCat3, zKdI, zKdL, zKdR, true_and, and_true, zSI, zSL, zSR, zu_at, and_self, and_false, false_and, lv_args, zKdZ, zKdO, zB01, zB11, Option.toList_none, Option.toList_some, List.nil_append, List.cons_append, true_or, or_true, zRow_rd, zu_rd, zo_iconst, zo_istore_n, zi_0, zcl_0, zKn_0, zN10, zN01, not_true_eq_false, not_false_eq_true, false_implies, true_implies, implies_true, eq_self, nI_1, nI_40, nI_7, vz0, vz1, zb1_e0, zb1_n0]
  refine zLoop (n := 27) (P := fun k => (∀ j, j < k → ¬ W j = v) → zX w mX7_wordKind rX7_wordKind Q 0 0 2 [(0, Value.ref 1), (1, Value.int (nI k))] [] (SH, I, L, RF p s r)) (fun k hk ih => ?_) 0 (Nat.zero_le _) (fun j hj => absurd hj (by omega))
  intro hno
  by_cases hke : k = 27
  · subst hke
    have hx : ((27 : Int32) ≤ nI 27) = True := eq_true (by decide)
    have hf : zFst (fun k => W k == v) 27 = 27 := zFst_none (fun j hj => by simpa using hno j hj)
    unfold oWk at hQ
    rw [if_neg (by omega)] at hQ
    refine zBlkR (M := mX7_wordKind) (nL := 2) (rt := (Option.some .int)) (blk := bX7_wordKind_2) (T := [(26, bX7_wordKind_26), (32, bX7_wordKind_32)]) 1 hX7_wordKind_2 (zChks_cons hX7_wordKind_26 (zChks_cons hX7_wordKind_32 zChks_nil)) rfl rfl rfl (Nat.le_of_ble_eq_true rfl) (Nat.le_of_ble_eq_true rfl) ?_
    simp (implicitDefEqProofs := false) only [bX7_wordKind_2, bX7_wordKind_26, bX7_wordKind_32, zRun_cons, zRun_nil, zLk, zSto, zIns, zFil, zf0, zf1, zf2, zf3, List.filter_cons, List.filter_nil, Nat.reduceAdd, Nat.reduceEqDiff, Nat.reduceLT, Nat.reduceLeDiff, Nat.reduceBEq, Nat.reduceBNe, reduceIte, if_true, if_false, Bool.false_and, Bool.true_and, Bool.and_true, Bool.and_false, Bool.not_false, Bool.not_true, Bool.false_eq_true, beq_self_eq_true, BEq.rfl, zCat1, zCat2, zCat3, zKdI, zKdL, zKdR, true_and, and_true, zSI, zSL, zSR, zu_at, and_self, and_false, false_and, lv_args, zKdZ, zKdO, zB01, zB11, Option.toList_none, Option.toList_some, List.nil_append, List.cons_append, true_or, or_true, zRow_rd, zu_rd, zo_iload_n, zo_bipush, zo_icmp_ge, zo_aload_n, zo_getfield, zo_iaload, zo_icmp_ne, zo_iadd, zo_ireturn, zo_iinc, zo_goto, zo_iconst, zb_27, zb_20, zi_1, zi_3, zKd_7_1, zKd_7_7, zcl_27, sh_1, rf_1_1, sh_3, zcl_20, zcl_3, zvi_20_27, zvi_3_27, zRt, zKn_s, zKn_0, zFind, hx, zN10, zN01, not_true_eq_false, not_false_eq_true, false_implies, true_implies, implies_true, eq_self, nI_1, nI_40, nI_7, vz0, vz1, zb1_e0, zb1_n0]
    exact hQ
  · have hx : ((27 : Int32) ≤ nI k) = False := eq_false (by rw [show (27 : Int32) = nI 27 from rfl, zle_nat (by omega) (by omega)]; omega)
    have hv : vp_in (nI k) 27 := zvn (by omega) (by omega)
    have q3 : I 3 k = W k := by rw [h3]
    have e20 : 20 + nI k = nI (20 + k) := by rw [show (20 : Int32) = nI 20 from rfl, nI_add]
    refine zBlkR (M := mX7_wordKind) (nL := 2) (rt := (Option.some .int)) (blk := bX7_wordKind_2) (T := [(26, bX7_wordKind_26), (32, bX7_wordKind_32)]) 1 hX7_wordKind_2 (zChks_cons hX7_wordKind_26 (zChks_cons hX7_wordKind_32 zChks_nil)) rfl rfl rfl (Nat.le_of_ble_eq_true rfl) (Nat.le_of_ble_eq_true rfl) ?_
    simp (implicitDefEqProofs := false) only [bX7_wordKind_2, bX7_wordKind_26, bX7_wordKind_32, zRun_cons, zRun_nil, zLk, zSto, zIns, zFil, zf0, zf1, zf2, zf3, List.filter_cons, List.filter_nil, Nat.reduceAdd, Nat.reduceEqDiff, Nat.reduceLT, Nat.reduceLeDiff, Nat.reduceBEq, Nat.reduceBNe, reduceIte, if_true, if_false, Bool.false_and, Bool.true_and, Bool.and_true, Bool.and_false, Bool.not_false, Bool.not_true, Bool.false_eq_true, beq_self_eq_true, BEq.rfl, zCat1, zCat2, zCat3, zKdI, zKdL, zKdR, true_and, and_true, zSI, zSL, zSR, zu_at, and_self, and_false, false_and, lv_args, zKdZ, zKdO, zB01, zB11, Option.toList_none, Option.toList_some, List.nil_append, List.cons_append, true_or, or_true, zRow_rd, zu_rd, zo_iload_n, zo_bipush, zo_icmp_ge, zo_aload_n, zo_getfield, zo_iaload, zo_icmp_ne, zo_iadd, zo_ireturn, zo_iinc, zo_goto, zo_iconst, zb_27, zb_20, zi_1, zi_3, zKd_7_1, zKd_7_7, zcl_27, sh_1, rf_1_1, sh_3, zcl_20, zcl_3, zvi_20_27, zvi_3_27, zRt, zKn_s, zKn_0, zFind, hx, hv, q3, h7, e20, nI_clamp (n := k) (by omega), zN10, zN01, not_true_eq_false, not_false_eq_true, false_implies, true_implies, implies_true, eq_self, nI_1, nI_40, nI_7, vz0, vz1, zb1_e0, zb1_n0]
    refine ⟨fun g => ih (by omega) (fun j hj => ?_), fun g => ?_⟩
    · by_cases e : j = k
      · subst e; exact g
      · exact hno j (by omega)
    · have hf : zFst (fun k => W k == v) 27 = k := zFst_eq (by omega) (by simpa using g) (fun j hj => by simpa using hno j hj)
      unfold oWk at hQ
      rw [hf, if_pos (by omega)] at hQ
      exact hQ
set_option maxRecDepth 20000 in
theorem cl_readWord2 (h3 : I 3 = W) : ∀ (n i m : Nat) (v : Int32) (J : Nat → Nat → Int32), zKpt STk I J → J 1 3 = nI (i + n) → J 1 4 = nI i → J 1 7 = v → i + n ≤ 700 → m ≤ i → (∀ k, k < i + n → J 2 k = oSb (T k) ∧ T k < 256) → (∀ I', zKpt STk I I' → I' 1 4 = nI (oWr T n i m v).1 → I' 1 7 = (oWr T n i m v).2.2 → I' 1 6 = nI (if (oWr T n i m v).2.1 ≤ 6 then oWk W (oWr T n i m v).2.2 else 1) → Q none (SH, I', L, RF p s r)) → zX w mX7_readWord rX7_readWord Q 0 0 2 [(0, Value.ref 1), (1, Value.int (nI m))] [] (SH, J, L, RF p s r) := by
  intro n
  have fin : ∀ (i m : Nat) (v : Int32) (J : Nat → Nat → Int32), zKpt STk I J → J 1 4 = nI i → J 1 7 = v → m ≤ 700 → (∀ I', zKpt STk I I' → I' 1 4 = nI i → I' 1 7 = v → I' 1 6 = nI (if m ≤ 6 then oWk W v else 1) → Q none (SH, I', L, RF p s r)) → zX w mX7_readWord rX7_readWord Q 0 0 72 [(0, Value.ref 1), (1, Value.int (nI m))] [] (SH, J, L, RF p s r) := by
    intro i m v J hJ h4 h7 hm hQ
    by_cases h6 : m ≤ 6
    · have hx : (nI m ≤ 6) = True := eq_true (by rw [show (6 : Int32) = nI 6 from rfl, zle_nat (by omega) (by omega)]; exact h6)
      rw [if_pos h6] at hQ
      refine zBlkR (M := mX7_readWord) (nL := 2) (rt := (Option.none : Option Jvm.ClassFile.FieldType)) (blk := bX7_readWord_72) (T := [(83, bX7_readWord_83), (87, bX7_readWord_87)]) 1 hX7_readWord_72 (zChks_cons hX7_readWord_83 (zChks_cons hX7_readWord_87 zChks_nil)) rfl rfl rfl (Nat.le_of_ble_eq_true rfl) (Nat.le_of_ble_eq_true rfl) ?_
      simp (implicitDefEqProofs := false) only [bX7_readWord_72, bX7_readWord_83, bX7_readWord_87, zRun_cons, zRun_nil, zLk, zSto, zIns, zFil, zf0, zf1, zf2, zf3, List.filter_cons, List.filter_nil, Nat.reduceAdd, Nat.reduceEqDiff, Nat.reduceLT, Nat.reduceLeDiff, Nat.reduceBEq, Nat.reduceBNe, reduceIte, if_true, if_false, Bool.false_and, Bool.true_and, Bool.and_true, Bool.and_false, Bool.not_false, Bool.not_true, Bool.false_eq_true, beq_self_eq_true, BEq.rfl, zCat1, zCat2, zCat3, zKdI, zKdL, zKdR, true_and, and_true, zSI, zSL, zSR, zu_at, and_self, and_false, false_and, lv_args, zKdZ, zKdO, zB01, zB11, Option.toList_none, Option.toList_some, List.nil_append, List.cons_append, true_or, or_true, zRow_rd, zu_rd, zo_aload_n, zo_iload_n, zo_bipush, zo_icmp_le, zo_iconst, zo_goto, zo_putfield, zo_putfield_2, zo_putfield_3, zo_return_, zb_6, zi_1, zKd_7_6, zTy_7_6, zcl_6, zcl_1, sh_1, zPutC, zKn_s, zKn_0, zFind, hx, zN10, zN01, not_true_eq_false, not_false_eq_true, false_implies, true_implies, implies_true, eq_self, nI_1, nI_40, nI_7, vz0, vz1, zb1_e0, zb1_n0]
      refine z_cV0 (M' := mX7_wordKind) (R' := rX7_wordKind) (i := 1) [] [.ref 1] eX7_wordKind k7_78 (by decide +kernel : decode cX7_readWord 84 = .ok (.invokevirtual 78, 3)) (Nat.le_of_ble_eq_true rfl) ⟨Nat.le_of_ble_eq_true rfl, Nat.le_of_ble_eq_true rfl, Nat.le_of_ble_eq_true rfl, Nat.le_of_ble_eq_true rfl, Nat.le_of_ble_eq_true rfl⟩ rfl rfl rfl sh_1 ?_
      refine cl_wordKind (W := W) (v := v) (by rw [← h3]; exact funext fun k => hJ 3 k (by unfold STk; omega)) h7 ?_
      refine zBlkR (M := mX7_readWord) (nL := 2) (rt := (Option.none : Option Jvm.ClassFile.FieldType)) (blk := bX7_readWord_87) (T := []) 0 hX7_readWord_87 zChks_nil rfl rfl rfl (Nat.le_of_ble_eq_true rfl) (Nat.le_of_ble_eq_true rfl) ?_
      simp (implicitDefEqProofs := false) only [bX7_readWord_87, zRun_cons, zRun_nil, zLk, zSto, zIns, zFil, zf0, zf1, zf2, zf3, List.filter_cons, List.filter_nil, Nat.reduceAdd, Nat.reduceEqDiff, Nat.reduceLT, Nat.reduceLeDiff, Nat.reduceBEq, Nat.reduceBNe, reduceIte, if_true, if_false, Bool.false_and, Bool.true_and, Bool.and_true, Bool.and_false, Bool.not_false, Bool.not_true, Bool.false_eq_true, beq_self_eq_true, BEq.rfl, zCat1, zCat2, zCat3, zKdI, zKdL, zKdR, true_and, and_true, zSI, zSL, zSR, zu_at, and_self, and_false, false_and, lv_args, zKdZ, zKdO, zB01, zB11, Option.toList_none, Option.toList_some, List.nil_append, List.cons_append, true_or, or_true, zRow_rd, zu_rd, zo_putfield, zo_putfield_2, zo_putfield_3, zo_return_, zKd_7_6, zTy_7_6, sh_1, zPutC, zKn_0, zN10, zN01, not_true_eq_false, not_false_eq_true, false_implies, true_implies, implies_true, eq_self, nI_1, nI_40, nI_7, vz0, vz1, zb1_e0, zb1_n0]
      exact hQ _ (hJ.u (by unfold STk; omega)) (by simp [zu_at]; exact h4) (by simp [zu_at]; exact h7) (by simp [zu_at])
    · have hx : (nI m ≤ 6) = False := eq_false (by rw [show (6 : Int32) = nI 6 from rfl, zle_nat (by omega) (by omega)]; exact h6)
      rw [if_neg h6] at hQ
      refine zBlkR (M := mX7_readWord) (nL := 2) (rt := (Option.none : Option Jvm.ClassFile.FieldType)) (blk := bX7_readWord_72) (T := [(83, bX7_readWord_83), (87, bX7_readWord_87)]) 1 hX7_readWord_72 (zChks_cons hX7_readWord_83 (zChks_cons hX7_readWord_87 zChks_nil)) rfl rfl rfl (Nat.le_of_ble_eq_true rfl) (Nat.le_of_ble_eq_true rfl) ?_
      simp (implicitDefEqProofs := false) only [bX7_readWord_72, bX7_readWord_83, bX7_readWord_87, zRun_cons, zRun_nil, zLk, zSto, zIns, zFil, zf0, zf1, zf2, zf3, List.filter_cons, List.filter_nil, Nat.reduceAdd, Nat.reduceEqDiff, Nat.reduceLT, Nat.reduceLeDiff, Nat.reduceBEq, Nat.reduceBNe, reduceIte, if_true, if_false, Bool.false_and, Bool.true_and, Bool.and_true, Bool.and_false, Bool.not_false, Bool.not_true, Bool.false_eq_true, beq_self_eq_true, BEq.rfl, zCat1, zCat2, zCat3, zKdI, zKdL, zKdR, true_and, and_true, zSI, zSL, zSR, zu_at, and_self, and_false, false_and, lv_args, zKdZ, zKdO, zB01, zB11, Option.toList_none, Option.toList_some, List.nil_append, List.cons_append, true_or, or_true, zRow_rd, zu_rd, zo_aload_n, zo_iload_n, zo_bipush, zo_icmp_le, zo_iconst, zo_goto, zo_putfield, zo_putfield_2, zo_putfield_3, zo_return_, zb_6, zi_1, zKd_7_6, zTy_7_6, zcl_6, zcl_1, sh_1, zPutC, zKn_s, zKn_0, zFind, hx, zN10, zN01, not_true_eq_false, not_false_eq_true, false_implies, true_implies, implies_true, eq_self, nI_1, nI_40, nI_7, vz0, vz1, zb1_e0, zb1_n0]
      exact hQ _ (hJ.u (by unfold STk; omega)) (by simp [zu_at]; exact h4) (by simp [zu_at]; exact h7) (by simp [zu_at]; rfl)
  induction n with
  | zero =>
    intro i m v J hJ h3' h4 h7 hn hm ht hQ
    have hx : (nI i ≤ nI i) = True := eq_true (by rw [zle_nat (by omega) (by omega)]; omega)
    have h3' : J 1 3 = nI i := h3'
    have key := fin i m v J hJ h4 h7 (by omega) hQ
    refine zBlkR (M := mX7_readWord) (nL := 2) (rt := (Option.none : Option Jvm.ClassFile.FieldType)) (blk := bX7_readWord_2) (T := []) 0 hX7_readWord_2 zChks_nil rfl rfl rfl (Nat.le_of_ble_eq_true rfl) (Nat.le_of_ble_eq_true rfl) ?_
    simp (implicitDefEqProofs := false) only [bX7_readWord_2, zRun_cons, zRun_nil, zLk, zSto, zIns, zFil, zf0, zf1, zf2, zf3, List.filter_cons, List.filter_nil, Nat.reduceAdd, Nat.reduceEqDiff, Nat.reduceLT, Nat.reduceLeDiff, Nat.reduceBEq, Nat.reduceBNe, reduceIte, if_true, if_false, Bool.false_and, Bool.true_and, Bool.and_true, Bool.and_false, Bool.not_false, Bool.not_true, Bool.false_eq_true, beq_self_eq_true, BEq.rfl, zCat1, zCat2, zCat3, zKdI, zKdL, zKdR, true_and, and_true, zSI, zSL, zSR, zu_at, and_self, and_false, false_and, lv_args, zKdZ, zKdO, zB01, zB11, Option.toList_none, Option.toList_some, List.nil_append, List.cons_append, true_or, or_true, zRow_rd, zu_rd, zo_aload_n, zo_getfield, zo_icmp_ge, zo_baload, zKd_7_4, zKd_7_3, zKd_7_0, sh_1, rf_1_0, sh_2, zKn_0, h3', h4, hx, zN10, zN01, not_true_eq_false, not_false_eq_true, false_implies, true_implies, implies_true, eq_self, nI_1, nI_40, nI_7, vz0, vz1, zb1_e0, zb1_n0]
    exact key
  | succ n ih =>
    intro i m v J hJ h3' h4 h7 hn hm ht hQ
    have hx : (nI (i + (n + 1)) ≤ nI i) = False := eq_false (by rw [zle_nat (by omega) (by omega)]; omega)
    have hvi : vp_in (nI i) 700 := zvn (by omega) (by omega)
    obtain ⟨t1, t2⟩ := ht i (by omega)
    unfold oWr at hQ
    refine zBlkR (M := mX7_readWord) (nL := 2) (rt := (Option.none : Option Jvm.ClassFile.FieldType)) (blk := bX7_readWord_2) (T := []) 0 hX7_readWord_2 zChks_nil rfl rfl rfl (Nat.le_of_ble_eq_true rfl) (Nat.le_of_ble_eq_true rfl) ?_
    simp (implicitDefEqProofs := false) only [bX7_readWord_2, zRun_cons, zRun_nil, zLk, zSto, zIns, zFil, zf0, zf1, zf2, zf3, List.filter_cons, List.filter_nil, Nat.reduceAdd, Nat.reduceEqDiff, Nat.reduceLT, Nat.reduceLeDiff, Nat.reduceBEq, Nat.reduceBNe, reduceIte, if_true, if_false, Bool.false_and, Bool.true_and, Bool.and_true, Bool.and_false, Bool.not_false, Bool.not_true, Bool.false_eq_true, beq_self_eq_true, BEq.rfl, zCat1, zCat2, zCat3, zKdI, zKdL, zKdR, true_and, and_true, zSI, zSL, zSR, zu_at, and_self, and_false, false_and, lv_args, zKdZ, zKdO, zB01, zB11, Option.toList_none, Option.toList_some, List.nil_append, List.cons_append, true_or, or_true, zRow_rd, zu_rd, zo_aload_n, zo_getfield, zo_icmp_ge, zo_baload, zKd_7_4, zKd_7_3, zKd_7_0, sh_1, rf_1_0, sh_2, zKn_0, h3', h4, hx, hvi, t1, nI_clamp (n := i) (by omega), zN10, zN01, not_true_eq_false, not_false_eq_true, false_implies, true_implies, implies_true, eq_self, nI_1, nI_40, nI_7, vz0, vz1, zb1_e0, zb1_n0]
    refine z_cS0 (M' := mX7_isLetter) (R' := rX7_isLetter) [.int (oSb (T i))] [] eX7_isLetter k7_61 (by decide +kernel : decode cX7_readWord 22 = .ok (.invokestatic 61, 3)) (Nat.le_of_ble_eq_true rfl) ⟨Nat.le_of_ble_eq_true rfl, Nat.le_of_ble_eq_true rfl, Nat.le_of_ble_eq_true rfl, Nat.le_of_ble_eq_true rfl, Nat.le_of_ble_eq_true rfl⟩ rfl rfl rfl ?_
    refine sp_isLetter t2 ?_
    cases hd : oLet (T i) with
    | false =>
      rw [if_neg (by rw [hd]; decide)] at hQ
      have key := fin i m v J hJ h4 h7 (by omega) hQ
      refine zBlkR (M := mX7_readWord) (nL := 2) (rt := (Option.none : Option Jvm.ClassFile.FieldType)) (blk := bX7_readWord_25) (T := [(56, bX7_readWord_56)]) 1 hX7_readWord_25 (zChks_cons hX7_readWord_56 zChks_nil) rfl rfl rfl (Nat.le_of_ble_eq_true rfl) (Nat.le_of_ble_eq_true rfl) ?_
      simp (implicitDefEqProofs := false) only [bX7_readWord_25, bX7_readWord_56, zRun_cons, zRun_nil, zLk, zSto, zIns, zFil, zf0, zf1, zf2, zf3, List.filter_cons, List.filter_nil, Nat.reduceAdd, Nat.reduceEqDiff, Nat.reduceLT, Nat.reduceLeDiff, Nat.reduceBEq, Nat.reduceBNe, reduceIte, if_true, if_false, Bool.false_and, Bool.true_and, Bool.and_true, Bool.and_false, Bool.not_false, Bool.not_true, Bool.false_eq_true, beq_self_eq_true, BEq.rfl, zCat1, zCat2, zCat3, zKdI, zKdL, zKdR, true_and, and_true, zSI, zSL, zSR, zu_at, and_self, and_false, false_and, lv_args, zKdZ, zKdO, zB01, zB11, Option.toList_none, Option.toList_some, List.nil_append, List.cons_append, true_or, or_true, zRow_rd, zu_rd, zo_if_eq, zo_iload_n, zo_bipush, zo_icmp_ge, zo_aload_n, zo_dup, zo_getfield, zo_baload, zo_iinc, zo_iconst, zo_iadd, zo_putfield, zo_putfield_2, zo_putfield_3, zo_goto, zb_6, zi_1, zKd_7_7, zKd_7_0, zKd_7_4, zTy_7_4, zcl_6, sh_1, rf_1_0, sh_2, zcl_1, zvi_6_700, zvi_1_700, zPutC, zKn_s, zKn_0, zFind, zb1_f, zN10, zN01, not_true_eq_false, not_false_eq_true, false_implies, true_implies, implies_true, eq_self, nI_1, nI_40, nI_7, vz0, vz1, zb1_e0, zb1_n0]
      exact key
    | true =>
      rw [if_pos hd] at hQ
      have hb := oLet_lo hd
      rw [sb_lo (T i) (by omega)] at t1
      by_cases h6 : m < 6
      · have hx6 : ((6 : Int32) ≤ nI m) = False := eq_false (by rw [show (6 : Int32) = nI 6 from rfl, zle_nat (by omega) (by omega)]; omega)
        rw [if_pos h6] at hQ
        refine zBlkR (M := mX7_readWord) (nL := 2) (rt := (Option.none : Option Jvm.ClassFile.FieldType)) (blk := bX7_readWord_25) (T := [(56, bX7_readWord_56), (72, bX7_readWord_72), (83, bX7_readWord_83), (87, bX7_readWord_87)]) 2 hX7_readWord_25 (zChks_cons hX7_readWord_56 (zChks_cons hX7_readWord_72 (zChks_cons hX7_readWord_83 (zChks_cons hX7_readWord_87 zChks_nil)))) rfl rfl rfl (Nat.le_of_ble_eq_true rfl) (Nat.le_of_ble_eq_true rfl) ?_
        simp (implicitDefEqProofs := false) only [bX7_readWord_25, bX7_readWord_56, bX7_readWord_72, bX7_readWord_83, bX7_readWord_87, zRun_cons, zRun_nil, zLk, zSto, zIns, zFil, zf0, zf1, zf2, zf3, List.filter_cons, List.filter_nil, Nat.reduceAdd, Nat.reduceEqDiff, Nat.reduceLT, Nat.reduceLeDiff, Nat.reduceBEq, Nat.reduceBNe, reduceIte, if_true, if_false, Bool.false_and, Bool.true_and, Bool.and_true, Bool.and_false, Bool.not_false, Bool.not_true, Bool.false_eq_true, beq_self_eq_true, BEq.rfl, zCat1, zCat2, zCat3, zKdI, zKdL, zKdR, true_and, and_true, zSI, zSL, zSR, zu_at, and_self, and_false, false_and, lv_args, zKdZ, zKdO, zB01, zB11, Option.toList_none, Option.toList_some, List.nil_append, List.cons_append, true_or, or_true, zRow_rd, zu_rd, zo_if_eq, zo_iload_n, zo_bipush, zo_icmp_ge, zo_aload_n, zo_dup, zo_getfield, zo_baload, zo_iinc, zo_iconst, zo_iadd, zo_putfield, zo_putfield_2, zo_putfield_3, zo_goto, zo_icmp_le, zo_return_, zb_6, zi_1, zKd_7_7, zKd_7_0, zKd_7_4, zTy_7_4, zKd_7_6, zTy_7_6, zcl_6, sh_1, rf_1_0, sh_2, zcl_1, zvi_6_700, zvi_1_700, zPutC, zKn_s, zKn_0, zFind, zb1_t, h4, h7, hvi, t1, hx6, nI_clamp (n := i) (by omega), zN10, zN01, not_true_eq_false, not_false_eq_true, false_implies, true_implies, implies_true, eq_self, nI_1, nI_40, nI_7, vz0, vz1, zb1_e0, zb1_n0]
        refine z_cS0 (M' := mX7_letterAt) (R' := rX7_letterAt) [.int (nI (T i)), .int (nI m)] [.int v, .ref 1] eX7_letterAt k7_31 (by decide +kernel : decode cX7_readWord 49 = .ok (.invokestatic 31, 3)) (Nat.le_of_ble_eq_true rfl) ⟨Nat.le_of_ble_eq_true rfl, Nat.le_of_ble_eq_true rfl, Nat.le_of_ble_eq_true rfl, Nat.le_of_ble_eq_true rfl, Nat.le_of_ble_eq_true rfl⟩ rfl rfl rfl ?_
        refine sp_letterAt ?_
        refine zBlkR (M := mX7_readWord) (nL := 2) (rt := (Option.none : Option Jvm.ClassFile.FieldType)) (blk := bX7_readWord_52) (T := []) 0 hX7_readWord_52 zChks_nil rfl rfl rfl (Nat.le_of_ble_eq_true rfl) (Nat.le_of_ble_eq_true rfl) ?_
        simp (implicitDefEqProofs := false) only [bX7_readWord_52, zRun_cons, zRun_nil, zLk, zSto, zIns, zFil, zf0, zf1, zf2, zf3, List.filter_cons, List.filter_nil, Nat.reduceAdd, Nat.reduceEqDiff, Nat.reduceLT, Nat.reduceLeDiff, Nat.reduceBEq, Nat.reduceBNe, reduceIte, if_true, if_false, Bool.false_and, Bool.true_and, Bool.and_true, Bool.and_false, Bool.not_false, Bool.not_true, Bool.false_eq_true, beq_self_eq_true, BEq.rfl, zCat1, zCat2, zCat3, zKdI, zKdL, zKdR, true_and, and_true, zSI, zSL, zSR, zu_at, and_self, and_false, false_and, lv_args, zKdZ, zKdO, zB01, zB11, Option.toList_none, Option.toList_some, List.nil_append, List.cons_append, true_or, or_true, zRow_rd, zu_rd, zo_ior, zo_putfield, zo_putfield_2, zo_putfield_3, zo_iinc, zo_aload_n, zo_dup, zo_getfield, zo_iconst, zo_iadd, zo_goto, zi_1, zKd_7_7, zTy_7_7, zKd_7_4, zTy_7_4, sh_1, zcl_1, zPutC, zKn_0, h4, nI_1, zN10, zN01, not_true_eq_false, not_false_eq_true, false_implies, true_implies, implies_true, eq_self, nI_1, nI_40, nI_7, vz0, vz1, zb1_e0, zb1_n0]
        exact ih (i + 1) (m + 1) (v ||| zLett (nI (T i)) (nI m)) _ ((hJ.u (by unfold STk; omega)).u (by unfold STk; omega)) (by simp [zu_at]; rw [h3']; congr 1; omega) (by simp [zu_at]) (by simp [zu_at]) (by omega) (by omega) (fun k hk => by rw [zu_at, if_neg (by omega), zu_at, if_neg (by omega)]; exact ht k (by omega)) hQ
      · have hx6 : ((6 : Int32) ≤ nI m) = True := eq_true (by rw [show (6 : Int32) = nI 6 from rfl, zle_nat (by omega) (by omega)]; omega)
        rw [if_neg h6] at hQ
        refine zBlkR (M := mX7_readWord) (nL := 2) (rt := (Option.none : Option Jvm.ClassFile.FieldType)) (blk := bX7_readWord_25) (T := [(56, bX7_readWord_56), (72, bX7_readWord_72), (83, bX7_readWord_83), (87, bX7_readWord_87)]) 2 hX7_readWord_25 (zChks_cons hX7_readWord_56 (zChks_cons hX7_readWord_72 (zChks_cons hX7_readWord_83 (zChks_cons hX7_readWord_87 zChks_nil)))) rfl rfl rfl (Nat.le_of_ble_eq_true rfl) (Nat.le_of_ble_eq_true rfl) ?_
        simp (implicitDefEqProofs := false) only [bX7_readWord_25, bX7_readWord_56, bX7_readWord_72, bX7_readWord_83, bX7_readWord_87, zRun_cons, zRun_nil, zLk, zSto, zIns, zFil, zf0, zf1, zf2, zf3, List.filter_cons, List.filter_nil, Nat.reduceAdd, Nat.reduceEqDiff, Nat.reduceLT, Nat.reduceLeDiff, Nat.reduceBEq, Nat.reduceBNe, reduceIte, if_true, if_false, Bool.false_and, Bool.true_and, Bool.and_true, Bool.and_false, Bool.not_false, Bool.not_true, Bool.false_eq_true, beq_self_eq_true, BEq.rfl, zCat1, zCat2, zCat3, zKdI, zKdL, zKdR, true_and, and_true, zSI, zSL, zSR, zu_at, and_self, and_false, false_and, lv_args, zKdZ, zKdO, zB01, zB11, Option.toList_none, Option.toList_some, List.nil_append, List.cons_append, true_or, or_true, zRow_rd, zu_rd, zo_if_eq, zo_iload_n, zo_bipush, zo_icmp_ge, zo_aload_n, zo_dup, zo_getfield, zo_baload, zo_iinc, zo_iconst, zo_iadd, zo_putfield, zo_putfield_2, zo_putfield_3, zo_goto, zo_icmp_le, zo_return_, zb_6, zi_1, zKd_7_7, zKd_7_0, zKd_7_4, zTy_7_4, zKd_7_6, zTy_7_6, zcl_6, sh_1, rf_1_0, sh_2, zcl_1, zvi_6_700, zvi_1_700, zPutC, zKn_s, zKn_0, zFind, zb1_t, h4, hx6, nI_1, zN10, zN01, not_true_eq_false, not_false_eq_true, false_implies, true_implies, implies_true, eq_self, nI_1, nI_40, nI_7, vz0, vz1, zb1_e0, zb1_n0]
        exact ih (i + 1) (m + 1) v _ (hJ.u (by unfold STk; omega)) (by simp [zu_at]; rw [h3']; congr 1; omega) (by simp [zu_at]) (by simp [zu_at]; exact h7) (by omega) (by omega) (fun k hk => by rw [zu_at, if_neg (by omega)]; exact ht k (by omega)) hQ
end ZN98i
end
