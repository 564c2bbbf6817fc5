/-! ===== TOKENS: one token in the class ===== -/
def oSk (T : Nat → Nat) : Nat → Nat → Nat
  | 0, i => i
  | n + 1, i => if oSpc (T i) = true then oSk T n (i + 1) else i
/-- a token from i: start, end, kind, value -/
def oTc (W : Nat → Int32) (T : Nat → Nat) (e i : Nat) : Nat × Nat × Nat × Int32 :=
  let s := oSk T (e - i) i
  if e ≤ s then (s, s, 0, 0) else if oLet (T s) = true then (s, (oWr T (e - s) s 0 0).1, (if (oWr T (e - s) s 0 0).2.1 ≤ 6 then oWk W (oWr T (e - s) s 0 0).2.2 else 1), (oWr T (e - s) s 0 0).2.2) else if oDig (T s) = true then (s, (oNm T (e - s) s 0).1, 2, nI (oNm T (e - s) s 0).2) else (s, (oMr T e s).1, (oMr T e s).2, 0)
def STj (i k : Nat) : Prop := i = 1 ∧ (k = 4 ∨ k = 5 ∨ k = 6 ∨ k = 7)
section ZN98k
variable {w : zP} {Q : Option Value → zMem → Prop} {μ : zMem} {I J : Nat → Nat → Int32} {L K : Nat → Nat → Int64} {p s : Nat} {r : Option Nat} {a b c i k n e : Nat} {x y v : Int32} {T : Nat → Nat} {W : Nat → Int32}
theorem oSk_le {T : Nat → Nat} : ∀ n i, oSk T n i ≤ i + n
  | 0, i => Nat.le_refl _
  | n + 1, i => by
    unfold oSk
    split
    · have := oSk_le (T := T) n (i + 1); omega
    · omega
theorem sb_spc : ∀ b, b < 256 → ((oSb b = 32 ∨ oSb b = 10) ↔ oSpc b = true) := by decide +kernel
theorem STk_j {I J : Nat → Nat → Int32} (h : zKpt STk I J) : zKpt STj I J := h.mono (fun i k g => by unfold STk at g; unfold STj; omega)
/-- what a token is, once the blanks are past -/
def oTd (W : Nat → Int32) (T : Nat → Nat) (e s : Nat) : Nat × Nat × Nat × Int32 := if e ≤ s then (s, s, 0, 0) else if oLet (T s) = true then (s, (oWr T (e - s) s 0 0).1, (if (oWr T (e - s) s 0 0).2.1 ≤ 6 then oWk W (oWr T (e - s) s 0 0).2.2 else 1), (oWr T (e - s) s 0 0).2.2) else if oDig (T s) = true then (s, (oNm T (e - s) s 0).1, 2, nI (oNm T (e - s) s 0).2) else (s, (oMr T e s).1, (oMr T e s).2, 0)
theorem oTc_d : oTc W T e i = oTd W T e (oSk T (e - i) i) := rfl
set_option maxRecDepth 20000 in
theorem cl_readWord (h3 : I 3 = W) (he3 : I 1 3 = nI (i + n)) (h4 : I 1 4 = nI i) (h7 : I 1 7 = 0) (hn : i + n ≤ 700) (ht : ∀ k, k < i + n → I 2 k = oSb (T k) ∧ T k < 256) (hQ : ∀ I', zKpt STk I I' → I' 1 4 = nI (oWr T n i 0 0).1 → I' 1 7 = (oWr T n i 0 0).2.2 → I' 1 6 = nI (if (oWr T n i 0 0).2.1 ≤ 6 then oWk W (oWr T n i 0 0).2.2 else 1) → Q none (SH, I', L, RF p s r)) : zXM w mX7_readWord rX7_readWord [.ref 1] (SH, I, L, RF p s r) Q := by
  unfold zXM
  refine zBlkR (M := mX7_readWord) (nL := 2) (rt := (Option.none : Option Jvm.ClassFile.FieldType)) (blk := bX7_readWord_0) (T := []) 0 hX7_readWord_0 zChks_nil rfl rfl rfl (Nat.le_of_ble_eq_true rfl) (Nat.le_of_ble_eq_true rfl) ?_
  simp (implicitDefEqProofs := false) only [bX7_readWord_0, zRun_cons, zRun_nil, zLk, zSto, zIns, zFil, zf0, zf1, zf2, zf3, List.filter_cons, List.filter_nil, Nat.reduceAdd, Nat.reduceEqDiff, Nat.reduceLT, Nat.reduceLeDiff, Nat.reduceBEq, Nat.reduceBNe, reduceIte, if_true, if_false, Bool.false_and, Bool.true_and, Bool.and_true, Bool.and_false, Bool.not_false, Bool.not_true, Bool.false_eq_true, beq_self_eq_true, BEq.rfl, zCat1, zCat2, zCat3, zKdI, zKdL, zKdR, true_and, and_true, zSI, zSL, zSR, zu_at, and_self, and_false, false_and, lv_args, zKdZ, zKdO, zB01, zB11, Option.toList_none, Option.toList_some, List.nil_append, List.cons_append, true_or, or_true, zRow_rd, zu_rd, zo_iconst, zo_istore_n, zi_0, zcl_0, zKn_0, zN10, zN01, not_true_eq_false, not_false_eq_true, false_implies, true_implies, implies_true, eq_self, nI_1, nI_40, nI_7, vz0, vz1, zb1_e0, zb1_n0]
  exact cl_readWord2 h3 n i 0 0 I zKpt_rfl he3 h4 h7 hn (Nat.zero_le _) ht hQ
set_option maxRecDepth 20000 in
theorem cl_tk52 {sp : Nat} (h3 : I 3 = W) (he3 : I 1 3 = nI e) (h4 : I 1 4 = nI sp) (hs : sp ≤ e) (he : e ≤ 700) (ht : ∀ k, k < e → I 2 k = oSb (T k) ∧ T k < 256) (hQ : ∀ I', zKpt STj I I' → I' 1 5 = nI (oTd W T e sp).1 → I' 1 4 = nI (oTd W T e sp).2.1 → I' 1 6 = nI (oTd W T e sp).2.2.1 → I' 1 7 = (oTd W T e sp).2.2.2 → Q none (SH, I', L, RF p s r)) : zX w mX7_advance rX7_advance Q 0 0 52 [(0, Value.ref 1)] [] (SH, I, L, RF p s r) := by
  unfold oTd at hQ
  have kA : zKpt STj I (zu (zu I 1 5 (nI sp)) 1 7 0) := (zKpt_rfl.u (by unfold STj; omega)).u (by unfold STj; omega)
  by_cases hse : e ≤ sp
  · have hx : (nI sp < nI e) = False := eq_false (by rw [zlt_nat (by omega) (by omega)]; omega)
    have hx2 : (nI e ≤ nI sp) = True := eq_true (by rw [zle_nat (by omega) (by omega)]; omega)
    rw [if_pos hse] at hQ
    refine zBlkR (M := mX7_advance) (nL := 1) (rt := (Option.none : Option Jvm.ClassFile.FieldType)) (blk := bX7_advance_52) (T := [(84, bX7_advance_84), (141, bX7_advance_141)]) 1 hX7_advance_52 (zChks_cons hX7_advance_84 (zChks_cons hX7_advance_141 zChks_nil)) rfl rfl rfl (Nat.le_of_ble_eq_true rfl) (Nat.le_of_ble_eq_true rfl) ?_
    simp (implicitDefEqProofs := false) only [bX7_advance_52, bX7_advance_84, bX7_advance_141, zRun_cons, zRun_nil, zLk, zSto, zIns, zFil, zf0, zf1, zf2, zf3, List.filter_cons, List.filter_nil, Nat.reduceAdd, Nat.reduceEqDiff, Nat.reduceLT, Nat.reduceLeDiff, Nat.reduceBEq, Nat.reduceBNe, reduceIte, if_true, if_false, Bool.false_and, Bool.true_and, Bool.and_true, Bool.and_false, Bool.not_false, Bool.not_true, Bool.false_eq_true, beq_self_eq_true, BEq.rfl, zCat1, zCat2, zCat3, zKdI, zKdL, zKdR, true_and, and_true, zSI, zSL, zSR, zu_at, and_self, and_false, false_and, lv_args, zKdZ, zKdO, zB01, zB11, Option.toList_none, Option.toList_some, List.nil_append, List.cons_append, true_or, or_true, zRow_rd, zu_rd, zo_aload_n, zo_getfield, zo_putfield, zo_putfield_2, zo_putfield_3, zo_iconst, zo_icmp_lt, zo_goto, zo_baload, zo_return_, zi_0, zKd_7_4, zKd_7_5, zTy_7_5, zKd_7_7, zTy_7_7, zKd_7_3, zKd_7_6, zTy_7_6, zKd_7_0, sh_1, zcl_0, rf_1_0, sh_2, zvi_0_700, zPutC, zKn_s, zKn_0, zFind, he3, h4, hx, hx2, zN10, zN01, not_true_eq_false, not_false_eq_true, false_implies, true_implies, implies_true, eq_self, nI_1, nI_40, nI_7, vz0, vz1, zb1_e0, zb1_n0]
    exact hQ _ (kA.u (by unfold STj; omega)) (by simp [zu_at]) (by simp [zu_at]; exact h4) (by simp [zu_at]; rfl) (by simp [zu_at])
  · have hx : (nI sp < nI e) = True := eq_true (by rw [zlt_nat (by omega) (by omega)]; omega)
    have hx2 : (nI e ≤ nI sp) = False := eq_false (by rw [zle_nat (by omega) (by omega)]; omega)
    rw [if_neg hse] at hQ
    obtain ⟨t1, t2⟩ := ht sp (by omega)
    have hv : vp_in (nI sp) 700 := zvn (by omega) (by omega)
    refine zBlkR (M := mX7_advance) (nL := 1) (rt := (Option.none : Option Jvm.ClassFile.FieldType)) (blk := bX7_advance_52) (T := [(84, bX7_advance_84), (141, bX7_advance_141)]) 1 hX7_advance_52 (zChks_cons hX7_advance_84 (zChks_cons hX7_advance_141 zChks_nil)) rfl rfl rfl (Nat.le_of_ble_eq_true rfl) (Nat.le_of_ble_eq_true rfl) ?_
    simp (implicitDefEqProofs := false) only [bX7_advance_52, bX7_advance_84, bX7_advance_141, zRun_cons, zRun_nil, zLk, zSto, zIns, zFil, zf0, zf1, zf2, zf3, List.filter_cons, List.filter_nil, Nat.reduceAdd, Nat.reduceEqDiff, Nat.reduceLT, Nat.reduceLeDiff, Nat.reduceBEq, Nat.reduceBNe, reduceIte, if_true, if_false, Bool.false_and, Bool.true_and, Bool.and_true, Bool.and_false, Bool.not_false, Bool.not_true, Bool.false_eq_true, beq_self_eq_true, BEq.rfl, zCat1, zCat2, zCat3, zKdI, zKdL, zKdR, true_and, and_true, zSI, zSL, zSR, zu_at, and_self, and_false, false_and, lv_args, zKdZ, zKdO, zB01, zB11, Option.toList_none, Option.toList_some, List.nil_append, List.cons_append, true_or, or_true, zRow_rd, zu_rd, zo_aload_n, zo_getfield, zo_putfield, zo_putfield_2, zo_putfield_3, zo_iconst, zo_icmp_lt, zo_goto, zo_baload, zo_return_, zi_0, zKd_7_4, zKd_7_5, zTy_7_5, zKd_7_7, zTy_7_7, zKd_7_3, zKd_7_6, zTy_7_6, zKd_7_0, sh_1, zcl_0, rf_1_0, sh_2, zvi_0_700, zPutC, zKn_s, zKn_0, zFind, he3, h4, hx, hx2, hv, t1, nI_clamp (n := sp) (by omega), zN10, zN01, not_true_eq_false, not_false_eq_true, false_implies, true_implies, implies_true, eq_self, nI_1, nI_40, nI_7, vz0, vz1, zb1_e0, zb1_n0]
    have j3 : (zu (zu I 1 5 (nI sp)) 1 7 0) 3 = W := by rw [← h3]; funext k; rw [zu_at, if_neg (by omega), zu_at, if_neg (by omega)]
    have j13 : (zu (zu I 1 5 (nI sp)) 1 7 0) 1 3 = nI e := by simp [zu_at]; exact he3
    have j14 : (zu (zu I 1 5 (nI sp)) 1 7 0) 1 4 = nI sp := by simp [zu_at]; exact h4
    have j15 : (zu (zu I 1 5 (nI sp)) 1 7 0) 1 5 = nI sp := by simp [zu_at]
    have j17 : (zu (zu I 1 5 (nI sp)) 1 7 0) 1 7 = 0 := by simp [zu_at]
    have jt : ∀ k, k < e → (zu (zu I 1 5 (nI sp)) 1 7 0) 2 k = oSb (T k) ∧ T k < 256 := fun k hk => by rw [zu_at, if_neg (by omega), zu_at, if_neg (by omega)]; exact ht k hk
    generalize zu (zu I 1 5 (nI sp)) 1 7 0 = I1 at *
    obtain ⟨n, hn⟩ : ∃ n, e = sp + n := ⟨e - sp, by omega⟩
    subst hn
    rw [Nat.add_sub_cancel_left] at hQ
    have t1' := (jt sp (by omega)).1
    refine z_cS0 (M' := mX7_isLetter) (R' := rX7_isLetter) [.int (oSb (T sp))] [] eX7_isLetter k7_61 (by decide +kernel : decode cX7_advance 93 = .ok (.invokestatic 61, 3)) (Nat.le_of_ble_eq_true rfl) ⟨Nat.le_of_ble_eq_true rfl, Nat.le_of_ble_eq_true rfl, Nat.le_of_ble_eq_true rfl, Nat.le_of_ble_eq_true rfl, Nat.le_of_ble_eq_true rfl⟩ rfl rfl rfl ?_
    refine sp_isLetter t2 ?_
    cases hl : oLet (T sp) with
    | true =>
      rw [if_pos hl] at hQ
      refine zBlkR (M := mX7_advance) (nL := 1) (rt := (Option.none : Option Jvm.ClassFile.FieldType)) (blk := bX7_advance_96) (T := [(106, bX7_advance_106)]) 1 hX7_advance_96 (zChks_cons hX7_advance_106 zChks_nil) rfl rfl rfl (Nat.le_of_ble_eq_true rfl) (Nat.le_of_ble_eq_true rfl) ?_
      simp (implicitDefEqProofs := false) only [bX7_advance_96, bX7_advance_106, zRun_cons, zRun_nil, zLk, zSto, zIns, zFil, zf0, zf1, zf2, zf3, List.filter_cons, List.filter_nil, Nat.reduceAdd, Nat.reduceEqDiff, Nat.reduceLT, Nat.reduceLeDiff, Nat.reduceBEq, Nat.reduceBNe, reduceIte, if_true, if_false, Bool.false_and, Bool.true_and, Bool.and_true, Bool.and_false, Bool.not_false, Bool.not_true, Bool.false_eq_true, beq_self_eq_true, BEq.rfl, zCat1, zCat2, zCat3, zKdI, zKdL, zKdR, true_and, and_true, zSI, zSL, zSR, zu_at, and_self, and_false, false_and, lv_args, zKdZ, zKdO, zB01, zB11, Option.toList_none, Option.toList_some, List.nil_append, List.cons_append, true_or, or_true, zRow_rd, zu_rd, zo_if_eq, zo_aload_n, zo_getfield, zo_baload, zKd_7_0, zKd_7_4, sh_1, rf_1_0, sh_2, zKn_s, zKn_0, zFind, zb1_t, zN10, zN01, not_true_eq_false, not_false_eq_true, false_implies, true_implies, implies_true, eq_self, nI_1, nI_40, nI_7, vz0, vz1, zb1_e0, zb1_n0]
      refine z_cV0 (M' := mX7_readWord) (R' := rX7_readWord) (i := 1) [] [] eX7_readWord k7_65 (by decide +kernel : decode cX7_advance 100 = .ok (.invokevirtual 65, 3)) (Nat.le_of_ble_eq_true rfl) ⟨Nat.le_of_ble_eq_true rfl, Nat.le_of_ble_eq_true rfl, Nat.le_of_ble_eq_true rfl, Nat.le_of_ble_eq_true rfl, Nat.le_of_ble_eq_true rfl⟩ rfl rfl rfl sh_1 ?_
      refine cl_readWord (n := n) j3 j13 j14 j17 he jt (fun I2 k2 g4 g7 g6 => ?_)
      refine zBlkR (M := mX7_advance) (nL := 1) (rt := (Option.none : Option Jvm.ClassFile.FieldType)) (blk := bX7_advance_103) (T := [(141, bX7_advance_141)]) 1 hX7_advance_103 (zChks_cons hX7_advance_141 zChks_nil) rfl rfl rfl (Nat.le_of_ble_eq_true rfl) (Nat.le_of_ble_eq_true rfl) ?_
      simp (implicitDefEqProofs := false) only [bX7_advance_103, bX7_advance_141, zRun_cons, zRun_nil, zLk, zSto, zIns, zFil, zf0, zf1, zf2, zf3, List.filter_cons, List.filter_nil, Nat.reduceAdd, Nat.reduceEqDiff, Nat.reduceLT, Nat.reduceLeDiff, Nat.reduceBEq, Nat.reduceBNe, reduceIte, if_true, if_false, Bool.false_and, Bool.true_and, Bool.and_true, Bool.and_false, Bool.not_false, Bool.not_true, Bool.false_eq_true, beq_self_eq_true, BEq.rfl, zCat1, zCat2, zCat3, zKdI, zKdL, zKdR, true_and, and_true, zSI, zSL, zSR, zu_at, and_self, and_false, false_and, lv_args, zKdZ, zKdO, zB01, zB11, Option.toList_none, Option.toList_some, List.nil_append, List.cons_append, true_or, or_true, zRow_rd, zu_rd, zo_goto, zo_return_, zKn_s, zKn_0, zFind, zN10, zN01, not_true_eq_false, not_false_eq_true, false_implies, true_implies, implies_true, eq_self, nI_1, nI_40, nI_7, vz0, vz1, zb1_e0, zb1_n0]
      exact hQ I2 (kA.trans (STk_j k2)) (by rw [k2 1 5 (by unfold STk; omega)]; exact j15) g4 g6 g7
    | false =>
      rw [if_neg (by rw [hl]; decide)] at hQ
      refine zBlkR (M := mX7_advance) (nL := 1) (rt := (Option.none : Option Jvm.ClassFile.FieldType)) (blk := bX7_advance_96) (T := [(106, bX7_advance_106)]) 1 hX7_advance_96 (zChks_cons hX7_advance_106 zChks_nil) rfl rfl rfl (Nat.le_of_ble_eq_true rfl) (Nat.le_of_ble_eq_true rfl) ?_
      simp (implicitDefEqProofs := false) only [bX7_advance_96, bX7_advance_106, zRun_cons, zRun_nil, zLk, zSto, zIns, zFil, zf0, zf1, zf2, zf3, List.filter_cons, List.filter_nil, Nat.reduceAdd, Nat.reduceEqDiff, Nat.reduceLT, Nat.reduceLeDiff, Nat.reduceBEq, Nat.reduceBNe, reduceIte, if_true, if_false, Bool.false_and, Bool.true_and, Bool.and_true, Bool.and_false, Bool.not_false, Bool.not_true, Bool.false_eq_true, beq_self_eq_true, BEq.rfl, zCat1, zCat2, zCat3, zKdI, zKdL, zKdR, true_and, and_true, zSI, zSL, zSR, zu_at, and_self, and_false, false_and, lv_args, zKdZ, zKdO, zB01, zB11, Option.toList_none, Option.toList_some, List.nil_append, List.cons_append, true_or, or_true, zRow_rd, zu_rd, zo_if_eq, zo_aload_n, zo_getfield, zo_baload, zKd_7_0, zKd_7_4, sh_1, rf_1_0, sh_2, zKn_s, zKn_0, zFind, zb1_f, j14, hv, t1', nI_clamp (n := sp) (by omega), zN10, zN01, not_true_eq_false, not_false_eq_true, false_implies, true_implies, implies_true, eq_self, nI_1, nI_40, nI_7, vz0, vz1, zb1_e0, zb1_n0]
      refine z_cS0 (M' := mX7_isDigit) (R' := rX7_isDigit) [.int (oSb (T sp))] [] eX7_isDigit k7_68 (by decide +kernel : decode cX7_advance 115 = .ok (.invokestatic 68, 3)) (Nat.le_of_ble_eq_true rfl) ⟨Nat.le_of_ble_eq_true rfl, Nat.le_of_ble_eq_true rfl, Nat.le_of_ble_eq_true rfl, Nat.le_of_ble_eq_true rfl, Nat.le_of_ble_eq_true rfl⟩ rfl rfl rfl ?_
      refine sp_isDigit t2 ?_
      cases hd : oDig (T sp) with
      | true =>
        rw [if_pos hd] at hQ
        refine zBlkR (M := mX7_advance) (nL := 1) (rt := (Option.none : Option Jvm.ClassFile.FieldType)) (blk := bX7_advance_118) (T := [(128, bX7_advance_128)]) 1 hX7_advance_118 (zChks_cons hX7_advance_128 zChks_nil) rfl rfl rfl (Nat.le_of_ble_eq_true rfl) (Nat.le_of_ble_eq_true rfl) ?_
        simp (implicitDefEqProofs := false) only [bX7_advance_118, bX7_advance_128, zRun_cons, zRun_nil, zLk, zSto, zIns, zFil, zf0, zf1, zf2, zf3, List.filter_cons, List.filter_nil, Nat.reduceAdd, Nat.reduceEqDiff, Nat.reduceLT, Nat.reduceLeDiff, Nat.reduceBEq, Nat.reduceBNe, reduceIte, if_true, if_false, Bool.false_and, Bool.true_and, Bool.and_true, Bool.and_false, Bool.not_false, Bool.not_true, Bool.false_eq_true, beq_self_eq_true, BEq.rfl, zCat1, zCat2, zCat3, zKdI, zKdL, zKdR, true_and, and_true, zSI, zSL, zSR, zu_at, and_self, and_false, false_and, lv_args, zKdZ, zKdO, zB01, zB11, Option.toList_none, Option.toList_some, List.nil_append, List.cons_append, true_or, or_true, zRow_rd, zu_rd, zo_if_eq, zo_aload_n, zo_getfield, zo_baload, zKd_7_0, zKd_7_4, sh_1, rf_1_0, sh_2, zKn_s, zKn_0, zFind, zb1_t, zN10, zN01, not_true_eq_false, not_false_eq_true, false_implies, true_implies, implies_true, eq_self, nI_1, nI_40, nI_7, vz0, vz1, zb1_e0, zb1_n0]
        refine z_cV0 (M' := mX7_readNumber) (R' := rX7_readNumber) (i := 1) [] [] eX7_readNumber k7_71 (by decide +kernel : decode cX7_advance 122 = .ok (.invokevirtual 71, 3)) (Nat.le_of_ble_eq_true rfl) ⟨Nat.le_of_ble_eq_true rfl, Nat.le_of_ble_eq_true rfl, Nat.le_of_ble_eq_true rfl, Nat.le_of_ble_eq_true rfl, Nat.le_of_ble_eq_true rfl⟩ rfl rfl rfl sh_1 ?_
        refine cl_readNumber (T := T) n sp 0 I1 j13 j14 j17 (by omega) he jt (fun I2 k2 g4 g7 g6 => ?_)
        refine zBlkR (M := mX7_advance) (nL := 1) (rt := (Option.none : Option Jvm.ClassFile.FieldType)) (blk := bX7_advance_125) (T := [(141, bX7_advance_141)]) 1 hX7_advance_125 (zChks_cons hX7_advance_141 zChks_nil) rfl rfl rfl (Nat.le_of_ble_eq_true rfl) (Nat.le_of_ble_eq_true rfl) ?_
        simp (implicitDefEqProofs := false) only [bX7_advance_125, bX7_advance_141, zRun_cons, zRun_nil, zLk, zSto, zIns, zFil, zf0, zf1, zf2, zf3, List.filter_cons, List.filter_nil, Nat.reduceAdd, Nat.reduceEqDiff, Nat.reduceLT, Nat.reduceLeDiff, Nat.reduceBEq, Nat.reduceBNe, reduceIte, if_true, if_false, Bool.false_and, Bool.true_and, Bool.and_true, Bool.and_false, Bool.not_false, Bool.not_true, Bool.false_eq_true, beq_self_eq_true, BEq.rfl, zCat1, zCat2, zCat3, zKdI, zKdL, zKdR, true_and, and_true, zSI, zSL, zSR, zu_at, and_self, and_false, false_and, lv_args, zKdZ, zKdO, zB01, zB11, Option.toList_none, Option.toList_some, List.nil_append, List.cons_append, true_or, or_true, zRow_rd, zu_rd, zo_goto, zo_return_, zKn_s, zKn_0, zFind, zN10, zN01, not_true_eq_false, not_false_eq_true, false_implies, true_implies, implies_true, eq_self, nI_1, nI_40, nI_7, vz0, vz1, zb1_e0, zb1_n0]
        exact hQ I2 (kA.trans (STk_j k2)) (by rw [k2 1 5 (by unfold STk; omega)]; exact j15) g4 g6 g7
      | false =>
        rw [if_neg (by rw [hd]; decide)] at hQ
        refine zBlkR (M := mX7_advance) (nL := 1) (rt := (Option.none : Option Jvm.ClassFile.FieldType)) (blk := bX7_advance_118) (T := [(128, bX7_advance_128)]) 1 hX7_advance_118 (zChks_cons hX7_advance_128 zChks_nil) rfl rfl rfl (Nat.le_of_ble_eq_true rfl) (Nat.le_of_ble_eq_true rfl) ?_
        simp (implicitDefEqProofs := false) only [bX7_advance_118, bX7_advance_128, zRun_cons, zRun_nil, zLk, zSto, zIns, zFil, zf0, zf1, zf2, zf3, List.filter_cons, List.filter_nil, Nat.reduceAdd, Nat.reduceEqDiff, Nat.reduceLT, Nat.reduceLeDiff, Nat.reduceBEq, Nat.reduceBNe, reduceIte, if_true, if_false, Bool.false_and, Bool.true_and, Bool.and_true, Bool.and_false, Bool.not_false, Bool.not_true, Bool.false_eq_true, beq_self_eq_true, BEq.rfl, zCat1, zCat2, zCat3, zKdI, zKdL, zKdR, true_and, and_true, zSI, zSL, zSR, zu_at, and_self, and_false, false_and, lv_args, zKdZ, zKdO, zB01, zB11, Option.toList_none, Option.toList_some, List.nil_append, List.cons_append, true_or, or_true, zRow_rd, zu_rd, zo_if_eq, zo_aload_n, zo_getfield, zo_baload, zKd_7_0, zKd_7_4, sh_1, rf_1_0, sh_2, zKn_s, zKn_0, zFind, zb1_f, j14, hv, t1', nI_clamp (n := sp) (by omega), zN10, zN01, not_true_eq_false, not_false_eq_true, false_implies, true_implies, implies_true, eq_self, nI_1, nI_40, nI_7, vz0, vz1, zb1_e0, zb1_n0]
        refine z_cV0 (M' := mX7_readMark) (R' := rX7_readMark) (i := 1) [.int (oSb (T sp))] [] eX7_readMark k7_74 (by decide +kernel : decode cX7_advance 138 = .ok (.invokevirtual 74, 3)) (Nat.le_of_ble_eq_true rfl) ⟨Nat.le_of_ble_eq_true rfl, Nat.le_of_ble_eq_true rfl, Nat.le_of_ble_eq_true rfl, Nat.le_of_ble_eq_true rfl, Nat.le_of_ble_eq_true rfl⟩ rfl rfl rfl sh_1 ?_
        refine cl_readMark (T := T) j13 j14 (by omega) he jt (fun I2 k2 g7 g5 g4 g6 => ?_)
        refine zBlkR (M := mX7_advance) (nL := 1) (rt := (Option.none : Option Jvm.ClassFile.FieldType)) (blk := bX7_advance_141) (T := []) 0 hX7_advance_141 zChks_nil rfl rfl rfl (Nat.le_of_ble_eq_true rfl) (Nat.le_of_ble_eq_true rfl) ?_
        simp (implicitDefEqProofs := false) only [bX7_advance_141, zRun_cons, zRun_nil, zLk, zSto, zIns, zFil, zf0, zf1, zf2, zf3, List.filter_cons, List.filter_nil, Nat.reduceAdd, Nat.reduceEqDiff, Nat.reduceLT, Nat.reduceLeDiff, Nat.reduceBEq, Nat.reduceBNe, reduceIte, if_true, if_false, Bool.false_and, Bool.true_and, Bool.and_true, Bool.and_false, Bool.not_false, Bool.not_true, Bool.false_eq_true, beq_self_eq_true, BEq.rfl, zCat1, zCat2, zCat3, zKdI, zKdL, zKdR, true_and, and_true, zSI, zSL, zSR, zu_at, and_self, and_false, false_and, lv_args, zKdZ, zKdO, zB01, zB11, Option.toList_none, Option.toList_some, List.nil_append, List.cons_append, true_or, or_true, zRow_rd, zu_rd, zo_return_, zKn_0, zN10, zN01, not_true_eq_false, not_false_eq_true, false_implies, true_implies, implies_true, eq_self, nI_1, nI_40, nI_7, vz0, vz1, zb1_e0, zb1_n0]
        exact hQ I2 (kA.trans (STk_j k2)) (by rw [g5]; exact j15) g4 g6 (by rw [g7]; exact j17)
set_option maxRecDepth 20000 in
theorem cl_tkAdvance : ∀ (n i : Nat) (I : Nat → Nat → Int32), I 3 = W → I 1 3 = nI (i + n) → I 1 4 = nI i → i + n ≤ 700 → (∀ k, k < i + n → I 2 k = oSb (T k) ∧ T k < 256) → (∀ I', zKpt STj I I' → I' 1 5 = nI (oTc W T (i + n) i).1 → I' 1 4 = nI (oTc W T (i + n) i).2.1 → I' 1 6 = nI (oTc W T (i + n) i).2.2.1 → I' 1 7 = (oTc W T (i + n) i).2.2.2 → Q none (SH, I', L, RF p s r)) → zXM w mX7_advance rX7_advance [.ref 1] (SH, I, L, RF p s r) Q := by
  intro n
  induction n with
  | zero =>
    intro i I h3 he3 h4 he ht hQ
    unfold zXM
    have hx : (nI i ≤ nI i) = True := eq_true (by rw [zle_nat (by omega) (by omega)]; omega)
    have he3' : I 1 3 = nI i := he3
    rw [oTc_d, Nat.add_sub_cancel_left] at hQ
    have key := cl_tk52 (w := w) (Q := Q) (L := L) (p := p) (s := s) (r := r) (T := T) h3 he3 h4 (by omega) he ht hQ
    refine zBlkR (M := mX7_advance) (nL := 1) (rt := (Option.none : Option Jvm.ClassFile.FieldType)) (blk := bX7_advance_0) (T := [(39, bX7_advance_39)]) 1 hX7_advance_0 (zChks_cons hX7_advance_39 zChks_nil) rfl rfl rfl (Nat.le_of_ble_eq_true rfl) (Nat.le_of_ble_eq_true rfl) ?_
    simp (implicitDefEqProofs := false) only [bX7_advance_0, bX7_advance_39, zRun_cons, zRun_nil, zLk, zSto, zIns, zFil, zf0, zf1, zf2, zf3, List.filter_cons, List.filter_nil, Nat.reduceAdd, Nat.reduceEqDiff, Nat.reduceLT, Nat.reduceLeDiff, Nat.reduceBEq, Nat.reduceBNe, reduceIte, if_true, if_false, Bool.false_and, Bool.true_and, Bool.and_true, Bool.and_false, Bool.not_false, Bool.not_true, Bool.false_eq_true, beq_self_eq_true, BEq.rfl, zCat1, zCat2, zCat3, zKdI, zKdL, zKdR, true_and, and_true, zSI, zSL, zSR, zu_at, and_self, and_false, false_and, lv_args, zKdZ, zKdO, zB01, zB11, Option.toList_none, Option.toList_some, List.nil_append, List.cons_append, true_or, or_true, zRow_rd, zu_rd, zo_aload_n, zo_getfield, zo_icmp_ge, zo_baload, zo_bipush, zo_icmp_eq, zo_icmp_ne, zo_dup, zo_iconst, zo_iadd, zo_putfield, zo_putfield_2, zo_putfield_3, zo_goto, zb_32, zb_10, zi_1, zKd_7_4, zKd_7_3, zKd_7_0, zTy_7_4, sh_1, rf_1_0, sh_2, zcl_32, zcl_10, zcl_1, zvi_32_700, zvi_10_700, zvi_1_700, zPutC, zKn_s, zKn_0, zFind, he3', h4, hx, zN10, zN01, not_true_eq_false, not_false_eq_true, false_implies, true_implies, implies_true, eq_self, nI_1, nI_40, nI_7, vz0, vz1, zb1_e0, zb1_n0]
    exact key
  | succ n ih =>
    intro i I h3 he3 h4 he ht hQ
    unfold zXM
    have hx : (nI (i + (n + 1)) ≤ nI i) = False := eq_false (by rw [zle_nat (by omega) (by omega)]; omega)
    have hv : vp_in (nI i) 700 := zvn (by omega) (by omega)
    obtain ⟨t1, t2⟩ := ht i (by omega)
    have hsp := sb_spc (T i) t2
    rw [oTc_d, Nat.add_sub_cancel_left] at hQ
    unfold oSk at hQ
    cases hb : oSpc (T i) with
    | true =>
      rw [if_pos hb] at hQ
      have go : zX w mX7_advance rX7_advance Q 0 0 0 [(0, Value.ref 1)] [] (SH, zu I 1 4 (nI (i + 1)), L, RF p s r) := by
        have := ih (i + 1) (zu I 1 4 (nI (i + 1))) (by rw [← h3]; funext k; rw [zu_at, if_neg (by omega)]) (by simp [zu_at]; rw [he3]; congr 1; omega) (by simp [zu_at]) (by omega) (fun k hk => by rw [zu_at, if_neg (by omega)]; exact ht k (by omega)) (fun I' k' => by
          rw [oTc_d, show i + 1 + n - (i + 1) = n by omega, show i + 1 + n = i + (n + 1) by omega]
          exact hQ I' ((zKpt_rfl.u (by unfold STj; omega)).trans k'))
        unfold zXM at this
        exact this
      refine zBlkR (M := mX7_advance) (nL := 1) (rt := (Option.none : Option Jvm.ClassFile.FieldType)) (blk := bX7_advance_0) (T := [(39, bX7_advance_39)]) 1 hX7_advance_0 (zChks_cons hX7_advance_39 zChks_nil) rfl rfl rfl (Nat.le_of_ble_eq_true rfl) (Nat.le_of_ble_eq_true rfl) ?_
      simp (implicitDefEqProofs := false) only [bX7_advance_0, bX7_advance_39, zRun_cons, zRun_nil, zLk, zSto, zIns, zFil, zf0, zf1, zf2, zf3, List.filter_cons, List.filter_nil, Nat.reduceAdd, Nat.reduceEqDiff, Nat.reduceLT, Nat.reduceLeDiff, Nat.reduceBEq, Nat.reduceBNe, reduceIte, if_true, if_false, Bool.false_and, Bool.true_and, Bool.and_true, Bool.and_false, Bool.not_false, Bool.not_true, Bool.false_eq_true, beq_self_eq_true, BEq.rfl, zCat1, zCat2, zCat3, zKdI, zKdL, zKdR, true_and, and_true, zSI, zSL, zSR, zu_at, and_self, and_false, false_and, lv_args, zKdZ, zKdO, zB01, zB11, Option.toList_none, Option.toList_some, List.nil_append, List.cons_append, true_or, or_true, zRow_rd, zu_rd, zo_aload_n, zo_getfield, zo_icmp_ge, zo_baload, zo_bipush, zo_icmp_eq, zo_icmp_ne, zo_dup, zo_iconst, zo_iadd, zo_putfield, zo_putfield_2, zo_putfield_3, zo_goto, zb_32, zb_10, zi_1, zKd_7_4, zKd_7_3, zKd_7_0, zTy_7_4, sh_1, rf_1_0, sh_2, zcl_32, zcl_10, zcl_1, zvi_32_700, zvi_10_700, zvi_1_700, zPutC, zKn_s, zKn_0, zFind, he3, h4, hx, hv, t1, nI_1, nI_clamp (n := i) (by omega), zN10, zN01, not_true_eq_false, not_false_eq_true, false_implies, true_implies, implies_true, eq_self, nI_1, nI_40, nI_7, vz0, vz1, zb1_e0, zb1_n0]
      rcases hsp.mpr hb with g | g
      · simp [g]; exact go
      · simp [g]; exact go
    | false =>
      rw [if_neg (by rw [hb]; decide)] at hQ
      have n32 : (oSb (T i) = 32) = False := eq_false (fun g => by rw [hsp.mp (Or.inl g)] at hb; cases hb)
      have n10 : (oSb (T i) = 10) = False := eq_false (fun g => by rw [hsp.mp (Or.inr g)] at hb; cases hb)
      have key := cl_tk52 (w := w) (Q := Q) (L := L) (p := p) (s := s) (r := r) (T := T) h3 he3 h4 (by omega) he ht hQ
      refine zBlkR (M := mX7_advance) (nL := 1) (rt := (Option.none : Option Jvm.ClassFile.FieldType)) (blk := bX7_advance_0) (T := [(39, bX7_advance_39)]) 1 hX7_advance_0 (zChks_cons hX7_advance_39 zChks_nil) rfl rfl rfl (Nat.le_of_ble_eq_true rfl) (Nat.le_of_ble_eq_true rfl) ?_
      simp (implicitDefEqProofs := false) only [bX7_advance_0, bX7_advance_39, zRun_cons, zRun_nil, zLk, zSto, zIns, zFil, zf0, zf1, zf2, zf3, List.filter_cons, List.filter_nil, Nat.reduceAdd, Nat.reduceEqDiff, Nat.reduceLT, Nat.reduceLeDiff, Nat.reduceBEq, Nat.reduceBNe, reduceIte, if_true, if_false, Bool.false_and, Bool.true_and, Bool.and_true, Bool.and_false, Bool.not_false, Bool.not_true, Bool.false_eq_true, beq_self_eq_true, BEq.rfl, zCat1, zCat2, zCat3, zKdI, zKdL, zKdR, true_and, and_true, zSI, zSL, zSR, zu_at, and_self, and_false, false_and, lv_args, zKdZ, zKdO, zB01, zB11, Option.toList_none, Option.toList_some, List.nil_append, List.cons_append, true_or, or_true, zRow_rd, zu_rd, zo_aload_n, zo_getfield, zo_icmp_ge, zo_baload, zo_bipush, zo_icmp_eq, zo_icmp_ne, zo_dup, zo_iconst, zo_iadd, zo_putfield, zo_putfield_2, zo_putfield_3, zo_goto, zb_32, zb_10, zi_1, zKd_7_4, zKd_7_3, zKd_7_0, zTy_7_4, sh_1, rf_1_0, sh_2, zcl_32, zcl_10, zcl_1, zvi_32_700, zvi_10_700, zvi_1_700, zPutC, zKn_s, zKn_0, zFind, he3, h4, hx, hv, t1, n32, n10, nI_clamp (n := i) (by omega), zN10, zN01, not_true_eq_false, not_false_eq_true, false_implies, true_implies, implies_true, eq_self, nI_1, nI_40, nI_7, vz0, vz1, zb1_e0, zb1_n0]
      exact key
end ZN98k
