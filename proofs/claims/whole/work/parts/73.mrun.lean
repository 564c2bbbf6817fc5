/-! ===== THE REFERENCE: runs tried ===== -/
/-- the reference's front -/
def zrFr (I : Nat → Nat → Int32) (L : Nat → Nat → Int64) (V : Nat → Nat → Int32) (d : Int64) (t kc : Nat) (rt : oRt) : Prop := vR 0 I = V ∧ I 87 55 = nI t ∧ I 87 56 = nI kc ∧ I 87 64 = nI rt.1 ∧ I 87 65 = nI rt.2.1 ∧ (∀ k, k < rt.1 → I 121 k = nI (rt.2.2 k)) ∧ L 120 0 = d
/-- the reference's plan and front -/
def zRl (I : Nat → Nat → Int32) (L : Nat → Nat → Int64) (P : oPn) (V : Nat → Nat → Int32) (d : Int64) (t kc : Nat) (rt : oRt) : Prop := POk P ∧ POk2 P ∧ zRefP I P ∧ (I 87 16 = nI (pNg P) ∧ I 87 17 = nI (pNk P)) ∧ zrFr I L V d t kc rt ∧ FrOk P V t kc rt
def SRt (i k : Nat) : Prop := (i = 87 ∧ (k = 2 ∨ k = 54 ∨ (67 ≤ k ∧ k ≤ 76))) ∨ i = 122 ∨ i = 128 ∨ (114 ≤ i ∧ i ≤ 118 ∧ 40 ≤ k) ∨ (i = 119 ∧ 7 ≤ k)
def SRtL (i k : Nat) : Prop := i = 112 ∨ i = 113 ∨ (i = 120 ∧ k = 1)
section ZM73
variable {w : zP} {Q : Option Value → zMem → Prop} {μ : zMem} {I J V V' : Nat → Nat → Int32} {L : Nat → Nat → Int64} {p s B T t kc : Nat} {r : Option Nat} {P : oPn} {m : oTm} {c i k q wh ch n : Nat} {x till br : Int32} {S : oS} {rt rr : oRt} {d : Int64}
theorem zFR1_SRt (h : zKpt (zFR 1) I J) : zKpt SRt I J := h.mono (fun i k g => by unfold zFR at g; unfold SRt; omega)
theorem zFRL1_SRt {K : Nat → Nat → Int64} (h : zKpt (zFRL 1) L K) : zKpt SRtL L K := h
theorem SRt_row (h : zKpt SRt I J) (hi : (i < 114 ∧ i ≠ 87) ∨ i = 121 ∨ (122 < i ∧ i ≠ 128)) : J i = I i := funext fun k => h i k (by unfold SRt; omega)
theorem SRt_87 (h : zKpt SRt I J) (hk : k ≠ 2 ∧ k ≠ 54 ∧ ¬ (67 ≤ k ∧ k ≤ 76)) : J 87 k = I 87 k := h 87 k (by unfold SRt; omega)
theorem vR0_t (h : zKpt SRt I J) : vR 0 J = vR 0 I := by
  funext a d
  by_cases h8 : a = 8
  · subst h8
    by_cases hd : d < 7
    · rw [vR_8 hd, vR_8 hd, h]
      unfold SRt; omega
    · simp [vR, zV, hd]
  · by_cases hd : (1 ≤ a ∧ a ≤ 5) ∧ d < 40
    · rw [vR_at hd.1 hd.2, vR_at hd.1 hd.2, h]
      unfold SRt; omega
    · simp only [vR, zV, h8, hd, if_false]
theorem zRefP_t (h : zKpt SRt I J) (hP : zRefP I P) : zRefP J P := by
  obtain ⟨h1, h2, h3, h4, h5⟩ := hP
  exact ⟨fun i a c => by rw [SRt_row h (by omega)]; exact h1 i a c, by rw [SRt_87 h (by omega), h2], by rw [SRt_87 h (by omega), h3], by rw [SRt_87 h (by omega), h4], by rw [SRt_87 h (by omega), h5]⟩
theorem zrFr_t {K : Nat → Nat → Int64} (h : zKpt SRt I J) (h2 : zKpt SRtL L K) (hF : zrFr I L V d t kc rt) : zrFr J K V d t kc rt := by
  obtain ⟨a1, a2, a3, a4, a5, a6, a7⟩ := hF
  refine ⟨by rw [vR0_t h, a1], by rw [SRt_87 h (by omega), a2], by rw [SRt_87 h (by omega), a3], by rw [SRt_87 h (by omega), a4], by rw [SRt_87 h (by omega), a5], fun k hk => by rw [SRt_row h (by omega), a6 k hk], ?_⟩
  rw [h2 120 0 (by unfold SRtL; omega), a7]
theorem zRl_t {K : Nat → Nat → Int64} (h : zKpt SRt I J) (h2 : zKpt SRtL L K) (hF : zRl I L P V d t kc rt) : zRl J K P V d t kc rt := by
  obtain ⟨a1, a2, a3, a4, a5, a6⟩ := hF
  exact ⟨a1, a2, zRefP_t h a3, ⟨by rw [SRt_87 h (by omega), a4.1], by rw [SRt_87 h (by omega), a4.2]⟩, zrFr_t h h2 a5, a6⟩
set_option maxRecDepth 20000 in
theorem mo_isPlace (h12 : I 87 12 = nI n) (hQ : Q (some (.int (zb1 (oIn x n)))) (SH, I, L, RF p s r)) : zXM w mX10_isPlace rX10_isPlace [.ref 87, .int x] (SH, I, L, RF p s r) Q := by
  unfold zXM
  refine zBlkR (M := mX10_isPlace) (nL := 2) (rt := (Option.some .boolean)) (blk := bX10_isPlace_0) (T := [(16, bX10_isPlace_16), (17, bX10_isPlace_17)]) 1 hX10_isPlace_0 (zChks_cons hX10_isPlace_16 (zChks_cons hX10_isPlace_17 zChks_nil)) rfl rfl rfl (Nat.le_of_ble_eq_true rfl) (Nat.le_of_ble_eq_true rfl) ?_
  simp only [bX10_isPlace_0, bX10_isPlace_16, bX10_isPlace_17, zRun_cons, zRun_nil, zLk, zSto, zIns, zFil, zf0, zf1, zf2, zf3, List.filter_cons, List.filter_nil, Nat.reduceAdd, Nat.reduceEqDiff, Nat.reduceLT, Nat.reduceLeDiff, Nat.reduceBEq, Nat.reduceBNe, reduceIte, if_true, if_false, Bool.false_and, Bool.true_and, Bool.and_true, Bool.and_false, Bool.not_false, Bool.not_true, Bool.false_eq_true, beq_self_eq_true, BEq.rfl, zCat1, zCat2, zCat3, zKdI, zKdL, zKdR, true_and, and_true, zSI, zSL, zSR, zu_at, and_self, and_false, false_and, lv_args, zKdZ, zKdO, zB01, zB11, Option.toList_none, Option.toList_some, List.nil_append, List.cons_append, true_or, or_true, zRow_rd, zu_rd, zo_iload_n, zo_if_lt, zo_aload_n, zo_getfield, zo_icmp_ge, zo_iconst, zo_goto, zo_ireturn, zi_1, zi_0, zKd_10_12, sh_87, zcl_1, zcl_0, zRt, zKn_s, zKn_0, zFind, h12, zN10, zN01, not_true_eq_false, not_false_eq_true, false_implies, true_implies, implies_true, eq_self, nI_1, nI_40, nI_7, vz0, vz1, zb1_e0, zb1_n0]
  unfold oIn at hQ
  by_cases h1 : x < 0 <;> by_cases h2 : nI n ≤ x <;> simp [zb1, h1, h2] at hQ ⊢ <;> exact hQ
theorem oIn_isIn {a : Nat} (ha : a + 1 < 2 ^ 31) : (!decide (x < 0) && !decide (nI a < x)) = oIn x (a + 1) := by
  unfold oIn
  rw [decide_eq_decide.mpr (iff_of_eq (nI_ltS ha))]
set_option maxRecDepth 20000 in
theorem mo_isRun (ht : I 87 55 = nI t) (h9 : t ≤ 96) (hQ : Q (some (.int (zb1 (pRun t x)))) (SH, I, L, RF p s r)) : zXM w mX10_isRun rX10_isRun [.ref 87, .int x] (SH, I, L, RF p s r) Q := by
  unfold zXM
  refine zBlkR (M := mX10_isRun) (nL := 2) (rt := (Option.some .boolean)) (blk := bX10_isRun_0) (T := []) 0 hX10_isRun_0 zChks_nil rfl rfl rfl (Nat.le_of_ble_eq_true rfl) (Nat.le_of_ble_eq_true rfl) ?_
  simp only [bX10_isRun_0, zRun_cons, zRun_nil, zLk, zSto, zIns, zFil, zf0, zf1, zf2, zf3, List.filter_cons, List.filter_nil, Nat.reduceAdd, Nat.reduceEqDiff, Nat.reduceLT, Nat.reduceLeDiff, Nat.reduceBEq, Nat.reduceBNe, reduceIte, if_true, if_false, Bool.false_and, Bool.true_and, Bool.and_true, Bool.and_false, Bool.not_false, Bool.not_true, Bool.false_eq_true, beq_self_eq_true, BEq.rfl, zCat1, zCat2, zCat3, zKdI, zKdL, zKdR, true_and, and_true, zSI, zSL, zSR, zu_at, and_self, and_false, false_and, lv_args, zKdZ, zKdO, zB01, zB11, Option.toList_none, Option.toList_some, List.nil_append, List.cons_append, true_or, or_true, zRow_rd, zu_rd, zo_iload_n, zo_iconst, zo_bipush, zi_0, zb_96, zcl_0, zcl_96, zKn_0, zN10, zN01, not_true_eq_false, not_false_eq_true, false_implies, true_implies, implies_true, eq_self, nI_1, nI_40, nI_7, vz0, vz1, zb1_e0, zb1_n0]
  refine z_cS0 (M' := mX10_isIn) (R' := rX10_isIn) [.int x, .int 0, .int 96] [] eX10_isIn k10_223 (by decide +kernel : decode cX10_isRun 4 = .ok (.invokestatic 223, 3)) (Nat.le_of_ble_eq_true rfl) ⟨Nat.le_of_ble_eq_true rfl, Nat.le_of_ble_eq_true rfl, Nat.le_of_ble_eq_true rfl, Nat.le_of_ble_eq_true rfl, Nat.le_of_ble_eq_true rfl⟩ rfl rfl rfl ?_
  refine mo_isIn ?_
  rw [show (96 : Int32) = nI 96 from rfl, oIn_isIn (by omega)]
  cases hx : oIn x (96 + 1) with
  | false =>
    have hp : pRun t x = false := by
      cases hp : pRun t x with
      | false => rfl
      | true =>
        obtain ⟨n, e, hn⟩ := pRun_t hp h9
        rw [e, oIn_q (by omega) (by omega)] at hx
        cases hx
    rw [hp] at hQ
    refine zBlkR (M := mX10_isRun) (nL := 2) (rt := (Option.some .boolean)) (blk := bX10_isRun_7) (T := [(25, bX10_isRun_25), (26, bX10_isRun_26)]) 1 hX10_isRun_7 (zChks_cons hX10_isRun_25 (zChks_cons hX10_isRun_26 zChks_nil)) rfl rfl rfl (Nat.le_of_ble_eq_true rfl) (Nat.le_of_ble_eq_true rfl) ?_
    simp only [bX10_isRun_7, bX10_isRun_25, bX10_isRun_26, zRun_cons, zRun_nil, zLk, zSto, zIns, zFil, zf0, zf1, zf2, zf3, List.filter_cons, List.filter_nil, Nat.reduceAdd, Nat.reduceEqDiff, Nat.reduceLT, Nat.reduceLeDiff, Nat.reduceBEq, Nat.reduceBNe, reduceIte, if_true, if_false, Bool.false_and, Bool.true_and, Bool.and_true, Bool.and_false, Bool.not_false, Bool.not_true, Bool.false_eq_true, beq_self_eq_true, BEq.rfl, zCat1, zCat2, zCat3, zKdI, zKdL, zKdR, true_and, and_true, zSI, zSL, zSR, zu_at, and_self, and_false, false_and, lv_args, zKdZ, zKdO, zB01, zB11, Option.toList_none, Option.toList_some, List.nil_append, List.cons_append, true_or, or_true, zRow_rd, zu_rd, zo_if_eq, zo_aload_n, zo_getfield, zo_iload_n, zo_iadd, zo_bipush, zo_icmp_gt, zo_iconst, zo_goto, zo_ireturn, zb_96, zi_1, zi_0, zKd_10_55, sh_87, zcl_96, zcl_1, zcl_0, zRt, zKn_s, zKn_0, zFind, zb1_f, zN10, zN01, not_true_eq_false, not_false_eq_true, false_implies, true_implies, implies_true, eq_self, nI_1, nI_40, nI_7, vz0, vz1, zb1_e0, zb1_n0]
    exact hQ
  | true =>
    obtain ⟨n, hn, e⟩ := oIn_t hx (by omega)
    subst e
    refine zBlkR (M := mX10_isRun) (nL := 2) (rt := (Option.some .boolean)) (blk := bX10_isRun_7) (T := [(25, bX10_isRun_25), (26, bX10_isRun_26)]) 1 hX10_isRun_7 (zChks_cons hX10_isRun_25 (zChks_cons hX10_isRun_26 zChks_nil)) rfl rfl rfl (Nat.le_of_ble_eq_true rfl) (Nat.le_of_ble_eq_true rfl) ?_
    simp only [bX10_isRun_7, bX10_isRun_25, bX10_isRun_26, zRun_cons, zRun_nil, zLk, zSto, zIns, zFil, zf0, zf1, zf2, zf3, List.filter_cons, List.filter_nil, Nat.reduceAdd, Nat.reduceEqDiff, Nat.reduceLT, Nat.reduceLeDiff, Nat.reduceBEq, Nat.reduceBNe, reduceIte, if_true, if_false, Bool.false_and, Bool.true_and, Bool.and_true, Bool.and_false, Bool.not_false, Bool.not_true, Bool.false_eq_true, beq_self_eq_true, BEq.rfl, zCat1, zCat2, zCat3, zKdI, zKdL, zKdR, true_and, and_true, zSI, zSL, zSR, zu_at, and_self, and_false, false_and, lv_args, zKdZ, zKdO, zB01, zB11, Option.toList_none, Option.toList_some, List.nil_append, List.cons_append, true_or, or_true, zRow_rd, zu_rd, zo_if_eq, zo_aload_n, zo_getfield, zo_iload_n, zo_iadd, zo_bipush, zo_icmp_gt, zo_iconst, zo_goto, zo_ireturn, zb_96, zi_1, zi_0, zKd_10_55, sh_87, zcl_96, zcl_1, zcl_0, zRt, zKn_s, zKn_0, zFind, zb1_t, ht, nI_add, show ((96 : Int32) < nI (t + n)) = (96 < t + n) from zlt_nat (a := 96) (by omega) (by omega), zN10, zN01, not_true_eq_false, not_false_eq_true, false_implies, true_implies, implies_true, eq_self, nI_1, nI_40, nI_7, vz0, vz1, zb1_e0, zb1_n0]
    have hp : pRun t (nI n) = !decide (96 < t + n) := by
      have h0 : ¬ nI n < 0 := nI_nn (by omega)
      by_cases h : 96 < t + n
      · have h1 : nI (97 - t) ≤ nI n := by rw [zle_nat (by omega) (by omega)]; omega
        simp [pRun, oIn, h, h1]
      · have h1 : ¬ nI (97 - t) ≤ nI n := by rw [zle_nat (by omega) (by omega)]; omega
        simp [pRun, oIn, h, h1, h0]
    rw [hp] at hQ
    by_cases h2 : 96 < t + n <;> simp [zb1, h2] at hQ ⊢ <;> exact hQ
set_option maxRecDepth 20000 in
theorem mo_plainRun (hR : zRl I L P V d t kc rt) (hQ : ∀ I', zKpt SRt I I' → zRefM I' (mTold P) rt → Q none (SH, I', L, RF p s r)) : zXM w mX10_plainRun rX10_plainRun [.ref 87] (SH, I, L, RF p s r) Q := by
  unfold zXM
  obtain ⟨hO, hO2, hP, h1617, hF, hOk⟩ := hR
  have e5 : I 102 5 = pR P 102 5 := by rw [hP.1 102 (by omega) (by omega)]
  have e64 := hF.2.2.2.1
  have e65 := hF.2.2.2.2.1
  have e121 := hF.2.2.2.2.2.1
  have r8 := hOk.2.1.1
  refine zBlkR (M := mX10_plainRun) (nL := 2) (rt := (Option.none : Option Jvm.ClassFile.FieldType)) (blk := bX10_plainRun_0) (T := []) 0 hX10_plainRun_0 zChks_nil rfl rfl rfl (Nat.le_of_ble_eq_true rfl) (Nat.le_of_ble_eq_true rfl) ?_
  simp only [bX10_plainRun_0, zRun_cons, zRun_nil, zLk, zSto, zIns, zFil, zf0, zf1, zf2, zf3, List.filter_cons, List.filter_nil, Nat.reduceAdd, Nat.reduceEqDiff, Nat.reduceLT, Nat.reduceLeDiff, Nat.reduceBEq, Nat.reduceBNe, reduceIte, if_true, if_false, Bool.false_and, Bool.true_and, Bool.and_true, Bool.and_false, Bool.not_false, Bool.not_true, Bool.false_eq_true, beq_self_eq_true, BEq.rfl, zCat1, zCat2, zCat3, zKdI, zKdL, zKdR, true_and, and_true, zSI, zSL, zSR, zu_at, and_self, and_false, false_and, lv_args, zKdZ, zKdO, zB01, zB11, Option.toList_none, Option.toList_some, List.nil_append, List.cons_append, true_or, or_true, zRow_rd, zu_rd, zo_aload_n, zo_getfield, zo_iconst, zo_iaload, zo_putfield, zo_putfield_2, zo_putfield_3, zo_istore_n, zi_5, zi_0, zi_m1, zKd_10_36, zKd_10_67, zTy_10_67, zKd_10_68, zTy_10_68, zKd_10_69, zTy_10_69, zKd_10_70, zTy_10_70, zKd_10_71, zTy_10_71, zKd_10_72, zTy_10_72, zKd_10_73, zTy_10_73, zKd_10_74, zTy_10_74, zKd_10_64, zKd_10_75, zTy_10_75, zKd_10_65, zKd_10_76, zTy_10_76, sh_87, rf_87_36, sh_102, zcl_5, zcl_0, zvi_5_32, zvi_0_32, zPutC, zKn_0, e5, e64, e65, zvi_5_32, zN10, zN01, not_true_eq_false, not_false_eq_true, false_implies, true_implies, implies_true, eq_self, nI_1, nI_40, nI_7, vz0, vz1, zb1_e0, zb1_n0]
  refine zLoop (n := 8) (P := fun k => ∀ J, zKpt SRt I J → (J 87 67 = pR P 102 5 ∧ J 87 68 = 0 ∧ J 87 69 = 0 ∧ J 87 70 = 0 ∧ J 87 71 = 0 ∧ J 87 72 = -1 ∧ J 87 73 = -1 ∧ J 87 74 = 0 ∧ J 87 75 = nI rt.1 ∧ J 87 76 = nI rt.2.1) → (∀ j, j < k → J 122 j = I 121 j) → zX w mX10_plainRun rX10_plainRun Q 0 0 63 [(0, Value.ref 87), (1, Value.int (nI k))] [] (SH, J, L, RF p s r)) (fun k hk ih => ?_) 0 (Nat.zero_le _) _ ?_ ?_ ?_
  · intro J hJ hf hrow
    have e121 : J 121 = I 121 := SRt_row hJ (by omega)
    by_cases hk8 : k = 8
    · subst hk8
      refine zBlkR (M := mX10_plainRun) (nL := 2) (rt := (Option.none : Option Jvm.ClassFile.FieldType)) (blk := bX10_plainRun_63) (T := [(87, bX10_plainRun_87)]) 1 hX10_plainRun_63 (zChks_cons hX10_plainRun_87 zChks_nil) rfl rfl rfl (Nat.le_of_ble_eq_true rfl) (Nat.le_of_ble_eq_true rfl) ?_
      simp only [bX10_plainRun_63, bX10_plainRun_87, zRun_cons, zRun_nil, zLk, zSto, zIns, zFil, zf0, zf1, zf2, zf3, List.filter_cons, List.filter_nil, Nat.reduceAdd, Nat.reduceEqDiff, Nat.reduceLT, Nat.reduceLeDiff, Nat.reduceBEq, Nat.reduceBNe, reduceIte, if_true, if_false, Bool.false_and, Bool.true_and, Bool.and_true, Bool.and_false, Bool.not_false, Bool.not_true, Bool.false_eq_true, beq_self_eq_true, BEq.rfl, zCat1, zCat2, zCat3, zKdI, zKdL, zKdR, true_and, and_true, zSI, zSL, zSR, zu_at, and_self, and_false, false_and, lv_args, zKdZ, zKdO, zB01, zB11, Option.toList_none, Option.toList_some, List.nil_append, List.cons_append, true_or, or_true, zRow_rd, zu_rd, zo_iload_n, zo_bipush, zo_icmp_ge, zo_aload_n, zo_getfield, zo_iaload, zo_iastore, zo_iinc, zo_goto, zo_return_, zb_8, zi_1, zKd_10_77, zKd_10_66, zcl_8, sh_87, rf_87_77, sh_122, rf_87_66, sh_121, zKn_s, zKn_0, zFind, show ((8 : Int32) ≤ nI 8) = True from eq_true (by decide), zN10, zN01, not_true_eq_false, not_false_eq_true, false_implies, true_implies, implies_true, eq_self, nI_1, nI_40, nI_7, vz0, vz1, zb1_e0, zb1_n0]
      refine hQ J hJ ⟨hf.1, hf.2.2.2.2.2.1, hf.2.2.2.2.2.2.1, hf.2.1, hf.2.2.1, hf.2.2.2.1, hf.2.2.2.2.1, hf.2.2.2.2.2.2.2.1, hf.2.2.2.2.2.2.2.2.1, hf.2.2.2.2.2.2.2.2.2, fun k hk => ?_⟩
      rw [hrow k (by omega)]
      exact hF.2.2.2.2.2.1 k hk
    · have hx : ((8 : Int32) ≤ nI k) = False := eq_false (by rw [show (8 : Int32) = nI 8 from rfl, zle_nat (by omega) (by omega)]; omega)
      have hv : vp_in (nI k) 8 := zvn (by omega) (by omega)
      refine zBlkR (M := mX10_plainRun) (nL := 2) (rt := (Option.none : Option Jvm.ClassFile.FieldType)) (blk := bX10_plainRun_63) (T := [(87, bX10_plainRun_87)]) 1 hX10_plainRun_63 (zChks_cons hX10_plainRun_87 zChks_nil) rfl rfl rfl (Nat.le_of_ble_eq_true rfl) (Nat.le_of_ble_eq_true rfl) ?_
      simp only [bX10_plainRun_63, bX10_plainRun_87, zRun_cons, zRun_nil, zLk, zSto, zIns, zFil, zf0, zf1, zf2, zf3, List.filter_cons, List.filter_nil, Nat.reduceAdd, Nat.reduceEqDiff, Nat.reduceLT, Nat.reduceLeDiff, Nat.reduceBEq, Nat.reduceBNe, reduceIte, if_true, if_false, Bool.false_and, Bool.true_and, Bool.and_true, Bool.and_false, Bool.not_false, Bool.not_true, Bool.false_eq_true, beq_self_eq_true, BEq.rfl, zCat1, zCat2, zCat3, zKdI, zKdL, zKdR, true_and, and_true, zSI, zSL, zSR, zu_at, and_self, and_false, false_and, lv_args, zKdZ, zKdO, zB01, zB11, Option.toList_none, Option.toList_some, List.nil_append, List.cons_append, true_or, or_true, zRow_rd, zu_rd, zo_iload_n, zo_bipush, zo_icmp_ge, zo_aload_n, zo_getfield, zo_iaload, zo_iastore, zo_iinc, zo_goto, zo_return_, zb_8, zi_1, zKd_10_77, zKd_10_66, zcl_8, sh_87, rf_87_77, sh_122, rf_87_66, sh_121, zKn_s, zKn_0, zFind, hx, hv, e121, nI_clamp (n := k) (by omega), zN10, zN01, not_true_eq_false, not_false_eq_true, false_implies, true_implies, implies_true, eq_self, nI_1, nI_40, nI_7, vz0, vz1, zb1_e0, zb1_n0]
      refine ih (by omega) _ (hJ.u (by unfold SRt; omega)) ?_ ?_
      · simp [zu_at]; exact hf
      · intro j hj
        rw [zu_at]
        by_cases e : j = k
        · subst e; simp
        · rw [if_neg (fun g => e g.2)]; exact hrow j (by omega)
  · repeat' first | exact zKpt_rfl | refine zKpt.u ?_ ?_
    all_goals (unfold SRt; omega)
  · simp [zu_at]
  · intro j hj; omega
theorem oOk_pa {wm : Int32} (h : oOk ch n wm V) (hc : c < 40) : V 5 c = 0 ∨ V 5 c = 1 := by
  rcases h c hc with g | g | g | g
  · exact Or.inl g.2.2.2.1
  · exact Or.inl g.2.2.2.2.1
  · exact g.2.2.2.1
  · exact Or.inl g.2.2.2.2
theorem vnb {x : Int32} (h : x = 0 ∨ x = 1) : vp_nar .boolean x = x := by rcases h with rfl | rfl <;> rfl
set_option maxRecDepth 20000 in
theorem mo_layRun (hV : vR 0 I = V) (hd : L 120 0 = d) (hpa : ∀ c, c < 40 → V 5 c = 0 ∨ V 5 c = 1) (hQ : ∀ I' L', zKpt (zFR 1) I I' → zKpt (zFRL 1) L L' → vR 1 I' = V → L' 120 1 = d → Q none (SH, I', L', RF p s r)) : zXM w mX10_layRun rX10_layRun [.ref 87] (SH, I, L, RF p s r) Q := by
  unfold zXM
  have lo : ∀ J, zKpt (zFR 1) I J → ∀ i c, 114 ≤ i → i ≤ 118 → c < 40 → J i c = I i c := fun J hJ i c h1 h2 h3 => hJ i c (by unfold zFR; omega)
  have lo8 : ∀ J, zKpt (zFR 1) I J → ∀ c, c < 7 → J 119 c = I 119 c := fun J hJ c h3 => hJ 119 c (by unfold zFR; omega)
  have hpa2 : ∀ c, c < 40 → I 118 c = 0 ∨ I 118 c = 1 := by
    intro c hc
    have := hpa c hc
    rw [← hV, vR_5 hc] at this
    simpa using this
  have second : ∀ J, zKpt (zFR 1) I J → (∀ i c, 114 ≤ i → i ≤ 118 → c < 40 → J i (40 + c) = I i c) → zX w mX10_layRun rX10_layRun Q 0 0 91 [(0, Value.ref 87), (1, Value.int (nI 0))] [] (SH, J, L, RF p s r) := by
    intro J0 hJ0 hr0
    refine zLoop (n := 7) (P := fun k => ∀ J, zKpt (zFR 1) I J → (∀ i c, 114 ≤ i → i ≤ 118 → c < 40 → J i (40 + c) = I i c) → (∀ c, c < k → J 119 (7 + c) = I 119 c) → zX w mX10_layRun rX10_layRun Q 0 0 91 [(0, Value.ref 87), (1, Value.int (nI k))] [] (SH, J, L, RF p s r)) (fun k hk ih => ?_) 0 (Nat.zero_le _) J0 hJ0 hr0 (fun c hc => absurd hc (by omega))
    intro J hJ hr h8
    by_cases hk7 : k = 7
    · subst hk7
      refine zBlkR (M := mX10_layRun) (nL := 2) (rt := (Option.none : Option Jvm.ClassFile.FieldType)) (blk := bX10_layRun_91) (T := [(118, bX10_layRun_118)]) 1 hX10_layRun_91 (zChks_cons hX10_layRun_118 zChks_nil) rfl rfl rfl (Nat.le_of_ble_eq_true rfl) (Nat.le_of_ble_eq_true rfl) ?_
      simp only [bX10_layRun_91, bX10_layRun_118, zRun_cons, zRun_nil, zLk, zSto, zIns, zFil, zf0, zf1, zf2, zf3, List.filter_cons, List.filter_nil, Nat.reduceAdd, Nat.reduceEqDiff, Nat.reduceLT, Nat.reduceLeDiff, Nat.reduceBEq, Nat.reduceBNe, reduceIte, if_true, if_false, Bool.false_and, Bool.true_and, Bool.and_true, Bool.and_false, Bool.not_false, Bool.not_true, Bool.false_eq_true, beq_self_eq_true, BEq.rfl, zCat1, zCat2, zCat3, zKdI, zKdL, zKdR, true_and, and_true, zSI, zSL, zSR, zu_at, and_self, and_false, false_and, lv_args, zKdZ, zKdO, zB01, zB11, Option.toList_none, Option.toList_some, List.nil_append, List.cons_append, true_or, or_true, zRow_rd, zu_rd, zo_iload_n, zo_bipush, zo_icmp_ge, zo_aload_n, zo_getfield, zo_iadd, zo_iaload, zo_iastore, zo_iinc, zo_goto, zo_iconst, zo_laload, zo_lastore, zo_return_, zb_7, zi_1, zi_0, zKd_10_62, zKd_10_63, zcl_7, sh_87, rf_87_62, sh_119, rf_87_63, sh_120, zcl_1, zcl_0, zvi_7_14, zvi_1_2, zvi_1_14, zvi_0_2, zvi_0_14, zKn_s, zKn_0, zFind, zvi_1_2, zvi_0_2, zCat2, show ((7 : Int32) ≤ nI 7) = True from eq_true (by decide), zN10, zN01, not_true_eq_false, not_false_eq_true, false_implies, true_implies, implies_true, eq_self, nI_1, nI_40, nI_7, vz0, vz1, zb1_e0, zb1_n0]
      refine hQ J _ hJ (zKpt_rfl.u (by unfold zFRL; omega)) ?_ (by simp [zu_at]; exact hd)
      rw [← hV]
      funext a c
      by_cases ha : a = 8
      · subst ha
        by_cases hc : c < 7
        · rw [vR_8 hc, vR_8 hc, Nat.mul_one, h8 c hc, Nat.mul_zero, Nat.zero_add]
        · simp [vR, zV, hc]
      · by_cases hc : (1 ≤ a ∧ a ≤ 5) ∧ c < 40
        · rw [vR_at hc.1 hc.2, vR_at hc.1 hc.2, Nat.mul_one, hr (113 + a) c (by omega) (by omega) hc.2, Nat.mul_zero, Nat.zero_add]
        · simp only [vR, zV, ha, hc, if_false]
    · have hx : ((7 : Int32) ≤ nI k) = False := eq_false (by rw [show (7 : Int32) = nI 7 from rfl, zle_nat (by omega) (by omega)]; omega)
      have hv : vp_in (nI k) 14 := zvn (by omega) (by omega)
      have hv2 : vp_in (nI (7 + k)) 14 := zvn (by omega) (by omega)
      have x1 : (7 : Int32) + nI k = nI (7 + k) := by rw [show (7 : Int32) = nI 7 from rfl, nI_add]
      have e1 := lo8 J hJ k (by omega)
      refine zBlkR (M := mX10_layRun) (nL := 2) (rt := (Option.none : Option Jvm.ClassFile.FieldType)) (blk := bX10_layRun_91) (T := [(118, bX10_layRun_118)]) 1 hX10_layRun_91 (zChks_cons hX10_layRun_118 zChks_nil) rfl rfl rfl (Nat.le_of_ble_eq_true rfl) (Nat.le_of_ble_eq_true rfl) ?_
      simp only [bX10_layRun_91, bX10_layRun_118, zRun_cons, zRun_nil, zLk, zSto, zIns, zFil, zf0, zf1, zf2, zf3, List.filter_cons, List.filter_nil, Nat.reduceAdd, Nat.reduceEqDiff, Nat.reduceLT, Nat.reduceLeDiff, Nat.reduceBEq, Nat.reduceBNe, reduceIte, if_true, if_false, Bool.false_and, Bool.true_and, Bool.and_true, Bool.and_false, Bool.not_false, Bool.not_true, Bool.false_eq_true, beq_self_eq_true, BEq.rfl, zCat1, zCat2, zCat3, zKdI, zKdL, zKdR, true_and, and_true, zSI, zSL, zSR, zu_at, and_self, and_false, false_and, lv_args, zKdZ, zKdO, zB01, zB11, Option.toList_none, Option.toList_some, List.nil_append, List.cons_append, true_or, or_true, zRow_rd, zu_rd, zo_iload_n, zo_bipush, zo_icmp_ge, zo_aload_n, zo_getfield, zo_iadd, zo_iaload, zo_iastore, zo_iinc, zo_goto, zo_iconst, zo_laload, zo_lastore, zo_return_, zb_7, zi_1, zi_0, zKd_10_62, zKd_10_63, zcl_7, sh_87, rf_87_62, sh_119, rf_87_63, sh_120, zcl_1, zcl_0, zvi_7_14, zvi_1_2, zvi_1_14, zvi_0_2, zvi_0_14, zKn_s, zKn_0, zFind, hx, hv, x1, hv2, e1, nI_clamp (n := k) (by omega), nI_clamp (n := 7 + k) (by omega), zN10, zN01, not_true_eq_false, not_false_eq_true, false_implies, true_implies, implies_true, eq_self, nI_1, nI_40, nI_7, vz0, vz1, zb1_e0, zb1_n0]
      refine ih (by omega) _ (hJ.u (by unfold zFR; omega)) ?_ ?_
      · intro i c h1 h2 h3
        rw [zu_at, if_neg (by omega)]; exact hr i c h1 h2 h3
      · intro c hc
        rw [zu_at]
        by_cases e : c = k
        · subst e; simp
        · rw [if_neg (by omega)]; exact h8 c (by omega)
  refine zBlkR (M := mX10_layRun) (nL := 2) (rt := (Option.none : Option Jvm.ClassFile.FieldType)) (blk := bX10_layRun_0) (T := []) 0 hX10_layRun_0 zChks_nil rfl rfl rfl (Nat.le_of_ble_eq_true rfl) (Nat.le_of_ble_eq_true rfl) ?_
  simp only [bX10_layRun_0, zRun_cons, zRun_nil, zLk, zSto, zIns, zFil, zf0, zf1, zf2, zf3, List.filter_cons, List.filter_nil, Nat.reduceAdd, Nat.reduceEqDiff, Nat.reduceLT, Nat.reduceLeDiff, Nat.reduceBEq, Nat.reduceBNe, reduceIte, if_true, if_false, Bool.false_and, Bool.true_and, Bool.and_true, Bool.and_false, Bool.not_false, Bool.not_true, Bool.false_eq_true, beq_self_eq_true, BEq.rfl, zCat1, zCat2, zCat3, zKdI, zKdL, zKdR, true_and, and_true, zSI, zSL, zSR, zu_at, and_self, and_false, false_and, lv_args, zKdZ, zKdO, zB01, zB11, Option.toList_none, Option.toList_some, List.nil_append, List.cons_append, true_or, or_true, zRow_rd, zu_rd, zo_iconst, zo_istore_n, zi_0, zcl_0, zKn_0, zN10, zN01, not_true_eq_false, not_false_eq_true, false_implies, true_implies, implies_true, eq_self, nI_1, nI_40, nI_7, vz0, vz1, zb1_e0, zb1_n0]
  refine zLoop (n := 40) (P := fun k => ∀ J, zKpt (zFR 1) I J → (∀ i c, 114 ≤ i → i ≤ 118 → c < k → J i (40 + c) = I i c) → zX w mX10_layRun rX10_layRun Q 0 0 2 [(0, Value.ref 87), (1, Value.int (nI k))] [] (SH, J, L, RF p s r)) (fun k hk ih => ?_) 0 (Nat.zero_le _) I zKpt_rfl (fun i c h1 h2 h3 => absurd h3 (by omega))
  intro J hJ hr
  by_cases hk4 : k = 40
  · subst hk4
    refine zBlkR (M := mX10_layRun) (nL := 2) (rt := (Option.none : Option Jvm.ClassFile.FieldType)) (blk := bX10_layRun_2) (T := [(89, bX10_layRun_89)]) 1 hX10_layRun_2 (zChks_cons hX10_layRun_89 zChks_nil) rfl rfl rfl (Nat.le_of_ble_eq_true rfl) (Nat.le_of_ble_eq_true rfl) ?_
    simp only [bX10_layRun_2, bX10_layRun_89, zRun_cons, zRun_nil, zLk, zSto, zIns, zFil, zf0, zf1, zf2, zf3, List.filter_cons, List.filter_nil, Nat.reduceAdd, Nat.reduceEqDiff, Nat.reduceLT, Nat.reduceLeDiff, Nat.reduceBEq, Nat.reduceBNe, reduceIte, if_true, if_false, Bool.false_and, Bool.true_and, Bool.and_true, Bool.and_false, Bool.not_false, Bool.not_true, Bool.false_eq_true, beq_self_eq_true, BEq.rfl, zCat1, zCat2, zCat3, zKdI, zKdL, zKdR, true_and, and_true, zSI, zSL, zSR, zu_at, and_self, and_false, false_and, lv_args, zKdZ, zKdO, zB01, zB11, Option.toList_none, Option.toList_some, List.nil_append, List.cons_append, true_or, or_true, zRow_rd, zu_rd, zo_iload_n, zo_bipush, zo_icmp_ge, zo_aload_n, zo_getfield, zo_iadd, zo_iaload, zo_iastore, zo_baload, zo_bastore, zo_iinc, zo_goto, zo_iconst, zo_istore_n, zb_40, zi_1, zi_0, zKd_10_57, zKd_10_58, zKd_10_59, zKd_10_60, zKd_10_61, zcl_40, sh_87, rf_87_57, sh_114, rf_87_58, sh_115, rf_87_59, sh_116, rf_87_60, sh_117, rf_87_61, sh_118, zcl_0, zvi_40_80, zvi_0_80, zKn_s, zKn_0, zFind, show ((40 : Int32) ≤ nI 40) = True from eq_true (by decide), zN10, zN01, not_true_eq_false, not_false_eq_true, false_implies, true_implies, implies_true, eq_self, nI_1, nI_40, nI_7, vz0, vz1, zb1_e0, zb1_n0]
    exact second J hJ hr
  · have hx : ((40 : Int32) ≤ nI k) = False := eq_false (by rw [show (40 : Int32) = nI 40 from rfl, zle_nat (by omega) (by omega)]; omega)
    have hv : vp_in (nI k) 80 := zvn (by omega) (by omega)
    have hv2 : vp_in (nI (40 + k)) 80 := zvn (by omega) (by omega)
    have x1 : (40 : Int32) + nI k = nI (40 + k) := by rw [show (40 : Int32) = nI 40 from rfl, nI_add]
    have l := lo J hJ
    have hb := vnb (hpa2 k (by omega))
    refine zBlkR (M := mX10_layRun) (nL := 2) (rt := (Option.none : Option Jvm.ClassFile.FieldType)) (blk := bX10_layRun_2) (T := [(89, bX10_layRun_89)]) 1 hX10_layRun_2 (zChks_cons hX10_layRun_89 zChks_nil) rfl rfl rfl (Nat.le_of_ble_eq_true rfl) (Nat.le_of_ble_eq_true rfl) ?_
    simp only [bX10_layRun_2, bX10_layRun_89, zRun_cons, zRun_nil, zLk, zSto, zIns, zFil, zf0, zf1, zf2, zf3, List.filter_cons, List.filter_nil, Nat.reduceAdd, Nat.reduceEqDiff, Nat.reduceLT, Nat.reduceLeDiff, Nat.reduceBEq, Nat.reduceBNe, reduceIte, if_true, if_false, Bool.false_and, Bool.true_and, Bool.and_true, Bool.and_false, Bool.not_false, Bool.not_true, Bool.false_eq_true, beq_self_eq_true, BEq.rfl, zCat1, zCat2, zCat3, zKdI, zKdL, zKdR, true_and, and_true, zSI, zSL, zSR, zu_at, and_self, and_false, false_and, lv_args, zKdZ, zKdO, zB01, zB11, Option.toList_none, Option.toList_some, List.nil_append, List.cons_append, true_or, or_true, zRow_rd, zu_rd, zo_iload_n, zo_bipush, zo_icmp_ge, zo_aload_n, zo_getfield, zo_iadd, zo_iaload, zo_iastore, zo_baload, zo_bastore, zo_iinc, zo_goto, zo_iconst, zo_istore_n, zb_40, zi_1, zi_0, zKd_10_57, zKd_10_58, zKd_10_59, zKd_10_60, zKd_10_61, zcl_40, sh_87, rf_87_57, sh_114, rf_87_58, sh_115, rf_87_59, sh_116, rf_87_60, sh_117, rf_87_61, sh_118, zcl_0, zvi_40_80, zvi_0_80, zKn_s, zKn_0, zFind, hx, hv, x1, hv2, hb, nI_clamp (n := k) (by omega), nI_clamp (n := 40 + k) (by omega), l 114 k (by omega) (by omega) (by omega), l 115 k (by omega) (by omega) (by omega), l 116 k (by omega) (by omega) (by omega), l 117 k (by omega) (by omega) (by omega), l 118 k (by omega) (by omega) (by omega), zN10, zN01, not_true_eq_false, not_false_eq_true, false_implies, true_implies, implies_true, eq_self, nI_1, nI_40, nI_7, vz0, vz1, zb1_e0, zb1_n0]
    refine ih (by omega) _ ?_ ?_
    · repeat' first | exact hJ | refine zKpt.u ?_ ?_
      all_goals (unfold zFR; omega)
    · intro i c h1 h2 h3
      by_cases e : c = k
      · subst e
        have : i = 114 ∨ i = 115 ∨ i = 116 ∨ i = 117 ∨ i = 118 := by omega
        rcases this with rfl | rfl | rfl | rfl | rfl <;> simp [zu_at]
      · have hne : ¬ (40 + c = 40 + k) := by omega
        simp only [zu_at, hne, and_false, if_false]
        exact hr i c h1 h2 (by omega)
end ZM73
