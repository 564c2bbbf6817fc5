/-! ===== TAKING BACK: the class ===== -/
/-- chairs below n as they were -/
def uBk (S V : Nat → Nat → Int32) (n : Nat) : Nat → Nat → Int32 := fun i j => if (i = 1 ∨ i = 2) ∧ j < n then S i j else V i j
def SCd (i k : Nat) : Prop := (10 ≤ i ∧ i ≤ 18) ∨ zSdd i k
def SCdL (i _k : Nat) : Prop := i = 10 ∨ i = 47
section ZU90
variable {w : zP} {Q : Option Value → zMem → Prop} {μ : zMem} {I J V V' S : Nat → Nat → Int32} {L K : Nat → Nat → Int64} {p s t kc kc' : Nat} {r : Option Nat} {P : oPn} {b c i k q n kd pl rf ch : Nat} {bt d d' : Int64} {rt rt' : oRt} {u : oUd}
theorem zbt (hb : b < 2 ^ 40) (hc : c < 40) : (lN b >>> ((nI c).toInt64 &&& 63)) &&& 1 = if b.testBit c = true then 1 else 0 := by
  have hD : (((nI c).toInt64 &&& 63).toBitVec.smod 64).toNat = c := by
    rw [wb_c c (by omega), wb_tb, wb_sm c (by omega), BitVec.toNat_ofNat, Nat.mod_eq_of_lt (by omega)]
  have : b / 2 ^ c ≤ b := Nat.div_le_self _ _
  rw [pf_shr hD (by omega), wb_a1 (by omega), Nat.testBit_eq_decide_div_mod_eq]
  rcases Nat.mod_two_eq_zero_or_one (b / 2 ^ c) with h | h <;> rw [h] <;> simp <;> rfl
theorem uBk_0 : uBk S V 0 = V := by
  funext i j; simp [uBk]
theorem uBk_s0 (h1 : S 1 c = V 1 c) (h2 : S 2 c = V 2 c) : uBk S V (c + 1) = uBk S V c := by
  funext i j
  unfold uBk
  by_cases e : j = c
  · subst e
    by_cases i1 : i = 1
    · subst i1; simp [h1]
    · by_cases i2 : i = 2
      · subst i2; simp [h2]
      · simp [i1, i2]
  · have : (j < c + 1) = (j < c) := propext ⟨fun g => by omega, fun g => by omega⟩
    simp only [this]
theorem uBk_s1 {x y : Int32} (h1 : S 1 c = x) (h2 : S 2 c = y) : uBk S V (c + 1) = zu (zu (uBk S V c) 1 c x) 2 c y := by
  funext i j
  simp only [zu_at]
  unfold uBk
  by_cases e : j = c
  · subst e
    by_cases i1 : i = 1
    · subst i1; simp [h1]
    · by_cases i2 : i = 2
      · subst i2; simp [h2]
      · simp [i1, i2]
  · have : (j < c + 1) = (j < c) := propext ⟨fun g => by omega, fun g => by omega⟩
    simp only [this]; simp [e]
theorem uBk_hi (hc : n ≤ c) : uBk S V n i c = V i c := by
  unfold uBk; rw [if_neg (by omega)]
theorem uBk_up (hn : n ≤ 40) (h : ∀ c, n ≤ c → c < 40 → S 1 c = V 1 c ∧ S 2 c = V 2 c) : uBk S V n = uBk S V 40 := by
  obtain ⟨m, hm⟩ : ∃ m, 40 = n + m := ⟨40 - n, by omega⟩
  have : ∀ m', m' ≤ m → uBk S V n = uBk S V (n + m') := by
    intro m'
    induction m' with
    | zero => intro _; rfl
    | succ a ih =>
      intro ha
      have := h (n + a) (by omega) (by omega)
      rw [ih (by omega), ← Nat.add_assoc, uBk_s0 this.1 this.2]
  rw [this m (Nat.le_refl _), ← hm]
/-- what the last deed was -/
theorem UdOk_last (h : UdOk P t V kc rt u) (h0 : u.1 = k + 1) : uLk P t (uKd u k) (uPl u k) (uRf u k) (uBt u k) (uV u k) (uK u k) (uR u k) V kc rt := by
  obtain ⟨h1, h2, h3, h4, h5⟩ := h
  have := h5 k (by omega)
  rw [← h0, h3, h4] at this
  unfold uLk at this ⊢
  rcases this with ⟨a1, a2, a3, b, a4, a5, a6, a7, a8⟩ | ⟨a1, a2, a3, b, a4, a5, a6, a7, a8⟩ | ⟨a1, a2, a3, a4, a5, a6, a7⟩
  · refine Or.inl ⟨a1, a2, a3, b, a4, a5, a6, a7, fun c hc => ?_⟩
    rw [← (h2 c hc).1, ← (h2 c hc).2]; exact a8 c hc
  · refine Or.inr (Or.inl ⟨a1, a2, a3, b, a4, a5, a6, a7, fun c hc => ?_⟩)
    rw [← (h2 c hc).1, ← (h2 c hc).2]; exact a8 c hc
  · refine Or.inr (Or.inr ⟨a1, a2, a3, a4, a5, a6, fun c hc => ?_⟩)
    rw [← (h2 c hc).1, ← (h2 c hc).2]; exact a7 c hc
theorem UdOk_pop (h : UdOk P t V kc rt u) (h0 : u.1 = k + 1) : UdOk P t (uBk (uV u k) V 40) (uK u k) (uR u k) (uPop u) := by
  obtain ⟨h1, h2, h3, h4, h5⟩ := h
  have e : u.1 - 1 = k := by omega
  refine ⟨by show u.1 - 1 ≤ 20; omega, fun c hc => ?_, ?_, ?_, fun j hj => ?_⟩
  · show uV u (u.1 - 1) 1 c = _ ∧ uV u (u.1 - 1) 2 c = _
    rw [e]
    unfold uBk
    simp [hc]
  · show uK u (u.1 - 1) = _
    rw [e]
  · show uR u (u.1 - 1) = _
    rw [e]
  · have hj : j < u.1 - 1 := hj
    exact h5 j (by omega)
/-- the front as it was is sound -/
theorem FrOk_pop (hF : FrOk P V t kc rt) (h : UdOk P t V kc rt u) (h0 : u.1 = k + 1) : FrOk P (uBk (uV u k) V 40) t (uK u k) (uR u k) := by
  obtain ⟨f1, f2, f3, cr, f4, f5, f6⟩ := hF
  have hl := UdOk_last h h0
  unfold uLk at hl
  rcases hl with ⟨a1, a2, a3, b, a4, a5, a6, a7, a8⟩ | ⟨a1, a2, a3, b, a4, a5, a6, a7, a8⟩ | ⟨a1, a2, a3, a4, a5, a6, a7⟩
  · refine ⟨fun c hc => ?_, by rw [a3]; exact f2, f3, cr, f4, by omega, f6⟩
    have a8 := a8 c hc
    have f1 := f1 c hc
    unfold uBk
    simp only [hc, and_true]
    simp
    by_cases hb : b.testBit c = true
    · rw [if_pos hb] at a8
      obtain ⟨b1, b2, b3, b4⟩ := a8
      rw [b3] at f1
      rw [b1, b2]
      unfold kOk at f1 ⊢
      simp at f1 ⊢
      exact ⟨f1.2.2.1, f1.2.2.2.1, f1.2.2.2.2⟩
    · rw [if_neg hb] at a8
      rw [a8.1, a8.2]; exact f1
  · refine ⟨fun c hc => ?_, by rw [a3]; exact f2, f3, cr, f4, by omega, f6⟩
    have a8 := a8 c hc
    have f1 := f1 c hc
    unfold uBk
    simp only [hc, and_true]
    simp
    by_cases hb : b.testBit c = true
    · rw [if_pos hb] at a8
      obtain ⟨b1, b2, b3, b4⟩ := a8
      rw [b3] at f1
      rw [b1, b2]
      unfold kOk at f1 ⊢
      simp at f1 ⊢
      exact ⟨a6 c hb, ⟨_, a2, rfl⟩, f1.2.1, f1.2.2.1, f1.2.2.2⟩
    · rw [if_neg hb] at a8
      rw [a8.1, a8.2]; exact f1
  · refine ⟨fun c hc => ?_, a4, f3, cr, f4, by omega, f6⟩
    have a7 := a7 c hc
    have f1 := f1 c hc
    unfold uBk
    simp only [hc, and_true]
    simp
    rw [a7.1, a7.2]; exact f1
theorem zFC_8 {x : Int32} {B : Nat} (hi : k ≠ 8) (h9 : k ≠ 9) (h : zFC B I ch V) : zFC B (zu I B k x) ch V := by
  obtain ⟨a1, a2, a3, a4, a5⟩ := h
  refine ⟨?_, by rw [zu_at, if_neg (by omega)]; exact a2, fun q hq => by rw [zu_at, if_neg (by omega)]; exact a3 q hq, fun q hq => by rw [zu_at, if_neg (by omega)]; exact a4 q hq, by rw [zu_at, if_neg (by omega)]; exact a5⟩
  have hr : ∀ j, 1 ≤ j → zu I B k x (B + j) = I (B + j) := fun j hj => funext fun c => by rw [zu_at, if_neg (by omega)]
  rw [← a1]
  unfold vC zV
  funext i c
  split
  · dsimp only; rw [hr 8 (by omega)]
  · split
    · rename_i hi; dsimp only; rw [hr i (by omega)]
    · rfl
theorem zKl_fr (h : zKl I L p P V d t kc rt) (hr : ∀ j, J (p + j) = I (p + j)) (hF : zcFr J K 10 P V' d' q kc' rt') (hO : FrOk P V' q kc' rt') : zKl J K p P V' d' q kc' rt' := ⟨h.1, h.2.1, h.2.2.1, zClsP_row hr h.2.2.2.1, hF, hO⟩
theorem SCd_p (h : zKpt SCd I J) (hp : zPc p) : ∀ j, J (p + j) = I (p + j) := fun j => funext fun k => h (p + j) k (by unfold SCd zSdd; rcases hp with rfl | rfl <;> omega)
set_option maxRecDepth 20000 in
theorem cl_takeBack (hC : zKl I L p P V d t kc rt) (hU : UdOk P t V kc rt u) (hD : zcDeeds I L u) (h0 : u.1 = k + 1) (hQ : ∀ I' L', zKpt SCd I I' → zKpt SCdL L L' → zKl I' L' p P (uBk (uV u k) V 40) d t (uK u k) (uR u k) → zcDeeds I' L' (uPop u) → Q none (SH, I', L', RF p s r)) : zXM w mX1_takeBack rX1_takeBack [.ref 43, .ref 10] (SH, I, L, RF p s r) Q := by
  unfold zXM
  have hl := UdOk_last hU h0
  have hFk := FrOk_pop hC.2.2.2.2.2 hU h0
  have h20 := hU.1
  have hp := hC.1
  have hch : pCh P ≤ 40 := hC.2.1.1
  have hnp : pNp P ≤ 5 := hC.2.1.2.1
  obtain ⟨g1, g2, g3, g4, g5⟩ := hC.2.2.2.2.1
  have hok := hC.2.2.2.2.2.1
  have e4 : I 43 4 = nI (k + 1) := by rw [hD.1, h0]
  have e4n : ¬ nI (k + 1) = 0 := nI_ne0 (by omega) (by omega)
  have em : nI (k + 1) - 1 = nI k := by first | exact nI_pred | exact nI_pred k | exact nI_pred _
  obtain ⟨d1, d2, d3, d4⟩ := hD.2 k (by omega)
  have hv : vp_in (nI k) 20 := zvn (by omega) (by omega)
  have n02 : ((0 : Int32) = 2) = False := eq_false (by decide)
  have n12 : ((1 : Int32) = 2) = False := eq_false (by decide)
  have lc01 : (lg_cmp 0 1 = 0) = False := eq_false (by decide)
  have lc11 : (lg_cmp 1 1 = 0) = True := eq_true (by decide)
  have n10 : ((1 : Int32) = 0) = False := eq_false (by decide)
  have hDp : ∀ J K, J 43 4 = nI k → (∀ i, 44 ≤ i → i ≤ 46 → J i = I i) → K 47 = L 47 → zcDeeds J K (uPop u) := by
    intro J K j4 j5 j6
    refine ⟨by rw [j4]; show nI k = nI (u.1 - 1); rw [h0]; rfl, fun j hj => ?_⟩
    have hj : j < u.1 - 1 := hj
    rw [j5 44 (by omega) (by omega), j5 45 (by omega) (by omega), j5 46 (by omega) (by omega), j6]
    exact hD.2 j (by omega)
  unfold uLk at hl
  rcases hl with ⟨a1, a2, a3, b, a4, a5, a6, a7, a8⟩ | ⟨a1, a2, a3, b, a4, a5, a6, a7, a8⟩ | ⟨a1, a2, a3, a4, a5, a6, a7⟩
  · have d1 : I 44 k = 0 := by rw [d1, a1]; rfl
    rw [a4] at d4
    refine zBlkR (M := mX1_takeBack) (nL := 3) (rt := (Option.none : Option Jvm.ClassFile.FieldType)) (blk := bX1_takeBack_0) (T := [(8, bX1_takeBack_8), (67, bX1_takeBack_67)]) 2 hX1_takeBack_0 (zChks_cons hX1_takeBack_8 (zChks_cons hX1_takeBack_67 zChks_nil)) rfl rfl rfl (Nat.le_of_ble_eq_true rfl) (Nat.le_of_ble_eq_true rfl) ?_
    simp (implicitDefEqProofs := false) only [bX1_takeBack_0, bX1_takeBack_8, bX1_takeBack_67, zRun_cons, zRun_nil, zLk, zSto, zIns, zFil, zf0, zf1, zf2, zf3, List.filter_cons, List.filter_nil, Nat.reduceAdd, Nat.reduceEqDiff, Nat.reduceLT, Nat.reduceLeDiff, Nat.reduceBEq, Nat.reduceBNe, reduceIte, if_true, if_false, Bool.false_and, Bool.true_and, Bool.and_true, Bool.and_false, Bool.not_false, Bool.not_true, Bool.false_eq_true, beq_self_eq_true, BEq.rfl, zCat1, zCat2, zCat3, zKdI, zKdL, zKdR, true_and, and_true, zSI, zSL, zSR, zu_at, and_self, and_false, false_and, lv_args, zKdZ, zKdO, zB01, zB11, Option.toList_none, Option.toList_some, List.nil_append, List.cons_append, true_or, or_true, zRow_rd, zu_rd, zo_aload_n, zo_getfield, zo_if_ne, zo_return_, zo_dup, zo_iconst, zo_isub, zo_putfield, zo_putfield_2, zo_putfield_3, zo_iaload, zo_icmp_ne, zo_laload, zo_istore_n, zi_1, zi_2, zi_0, zKd_1_4, zTy_1_4, zKd_1_0, zKd_1_1, zKd_1_3, sh_43, zcl_1, rf_43_0, sh_44, zcl_2, rf_43_1, sh_45, rf_43_3, sh_47, zcl_0, zvi_1_20, zvi_2_20, zvi_0_20, zPutC, zKn_s, zKn_0, zFind, e4, e4n, em, d1, hv, n02, n12, zCat2, nI_clamp (n := k) (by omega), zN10, zN01, not_true_eq_false, not_false_eq_true, false_implies, true_implies, implies_true, eq_self, nI_1, nI_40, nI_7, vz0, vz1, zb1_e0, zb1_n0]
    have kI : zKpt SCd I (zu I 43 4 (nI k)) := zKpt_rfl.u (by unfold SCd zSdd; omega)
    have j4 : (zu I 43 4 (nI k)) 43 4 = nI k := by simp [zu_at]
    have j5 : ∀ i, i ≠ 43 → (zu I 43 4 (nI k)) i = I i := fun i hi => by funext j; rw [zu_at, if_neg (fun g => hi g.1)]
    generalize zu I 43 4 (nI k) = I1 at *
    have d1' : I1 44 k = 0 := by rw [j5 44 (by omega)]; exact d1
    have d2' : I1 45 k = nI (uPl u k) := by rw [j5 45 (by omega)]; exact d2
    have hF1 : zFC 10 I1 (pCh P) (uBk (uV u k) V 0) := by rw [uBk_0]; exact zFC_row (fun j hj => j5 (10 + j) (by omega)) g1
    refine zLoop (n := pCh P) (P := fun c => ∀ J, zKpt (zFB 10) I1 J → zFC 10 J (pCh P) (uBk (uV u k) V c) → oOk (pCh P) (pNp P) (pR P 102 8) (uBk (uV u k) V c) → zX w mX1_takeBack rX1_takeBack Q 0 0 69 [(0, Value.ref 43), (1, Value.ref 10), (2, Value.int (nI c))] [] (SH, J, L, RF p s r)) (fun c hc ih => ?_) 0 (Nat.zero_le _) I1 zKpt_rfl hF1 (by rw [uBk_0]; exact hok)
    intro J hJ hFJ hokJ
    have f8 := hFJ.2.1
    have q4 : J 43 4 = nI k := by rw [hJ 43 4 (by unfold zFB; omega), j4]
    have q44 : J 44 k = 0 := by rw [hJ 44 k (by unfold zFB; omega), d1']
    have q45 : J 45 k = nI (uPl u k) := by rw [hJ 45 k (by unfold zFB; omega), d2']
    have q10 : ∀ j, j ≠ 9 → J 10 j = I 10 j := fun j hj => by rw [hJ 10 j (by unfold zFB; omega), j5 10 (by omega)]
    by_cases hcc : c = pCh P
    · subst hcc
      refine zBlkR (M := mX1_takeBack) (nL := 3) (rt := (Option.none : Option Jvm.ClassFile.FieldType)) (blk := bX1_takeBack_69) (T := [(115, bX1_takeBack_115), (129, bX1_takeBack_129), (135, bX1_takeBack_135)]) 1 hX1_takeBack_69 (zChks_cons hX1_takeBack_115 (zChks_cons hX1_takeBack_129 (zChks_cons hX1_takeBack_135 zChks_nil))) rfl rfl rfl (Nat.le_of_ble_eq_true rfl) (Nat.le_of_ble_eq_true rfl) ?_
      simp (implicitDefEqProofs := false) only [bX1_takeBack_69, bX1_takeBack_115, bX1_takeBack_129, bX1_takeBack_135, zRun_cons, zRun_nil, zLk, zSto, zIns, zFil, zf0, zf1, zf2, zf3, List.filter_cons, List.filter_nil, Nat.reduceAdd, Nat.reduceEqDiff, Nat.reduceLT, Nat.reduceLeDiff, Nat.reduceBEq, Nat.reduceBNe, reduceIte, if_true, if_false, Bool.false_and, Bool.true_and, Bool.and_true, Bool.and_false, Bool.not_false, Bool.not_true, Bool.false_eq_true, beq_self_eq_true, BEq.rfl, zCat1, zCat2, zCat3, zKdI, zKdL, zKdR, true_and, and_true, zSI, zSL, zSR, zu_at, and_self, and_false, false_and, lv_args, zKdZ, zKdO, zB01, zB11, Option.toList_none, Option.toList_some, List.nil_append, List.cons_append, true_or, or_true, zRow_rd, zu_rd, zo_iload_n, zo_aload_n, zo_getfield, zo_icmp_ge, zo_laload, zo_lshr, zo_lconst, zo_land, zo_lcmp, zo_if_ne, zo_iaload, zo_iinc, zo_goto, zo_dup, zl_1, zi_1, zKd_2_8, zKd_1_3, zKd_1_4, zKd_1_0, zKd_1_1, zKd_2_11, sh_10, sh_19, sh_28, sh_43, rf_43_3, sh_47, rf_43_0, sh_44, rf_43_1, sh_45, zKn_s, zKn_0, zFind, f8, q4, d4, hv, zCat2, zle_nat (a := pCh P) (b := pCh P) (by omega) (by omega), Nat.le_refl, nI_clamp (n := k) (by omega), zN10, zN01, not_true_eq_false, not_false_eq_true, false_implies, true_implies, implies_true, eq_self, nI_1, nI_40, nI_7, vz0, vz1, zb1_e0, zb1_n0]
      refine z_cS0 (M' := mJ13_bitCount_95d88) (R' := rJ13_bitCount_95d88) [.long (lN b)] [.int (J 10 11), .ref 10] eJ13_bitCount_95d88 k1_68 (by decide +kernel : decode cX1_takeBack 149 = .ok (.invokestatic 68, 3)) (Nat.le_of_ble_eq_true rfl) ⟨Nat.le_of_ble_eq_true rfl, Nat.le_of_ble_eq_true rfl, Nat.le_of_ble_eq_true rfl, Nat.le_of_ble_eq_true rfl, Nat.le_of_ble_eq_true rfl⟩ rfl rfl rfl ?_
      refine sp_bitCount a5 ?_
      refine zBlkR (M := mX1_takeBack) (nL := 3) (rt := (Option.none : Option Jvm.ClassFile.FieldType)) (blk := bX1_takeBack_152) (T := []) 0 hX1_takeBack_152 zChks_nil rfl rfl rfl (Nat.le_of_ble_eq_true rfl) (Nat.le_of_ble_eq_true rfl) ?_
      simp (implicitDefEqProofs := false) only [bX1_takeBack_152, zRun_cons, zRun_nil, zLk, zSto, zIns, zFil, zf0, zf1, zf2, zf3, List.filter_cons, List.filter_nil, Nat.reduceAdd, Nat.reduceEqDiff, Nat.reduceLT, Nat.reduceLeDiff, Nat.reduceBEq, Nat.reduceBNe, reduceIte, if_true, if_false, Bool.false_and, Bool.true_and, Bool.and_true, Bool.and_false, Bool.not_false, Bool.not_true, Bool.false_eq_true, beq_self_eq_true, BEq.rfl, zCat1, zCat2, zCat3, zKdI, zKdL, zKdR, true_and, and_true, zSI, zSL, zSR, zu_at, and_self, and_false, false_and, lv_args, zKdZ, zKdO, zB01, zB11, Option.toList_none, Option.toList_some, List.nil_append, List.cons_append, true_or, or_true, zRow_rd, zu_rd, zo_isub, zo_putfield, zo_putfield_2, zo_putfield_3, zo_return_, zKd_2_11, zTy_2_11, sh_10, sh_19, sh_28, zPutC, zKn_0, zN10, zN01, not_true_eq_false, not_false_eq_true, false_implies, true_implies, implies_true, eq_self, nI_1, nI_40, nI_7, vz0, vz1, zb1_e0, zb1_n0]
      rw [uBk_up hch (fun c hc hc4 => by
        have h8 := a8 c hc4
        have hnb : ¬ b.testBit c = true := fun g => by have := a6 c g; omega
        rw [if_neg hnb] at h8
        exact h8)] at hFJ
      have hkc : J 10 11 - nI (pcN b) = nI (uK u k) := by rw [q10 11 (by omega), g3, a7, ← nI_add, Int32.add_sub_cancel]
      have kJ : zKpt SCd I J := kI.trans (hJ.mono (fun i k g => by unfold zFB at g; unfold SCd; omega))
      refine hQ _ L (kJ.u (by unfold SCd; omega)) zKpt_rfl (zKl_fr hC (SCd_p (kJ.u (by unfold SCd; omega)) hp) ⟨?_, ?_, ?_, ?_, g5⟩ hFk) (hDp _ _ ?_ ?_ rfl)
      · exact zFC_8 (by omega) (by omega) hFJ
      · simp [zu_at]; rw [q10 10 (by omega)]; exact g2
      · simp [zu_at]; exact hkc
      · unfold zRtC
        simp [zu_at]
        rw [q10 12 (by omega), q10 13 (by omega), a3]
        exact g4
      · simp [zu_at]; exact q4
      · intro i i1 i2
        funext j
        rw [zu_at, if_neg (by omega), hJ i j (by unfold zFB; omega), j5 i (by omega)]
    · have hx : (nI (pCh P) ≤ nI c) = False := eq_false (by rw [zle_nat (by omega) (by omega)]; omega)
      have ih := ih (by omega)
      have a8c := a8 c (by omega)
      have hzb := zbt a5 (show c < 40 by omega)
      by_cases hb : b.testBit c = true
      · rw [if_pos hb] at hzb a8c
        obtain ⟨b1, b2, b3, b4⟩ := a8c
        refine zBlkR (M := mX1_takeBack) (nL := 3) (rt := (Option.none : Option Jvm.ClassFile.FieldType)) (blk := bX1_takeBack_69) (T := [(115, bX1_takeBack_115), (129, bX1_takeBack_129), (135, bX1_takeBack_135)]) 1 hX1_takeBack_69 (zChks_cons hX1_takeBack_115 (zChks_cons hX1_takeBack_129 (zChks_cons hX1_takeBack_135 zChks_nil))) rfl rfl rfl (Nat.le_of_ble_eq_true rfl) (Nat.le_of_ble_eq_true rfl) ?_
        simp (implicitDefEqProofs := false) only [bX1_takeBack_69, bX1_takeBack_115, bX1_takeBack_129, bX1_takeBack_135, zRun_cons, zRun_nil, zLk, zSto, zIns, zFil, zf0, zf1, zf2, zf3, List.filter_cons, List.filter_nil, Nat.reduceAdd, Nat.reduceEqDiff, Nat.reduceLT, Nat.reduceLeDiff, Nat.reduceBEq, Nat.reduceBNe, reduceIte, if_true, if_false, Bool.false_and, Bool.true_and, Bool.and_true, Bool.and_false, Bool.not_false, Bool.not_true, Bool.false_eq_true, beq_self_eq_true, BEq.rfl, zCat1, zCat2, zCat3, zKdI, zKdL, zKdR, true_and, and_true, zSI, zSL, zSR, zu_at, and_self, and_false, false_and, lv_args, zKdZ, zKdO, zB01, zB11, Option.toList_none, Option.toList_some, List.nil_append, List.cons_append, true_or, or_true, zRow_rd, zu_rd, zo_iload_n, zo_aload_n, zo_getfield, zo_icmp_ge, zo_laload, zo_lshr, zo_lconst, zo_land, zo_lcmp, zo_if_ne, zo_iaload, zo_iinc, zo_goto, zo_dup, zl_1, zi_1, zKd_2_8, zKd_1_3, zKd_1_4, zKd_1_0, zKd_1_1, zKd_2_11, sh_10, sh_19, sh_28, sh_43, rf_43_3, sh_47, rf_43_0, sh_44, rf_43_1, sh_45, zKn_s, zKn_0, zFind, f8, q4, q44, q45, d4, hv, hx, hzb, lc01, lc11, n10, zCat2, nI_clamp (n := k) (by omega), zN10, zN01, not_true_eq_false, not_false_eq_true, false_implies, true_implies, implies_true, eq_self, nI_1, nI_40, nI_7, vz0, vz1, zb1_e0, zb1_n0]
        refine z_cV0 (M' := mX2_setStacked) (R' := rX2_setStacked) (i := 10) [.int (nI c)] [] eX2_setStacked k1_57 (by decide +kernel : decode cX1_takeBack 109 = .ok (.invokevirtual 57, 3)) (Nat.le_of_ble_eq_true rfl) ⟨Nat.le_of_ble_eq_true rfl, Nat.le_of_ble_eq_true rfl, Nat.le_of_ble_eq_true rfl, Nat.le_of_ble_eq_true rfl, Nat.le_of_ble_eq_true rfl⟩ rfl rfl rfl sh_10 ?_
        refine cl_setStacked (Or.inl rfl) (by omega) hch hnp hFJ hokJ (fun I2 k1 f1 => ?_)
        have o1 := oOk_stack (c := c) hokJ
        rw [oStack, if_pos (by rw [uBk_hi (Nat.le_refl c)]; exact b3), ← uBk_s1 b1 b2] at f1 o1
        refine zBlkR (M := mX1_takeBack) (nL := 3) (rt := (Option.none : Option Jvm.ClassFile.FieldType)) (blk := bX1_takeBack_112) (T := [(129, bX1_takeBack_129)]) 1 hX1_takeBack_112 (zChks_cons hX1_takeBack_129 zChks_nil) rfl rfl rfl (Nat.le_of_ble_eq_true rfl) (Nat.le_of_ble_eq_true rfl) ?_
        simp (implicitDefEqProofs := false) only [bX1_takeBack_112, bX1_takeBack_129, zRun_cons, zRun_nil, zLk, zSto, zIns, zFil, zf0, zf1, zf2, zf3, List.filter_cons, List.filter_nil, Nat.reduceAdd, Nat.reduceEqDiff, Nat.reduceLT, Nat.reduceLeDiff, Nat.reduceBEq, Nat.reduceBNe, reduceIte, if_true, if_false, Bool.false_and, Bool.true_and, Bool.and_true, Bool.and_false, Bool.not_false, Bool.not_true, Bool.false_eq_true, beq_self_eq_true, BEq.rfl, zCat1, zCat2, zCat3, zKdI, zKdL, zKdR, true_and, and_true, zSI, zSL, zSR, zu_at, and_self, and_false, false_and, lv_args, zKdZ, zKdO, zB01, zB11, Option.toList_none, Option.toList_some, List.nil_append, List.cons_append, true_or, or_true, zRow_rd, zu_rd, zo_goto, zo_iinc, zi_1, zKn_s, zKn_0, zFind, zN10, zN01, not_true_eq_false, not_false_eq_true, false_implies, true_implies, implies_true, eq_self, nI_1, nI_40, nI_7, vz0, vz1, zb1_e0, zb1_n0]
        exact ih I2 (hJ.trans k1) f1 o1
      · rw [if_neg hb] at hzb a8c
        refine zBlkR (M := mX1_takeBack) (nL := 3) (rt := (Option.none : Option Jvm.ClassFile.FieldType)) (blk := bX1_takeBack_69) (T := [(115, bX1_takeBack_115), (129, bX1_takeBack_129), (135, bX1_takeBack_135)]) 1 hX1_takeBack_69 (zChks_cons hX1_takeBack_115 (zChks_cons hX1_takeBack_129 (zChks_cons hX1_takeBack_135 zChks_nil))) rfl rfl rfl (Nat.le_of_ble_eq_true rfl) (Nat.le_of_ble_eq_true rfl) ?_
        simp (implicitDefEqProofs := false) only [bX1_takeBack_69, bX1_takeBack_115, bX1_takeBack_129, bX1_takeBack_135, zRun_cons, zRun_nil, zLk, zSto, zIns, zFil, zf0, zf1, zf2, zf3, List.filter_cons, List.filter_nil, Nat.reduceAdd, Nat.reduceEqDiff, Nat.reduceLT, Nat.reduceLeDiff, Nat.reduceBEq, Nat.reduceBNe, reduceIte, if_true, if_false, Bool.false_and, Bool.true_and, Bool.and_true, Bool.and_false, Bool.not_false, Bool.not_true, Bool.false_eq_true, beq_self_eq_true, BEq.rfl, zCat1, zCat2, zCat3, zKdI, zKdL, zKdR, true_and, and_true, zSI, zSL, zSR, zu_at, and_self, and_false, false_and, lv_args, zKdZ, zKdO, zB01, zB11, Option.toList_none, Option.toList_some, List.nil_append, List.cons_append, true_or, or_true, zRow_rd, zu_rd, zo_iload_n, zo_aload_n, zo_getfield, zo_icmp_ge, zo_laload, zo_lshr, zo_lconst, zo_land, zo_lcmp, zo_if_ne, zo_iaload, zo_iinc, zo_goto, zo_dup, zl_1, zi_1, zKd_2_8, zKd_1_3, zKd_1_4, zKd_1_0, zKd_1_1, zKd_2_11, sh_10, sh_19, sh_28, sh_43, rf_43_3, sh_47, rf_43_0, sh_44, rf_43_1, sh_45, zKn_s, zKn_0, zFind, f8, q4, q44, q45, d4, hv, hx, hzb, lc01, lc11, zCat2, nI_clamp (n := k) (by omega), zN10, zN01, not_true_eq_false, not_false_eq_true, false_implies, true_implies, implies_true, eq_self, nI_1, nI_40, nI_7, vz0, vz1, zb1_e0, zb1_n0]
        rw [uBk_s0 a8c.1 a8c.2] at ih
        exact ih J hJ hFJ hokJ
  · have d1 : I 44 k = 1 := by rw [d1, a1]; rfl
    rw [a4] at d4
    refine zBlkR (M := mX1_takeBack) (nL := 3) (rt := (Option.none : Option Jvm.ClassFile.FieldType)) (blk := bX1_takeBack_0) (T := [(8, bX1_takeBack_8), (67, bX1_takeBack_67)]) 2 hX1_takeBack_0 (zChks_cons hX1_takeBack_8 (zChks_cons hX1_takeBack_67 zChks_nil)) rfl rfl rfl (Nat.le_of_ble_eq_true rfl) (Nat.le_of_ble_eq_true rfl) ?_
    simp (implicitDefEqProofs := false) only [bX1_takeBack_0, bX1_takeBack_8, bX1_takeBack_67, zRun_cons, zRun_nil, zLk, zSto, zIns, zFil, zf0, zf1, zf2, zf3, List.filter_cons, List.filter_nil, Nat.reduceAdd, Nat.reduceEqDiff, Nat.reduceLT, Nat.reduceLeDiff, Nat.reduceBEq, Nat.reduceBNe, reduceIte, if_true, if_false, Bool.false_and, Bool.true_and, Bool.and_true, Bool.and_false, Bool.not_false, Bool.not_true, Bool.false_eq_true, beq_self_eq_true, BEq.rfl, zCat1, zCat2, zCat3, zKdI, zKdL, zKdR, true_and, and_true, zSI, zSL, zSR, zu_at, and_self, and_false, false_and, lv_args, zKdZ, zKdO, zB01, zB11, Option.toList_none, Option.toList_some, List.nil_append, List.cons_append, true_or, or_true, zRow_rd, zu_rd, zo_aload_n, zo_getfield, zo_if_ne, zo_return_, zo_dup, zo_iconst, zo_isub, zo_putfield, zo_putfield_2, zo_putfield_3, zo_iaload, zo_icmp_ne, zo_laload, zo_istore_n, zi_1, zi_2, zi_0, zKd_1_4, zTy_1_4, zKd_1_0, zKd_1_1, zKd_1_3, sh_43, zcl_1, rf_43_0, sh_44, zcl_2, rf_43_1, sh_45, rf_43_3, sh_47, zcl_0, zvi_1_20, zvi_2_20, zvi_0_20, zPutC, zKn_s, zKn_0, zFind, e4, e4n, em, d1, hv, n02, n12, zCat2, nI_clamp (n := k) (by omega), zN10, zN01, not_true_eq_false, not_false_eq_true, false_implies, true_implies, implies_true, eq_self, nI_1, nI_40, nI_7, vz0, vz1, zb1_e0, zb1_n0]
    have kI : zKpt SCd I (zu I 43 4 (nI k)) := zKpt_rfl.u (by unfold SCd zSdd; omega)
    have j4 : (zu I 43 4 (nI k)) 43 4 = nI k := by simp [zu_at]
    have j5 : ∀ i, i ≠ 43 → (zu I 43 4 (nI k)) i = I i := fun i hi => by funext j; rw [zu_at, if_neg (fun g => hi g.1)]
    generalize zu I 43 4 (nI k) = I1 at *
    have d1' : I1 44 k = 1 := by rw [j5 44 (by omega)]; exact d1
    have d2' : I1 45 k = nI (uPl u k) := by rw [j5 45 (by omega)]; exact d2
    have hF1 : zFC 10 I1 (pCh P) (uBk (uV u k) V 0) := by rw [uBk_0]; exact zFC_row (fun j hj => j5 (10 + j) (by omega)) g1
    refine zLoop (n := pCh P) (P := fun c => ∀ J, zKpt (zFB 10) I1 J → zFC 10 J (pCh P) (uBk (uV u k) V c) → oOk (pCh P) (pNp P) (pR P 102 8) (uBk (uV u k) V c) → zX w mX1_takeBack rX1_takeBack Q 0 0 69 [(0, Value.ref 43), (1, Value.ref 10), (2, Value.int (nI c))] [] (SH, J, L, RF p s r)) (fun c hc ih => ?_) 0 (Nat.zero_le _) I1 zKpt_rfl hF1 (by rw [uBk_0]; exact hok)
    intro J hJ hFJ hokJ
    have f8 := hFJ.2.1
    have q4 : J 43 4 = nI k := by rw [hJ 43 4 (by unfold zFB; omega), j4]
    have q44 : J 44 k = 1 := by rw [hJ 44 k (by unfold zFB; omega), d1']
    have q45 : J 45 k = nI (uPl u k) := by rw [hJ 45 k (by unfold zFB; omega), d2']
    have q10 : ∀ j, j ≠ 9 → J 10 j = I 10 j := fun j hj => by rw [hJ 10 j (by unfold zFB; omega), j5 10 (by omega)]
    by_cases hcc : c = pCh P
    · subst hcc
      refine zBlkR (M := mX1_takeBack) (nL := 3) (rt := (Option.none : Option Jvm.ClassFile.FieldType)) (blk := bX1_takeBack_69) (T := [(115, bX1_takeBack_115), (129, bX1_takeBack_129), (135, bX1_takeBack_135)]) 1 hX1_takeBack_69 (zChks_cons hX1_takeBack_115 (zChks_cons hX1_takeBack_129 (zChks_cons hX1_takeBack_135 zChks_nil))) rfl rfl rfl (Nat.le_of_ble_eq_true rfl) (Nat.le_of_ble_eq_true rfl) ?_
      simp (implicitDefEqProofs := false) only [bX1_takeBack_69, bX1_takeBack_115, bX1_takeBack_129, bX1_takeBack_135, zRun_cons, zRun_nil, zLk, zSto, zIns, zFil, zf0, zf1, zf2, zf3, List.filter_cons, List.filter_nil, Nat.reduceAdd, Nat.reduceEqDiff, Nat.reduceLT, Nat.reduceLeDiff, Nat.reduceBEq, Nat.reduceBNe, reduceIte, if_true, if_false, Bool.false_and, Bool.true_and, Bool.and_true, Bool.and_false, Bool.not_false, Bool.not_true, Bool.false_eq_true, beq_self_eq_true, BEq.rfl, zCat1, zCat2, zCat3, zKdI, zKdL, zKdR, true_and, and_true, zSI, zSL, zSR, zu_at, and_self, and_false, false_and, lv_args, zKdZ, zKdO, zB01, zB11, Option.toList_none, Option.toList_some, List.nil_append, List.cons_append, true_or, or_true, zRow_rd, zu_rd, zo_iload_n, zo_aload_n, zo_getfield, zo_icmp_ge, zo_laload, zo_lshr, zo_lconst, zo_land, zo_lcmp, zo_if_ne, zo_iaload, zo_iinc, zo_goto, zo_dup, zl_1, zi_1, zKd_2_8, zKd_1_3, zKd_1_4, zKd_1_0, zKd_1_1, zKd_2_11, sh_10, sh_19, sh_28, sh_43, rf_43_3, sh_47, rf_43_0, sh_44, rf_43_1, sh_45, zKn_s, zKn_0, zFind, f8, q4, d4, hv, zCat2, zle_nat (a := pCh P) (b := pCh P) (by omega) (by omega), Nat.le_refl, nI_clamp (n := k) (by omega), zN10, zN01, not_true_eq_false, not_false_eq_true, false_implies, true_implies, implies_true, eq_self, nI_1, nI_40, nI_7, vz0, vz1, zb1_e0, zb1_n0]
      refine z_cS0 (M' := mJ13_bitCount_95d88) (R' := rJ13_bitCount_95d88) [.long (lN b)] [.int (J 10 11), .ref 10] eJ13_bitCount_95d88 k1_68 (by decide +kernel : decode cX1_takeBack 149 = .ok (.invokestatic 68, 3)) (Nat.le_of_ble_eq_true rfl) ⟨Nat.le_of_ble_eq_true rfl, Nat.le_of_ble_eq_true rfl, Nat.le_of_ble_eq_true rfl, Nat.le_of_ble_eq_true rfl, Nat.le_of_ble_eq_true rfl⟩ rfl rfl rfl ?_
      refine sp_bitCount a5 ?_
      refine zBlkR (M := mX1_takeBack) (nL := 3) (rt := (Option.none : Option Jvm.ClassFile.FieldType)) (blk := bX1_takeBack_152) (T := []) 0 hX1_takeBack_152 zChks_nil rfl rfl rfl (Nat.le_of_ble_eq_true rfl) (Nat.le_of_ble_eq_true rfl) ?_
      simp (implicitDefEqProofs := false) only [bX1_takeBack_152, zRun_cons, zRun_nil, zLk, zSto, zIns, zFil, zf0, zf1, zf2, zf3, List.filter_cons, List.filter_nil, Nat.reduceAdd, Nat.reduceEqDiff, Nat.reduceLT, Nat.reduceLeDiff, Nat.reduceBEq, Nat.reduceBNe, reduceIte, if_true, if_false, Bool.false_and, Bool.true_and, Bool.and_true, Bool.and_false, Bool.not_false, Bool.not_true, Bool.false_eq_true, beq_self_eq_true, BEq.rfl, zCat1, zCat2, zCat3, zKdI, zKdL, zKdR, true_and, and_true, zSI, zSL, zSR, zu_at, and_self, and_false, false_and, lv_args, zKdZ, zKdO, zB01, zB11, Option.toList_none, Option.toList_some, List.nil_append, List.cons_append, true_or, or_true, zRow_rd, zu_rd, zo_isub, zo_putfield, zo_putfield_2, zo_putfield_3, zo_return_, zKd_2_11, zTy_2_11, sh_10, sh_19, sh_28, zPutC, zKn_0, zN10, zN01, not_true_eq_false, not_false_eq_true, false_implies, true_implies, implies_true, eq_self, nI_1, nI_40, nI_7, vz0, vz1, zb1_e0, zb1_n0]
      rw [uBk_up hch (fun c hc hc4 => by
        have h8 := a8 c hc4
        have hnb : ¬ b.testBit c = true := fun g => by have := a6 c g; omega
        rw [if_neg hnb] at h8
        exact h8)] at hFJ
      have hkc : J 10 11 - nI (pcN b) = nI (uK u k) := by rw [q10 11 (by omega), g3, a7, ← nI_add, Int32.add_sub_cancel]
      have kJ : zKpt SCd I J := kI.trans (hJ.mono (fun i k g => by unfold zFB at g; unfold SCd; omega))
      refine hQ _ L (kJ.u (by unfold SCd; omega)) zKpt_rfl (zKl_fr hC (SCd_p (kJ.u (by unfold SCd; omega)) hp) ⟨?_, ?_, ?_, ?_, g5⟩ hFk) (hDp _ _ ?_ ?_ rfl)
      · exact zFC_8 (by omega) (by omega) hFJ
      · simp [zu_at]; rw [q10 10 (by omega)]; exact g2
      · simp [zu_at]; exact hkc
      · unfold zRtC
        simp [zu_at]
        rw [q10 12 (by omega), q10 13 (by omega), a3]
        exact g4
      · simp [zu_at]; exact q4
      · intro i i1 i2
        funext j
        rw [zu_at, if_neg (by omega), hJ i j (by unfold zFB; omega), j5 i (by omega)]
    · have hx : (nI (pCh P) ≤ nI c) = False := eq_false (by rw [zle_nat (by omega) (by omega)]; omega)
      have ih := ih (by omega)
      have a8c := a8 c (by omega)
      have hzb := zbt a5 (show c < 40 by omega)
      by_cases hb : b.testBit c = true
      · rw [if_pos hb] at hzb a8c
        obtain ⟨b1, b2, b3, b4⟩ := a8c
        refine zBlkR (M := mX1_takeBack) (nL := 3) (rt := (Option.none : Option Jvm.ClassFile.FieldType)) (blk := bX1_takeBack_69) (T := [(115, bX1_takeBack_115), (129, bX1_takeBack_129), (135, bX1_takeBack_135)]) 1 hX1_takeBack_69 (zChks_cons hX1_takeBack_115 (zChks_cons hX1_takeBack_129 (zChks_cons hX1_takeBack_135 zChks_nil))) rfl rfl rfl (Nat.le_of_ble_eq_true rfl) (Nat.le_of_ble_eq_true rfl) ?_
        simp (implicitDefEqProofs := false) only [bX1_takeBack_69, bX1_takeBack_115, bX1_takeBack_129, bX1_takeBack_135, zRun_cons, zRun_nil, zLk, zSto, zIns, zFil, zf0, zf1, zf2, zf3, List.filter_cons, List.filter_nil, Nat.reduceAdd, Nat.reduceEqDiff, Nat.reduceLT, Nat.reduceLeDiff, Nat.reduceBEq, Nat.reduceBNe, reduceIte, if_true, if_false, Bool.false_and, Bool.true_and, Bool.and_true, Bool.and_false, Bool.not_false, Bool.not_true, Bool.false_eq_true, beq_self_eq_true, BEq.rfl, zCat1, zCat2, zCat3, zKdI, zKdL, zKdR, true_and, and_true, zSI, zSL, zSR, zu_at, and_self, and_false, false_and, lv_args, zKdZ, zKdO, zB01, zB11, Option.toList_none, Option.toList_some, List.nil_append, List.cons_append, true_or, or_true, zRow_rd, zu_rd, zo_iload_n, zo_aload_n, zo_getfield, zo_icmp_ge, zo_laload, zo_lshr, zo_lconst, zo_land, zo_lcmp, zo_if_ne, zo_iaload, zo_iinc, zo_goto, zo_dup, zl_1, zi_1, zKd_2_8, zKd_1_3, zKd_1_4, zKd_1_0, zKd_1_1, zKd_2_11, sh_10, sh_19, sh_28, sh_43, rf_43_3, sh_47, rf_43_0, sh_44, rf_43_1, sh_45, zKn_s, zKn_0, zFind, f8, q4, q44, q45, d4, hv, hx, hzb, lc01, lc11, n10, zCat2, nI_clamp (n := k) (by omega), zN10, zN01, not_true_eq_false, not_false_eq_true, false_implies, true_implies, implies_true, eq_self, nI_1, nI_40, nI_7, vz0, vz1, zb1_e0, zb1_n0]
        refine z_cV0 (M' := mX2_setOut) (R' := rX2_setOut) (i := 10) [.int (nI c), .int (nI (uPl u k))] [] eX2_setOut k1_61 (by decide +kernel : decode cX1_takeBack 126 = .ok (.invokevirtual 61, 3)) (Nat.le_of_ble_eq_true rfl) ⟨Nat.le_of_ble_eq_true rfl, Nat.le_of_ble_eq_true rfl, Nat.le_of_ble_eq_true rfl, Nat.le_of_ble_eq_true rfl, Nat.le_of_ble_eq_true rfl⟩ rfl rfl rfl sh_10 ?_
        refine cl_setOut (Or.inl rfl) (by omega) hch (by omega) hFJ (fun I2 k1 f1 => ?_)
        have o1 := oOk_put (c := c) hokJ (by omega) a2
        rw [oPutC, if_pos (by rw [uBk_hi (Nat.le_refl c)]; exact b3), ← uBk_s1 b1 b2] at f1 o1
        refine zBlkR (M := mX1_takeBack) (nL := 3) (rt := (Option.none : Option Jvm.ClassFile.FieldType)) (blk := bX1_takeBack_129) (T := []) 0 hX1_takeBack_129 zChks_nil rfl rfl rfl (Nat.le_of_ble_eq_true rfl) (Nat.le_of_ble_eq_true rfl) ?_
        simp (implicitDefEqProofs := false) only [bX1_takeBack_129, zRun_cons, zRun_nil, zLk, zSto, zIns, zFil, zf0, zf1, zf2, zf3, List.filter_cons, List.filter_nil, Nat.reduceAdd, Nat.reduceEqDiff, Nat.reduceLT, Nat.reduceLeDiff, Nat.reduceBEq, Nat.reduceBNe, reduceIte, if_true, if_false, Bool.false_and, Bool.true_and, Bool.and_true, Bool.and_false, Bool.not_false, Bool.not_true, Bool.false_eq_true, beq_self_eq_true, BEq.rfl, zCat1, zCat2, zCat3, zKdI, zKdL, zKdR, true_and, and_true, zSI, zSL, zSR, zu_at, and_self, and_false, false_and, lv_args, zKdZ, zKdO, zB01, zB11, Option.toList_none, Option.toList_some, List.nil_append, List.cons_append, true_or, or_true, zRow_rd, zu_rd, zo_iinc, zo_goto, zi_1, zKn_0, zN10, zN01, not_true_eq_false, not_false_eq_true, false_implies, true_implies, implies_true, eq_self, nI_1, nI_40, nI_7, vz0, vz1, zb1_e0, zb1_n0]
        exact ih I2 (hJ.trans k1) f1 o1
      · rw [if_neg hb] at hzb a8c
        refine zBlkR (M := mX1_takeBack) (nL := 3) (rt := (Option.none : Option Jvm.ClassFile.FieldType)) (blk := bX1_takeBack_69) (T := [(115, bX1_takeBack_115), (129, bX1_takeBack_129), (135, bX1_takeBack_135)]) 1 hX1_takeBack_69 (zChks_cons hX1_takeBack_115 (zChks_cons hX1_takeBack_129 (zChks_cons hX1_takeBack_135 zChks_nil))) rfl rfl rfl (Nat.le_of_ble_eq_true rfl) (Nat.le_of_ble_eq_true rfl) ?_
        simp (implicitDefEqProofs := false) only [bX1_takeBack_69, bX1_takeBack_115, bX1_takeBack_129, bX1_takeBack_135, zRun_cons, zRun_nil, zLk, zSto, zIns, zFil, zf0, zf1, zf2, zf3, List.filter_cons, List.filter_nil, Nat.reduceAdd, Nat.reduceEqDiff, Nat.reduceLT, Nat.reduceLeDiff, Nat.reduceBEq, Nat.reduceBNe, reduceIte, if_true, if_false, Bool.false_and, Bool.true_and, Bool.and_true, Bool.and_false, Bool.not_false, Bool.not_true, Bool.false_eq_true, beq_self_eq_true, BEq.rfl, zCat1, zCat2, zCat3, zKdI, zKdL, zKdR, true_and, and_true, zSI, zSL, zSR, zu_at, and_self, and_false, false_and, lv_args, zKdZ, zKdO, zB01, zB11, Option.toList_none, Option.toList_some, List.nil_append, List.cons_append, true_or, or_true, zRow_rd, zu_rd, zo_iload_n, zo_aload_n, zo_getfield, zo_icmp_ge, zo_laload, zo_lshr, zo_lconst, zo_land, zo_lcmp, zo_if_ne, zo_iaload, zo_iinc, zo_goto, zo_dup, zl_1, zi_1, zKd_2_8, zKd_1_3, zKd_1_4, zKd_1_0, zKd_1_1, zKd_2_11, sh_10, sh_19, sh_28, sh_43, rf_43_3, sh_47, rf_43_0, sh_44, rf_43_1, sh_45, zKn_s, zKn_0, zFind, f8, q4, q44, q45, d4, hv, hx, hzb, lc01, lc11, zCat2, nI_clamp (n := k) (by omega), zN10, zN01, not_true_eq_false, not_false_eq_true, false_implies, true_implies, implies_true, eq_self, nI_1, nI_40, nI_7, vz0, vz1, zb1_e0, zb1_n0]
        rw [uBk_s0 a8c.1 a8c.2] at ih
        exact ih J hJ hFJ hokJ
  · have d1 : I 44 k = 2 := by rw [d1, a1]; rfl
    have d3 := d3 a1
    refine zBlkR (M := mX1_takeBack) (nL := 3) (rt := (Option.none : Option Jvm.ClassFile.FieldType)) (blk := bX1_takeBack_0) (T := [(8, bX1_takeBack_8), (67, bX1_takeBack_67)]) 2 hX1_takeBack_0 (zChks_cons hX1_takeBack_8 (zChks_cons hX1_takeBack_67 zChks_nil)) rfl rfl rfl (Nat.le_of_ble_eq_true rfl) (Nat.le_of_ble_eq_true rfl) ?_
    simp (implicitDefEqProofs := false) only [bX1_takeBack_0, bX1_takeBack_8, bX1_takeBack_67, zRun_cons, zRun_nil, zLk, zSto, zIns, zFil, zf0, zf1, zf2, zf3, List.filter_cons, List.filter_nil, Nat.reduceAdd, Nat.reduceEqDiff, Nat.reduceLT, Nat.reduceLeDiff, Nat.reduceBEq, Nat.reduceBNe, reduceIte, if_true, if_false, Bool.false_and, Bool.true_and, Bool.and_true, Bool.and_false, Bool.not_false, Bool.not_true, Bool.false_eq_true, beq_self_eq_true, BEq.rfl, zCat1, zCat2, zCat3, zKdI, zKdL, zKdR, true_and, and_true, zSI, zSL, zSR, zu_at, and_self, and_false, false_and, lv_args, zKdZ, zKdO, zB01, zB11, Option.toList_none, Option.toList_some, List.nil_append, List.cons_append, true_or, or_true, zRow_rd, zu_rd, zo_aload_n, zo_getfield, zo_if_ne, zo_return_, zo_dup, zo_iconst, zo_isub, zo_putfield, zo_putfield_2, zo_putfield_3, zo_iaload, zo_icmp_ne, zo_laload, zo_istore_n, zi_1, zi_2, zi_0, zKd_1_4, zTy_1_4, zKd_1_0, zKd_1_1, zKd_1_3, sh_43, zcl_1, rf_43_0, sh_44, zcl_2, rf_43_1, sh_45, rf_43_3, sh_47, zcl_0, zvi_1_20, zvi_2_20, zvi_0_20, zPutC, zKn_s, zKn_0, zFind, e4, e4n, em, d1, d2, d4, hv, zCat2, nI_clamp (n := k) (by omega), zN10, zN01, not_true_eq_false, not_false_eq_true, false_implies, true_implies, implies_true, eq_self, nI_1, nI_40, nI_7, vz0, vz1, zb1_e0, zb1_n0]
    refine z_cV0 (M' := mX2_setRoute) (R' := rX2_setRoute) (i := 10) [.int (nI (uPl u k)), .long (uBt u k)] [] eX2_setRoute k1_50 (by decide +kernel : decode cX1_takeBack 50 = .ok (.invokevirtual 50, 3)) (Nat.le_of_ble_eq_true rfl) ⟨Nat.le_of_ble_eq_true rfl, Nat.le_of_ble_eq_true rfl, Nat.le_of_ble_eq_true rfl, Nat.le_of_ble_eq_true rfl, Nat.le_of_ble_eq_true rfl⟩ rfl rfl rfl sh_10 ?_
    unfold zXM
    refine zBlkR (M := mX2_setRoute) (nL := 4) (rt := (Option.none : Option Jvm.ClassFile.FieldType)) (blk := bX2_setRoute_0) (T := []) 0 hX2_setRoute_0 zChks_nil rfl rfl rfl (Nat.le_of_ble_eq_true rfl) (Nat.le_of_ble_eq_true rfl) ?_
    simp (implicitDefEqProofs := false) only [bX2_setRoute_0, zRun_cons, zRun_nil, zLk, zSto, zIns, zFil, zf0, zf1, zf2, zf3, List.filter_cons, List.filter_nil, Nat.reduceAdd, Nat.reduceEqDiff, Nat.reduceLT, Nat.reduceLeDiff, Nat.reduceBEq, Nat.reduceBNe, reduceIte, if_true, if_false, Bool.false_and, Bool.true_and, Bool.and_true, Bool.and_false, Bool.not_false, Bool.not_true, Bool.false_eq_true, beq_self_eq_true, BEq.rfl, zCat1, zCat2, zCat3, zKdI, zKdL, zKdR, true_and, and_true, zSI, zSL, zSR, zu_at, and_self, and_false, false_and, lv_args, zKdZ, zKdO, zB01, zB11, Option.toList_none, Option.toList_some, List.nil_append, List.cons_append, true_or, or_true, zRow_rd, zu_rd, zo_aload_n, zo_iload_n, zo_putfield, zo_putfield_2, zo_putfield_3, zo_lload_n, zo_getfield, zo_return_, zKd_2_12, zTy_2_12, zKd_2_14, zTy_2_14, zKd_2_10, zKd_2_13, zTy_2_13, sh_10, sh_19, sh_28, zPutC, zKn_0, zCat2, zN10, zN01, not_true_eq_false, not_false_eq_true, false_implies, true_implies, implies_true, eq_self, nI_1, nI_40, nI_7, vz0, vz1, zb1_e0, zb1_n0]
    refine zBlkR (M := mX1_takeBack) (nL := 3) (rt := (Option.none : Option Jvm.ClassFile.FieldType)) (blk := bX1_takeBack_53) (T := []) 0 hX1_takeBack_53 zChks_nil rfl rfl rfl (Nat.le_of_ble_eq_true rfl) (Nat.le_of_ble_eq_true rfl) ?_
    simp (implicitDefEqProofs := false) only [bX1_takeBack_53, zRun_cons, zRun_nil, zLk, zSto, zIns, zFil, zf0, zf1, zf2, zf3, List.filter_cons, List.filter_nil, Nat.reduceAdd, Nat.reduceEqDiff, Nat.reduceLT, Nat.reduceLeDiff, Nat.reduceBEq, Nat.reduceBNe, reduceIte, if_true, if_false, Bool.false_and, Bool.true_and, Bool.and_true, Bool.and_false, Bool.not_false, Bool.not_true, Bool.false_eq_true, beq_self_eq_true, BEq.rfl, zCat1, zCat2, zCat3, zKdI, zKdL, zKdR, true_and, and_true, zSI, zSL, zSR, zu_at, and_self, and_false, false_and, lv_args, zKdZ, zKdO, zB01, zB11, Option.toList_none, Option.toList_some, List.nil_append, List.cons_append, true_or, or_true, zRow_rd, zu_rd, zo_aload_n, zo_getfield, zo_iaload, zo_putfield, zo_putfield_2, zo_putfield_3, zo_return_, zKd_1_2, zKd_1_4, zKd_2_13, zTy_2_13, sh_43, rf_43_2, sh_46, sh_10, sh_19, sh_28, zPutC, zKn_0, hv, d3, nI_clamp (n := k) (by omega), zN10, zN01, not_true_eq_false, not_false_eq_true, false_implies, true_implies, implies_true, eq_self, nI_1, nI_40, nI_7, vz0, vz1, zb1_e0, zb1_n0]
    have eV : uBk (uV u k) V 40 = V := by rw [← uBk_up (n := 0) (by omega) (fun c _ hc => a7 c hc), uBk_0]
    rw [eV] at hQ hFk
    have kJ : zKpt SCd I (zu (zu (zu (zu I 43 4 (nI k)) 10 12 (nI (uPl u k))) 10 13 (I 10 10)) 10 13 (nI (uRf u k))) := by
      refine (((zKpt_rfl.u ?_).u ?_).u ?_).u ?_ <;> unfold SCd zSdd <;> omega
    refine hQ _ _ kJ (zKpt_rfl.u (by unfold SCdL; omega)) (zKl_fr hC (SCd_p kJ hp) ⟨?_, ?_, ?_, ⟨?_, ?_, ?_⟩, ?_⟩ hFk) (hDp _ _ ?_ ?_ ?_)
    · refine zFC_8 (by omega) (by omega) (zFC_8 (by omega) (by omega) (zFC_8 (by omega) (by omega) (zFC_row (fun j hj => ?_) g1)))
      funext c; rw [zu_at, if_neg (by omega)]
    · simp [zu_at]; exact g2
    · simp [zu_at]; rw [a6]; exact g3
    · simp [zu_at]; rw [a2]
    · simp [zu_at]; rw [a3]
    · intro j hj
      rw [zu_at, if_pos ⟨rfl, rfl⟩]; exact a5 j hj
    · rw [zu_at, if_neg (by omega)]; exact g5
    · simp [zu_at]
    · intro i i1 i2
      funext j
      simp only [zu_at]
      simp only [show i ≠ 10 by omega, show i ≠ 43 by omega, false_and, if_false]
    · funext j; rw [zu_at, if_neg (by omega)]
/-- what undo answers -/
def aUndo (u : oUd) : Int32 := if u.1 = 0 then -1 else nI (u.1 - 1)
set_option maxRecDepth 20000 in
theorem cl_undo (hC : zKl I L p P V d t kc rt) (hU : UdOk P t V kc rt u) (hD : zcDeeds I L u) (hQ0 : u.1 = 0 → Q (some (.int (-1))) (SH, I, L, RF p s r)) (hQ : ∀ k I' L', u.1 = k + 1 → zKpt SCd I I' → zKpt SCdL L L' → zKl I' L' p P (uBk (uV u k) V 40) d t (uK u k) (uR u k) → zcDeeds I' L' (uPop u) → Q (some (.int (nI k))) (SH, I', L', RF p s r)) : zXM w mX9_undo rX9_undo [.ref 0] (SH, I, L, RF p s r) Q := by
  unfold zXM
  have h20 := hU.1
  have e4 := hD.1
  by_cases h0 : u.1 = 0
  · have e4 : I 43 4 = 0 := by rw [e4, h0]; rfl
    refine zBlkR (M := mX9_undo) (nL := 1) (rt := (Option.some .int)) (blk := bX9_undo_0) (T := [(12, bX9_undo_12)]) 1 hX9_undo_0 (zChks_cons hX9_undo_12 zChks_nil) rfl rfl rfl (Nat.le_of_ble_eq_true rfl) (Nat.le_of_ble_eq_true rfl) ?_
    simp (implicitDefEqProofs := false) only [bX9_undo_0, bX9_undo_12, zRun_cons, zRun_nil, zLk, zSto, zIns, zFil, zf0, zf1, zf2, zf3, List.filter_cons, List.filter_nil, Nat.reduceAdd, Nat.reduceEqDiff, Nat.reduceLT, Nat.reduceLeDiff, Nat.reduceBEq, Nat.reduceBNe, reduceIte, if_true, if_false, Bool.false_and, Bool.true_and, Bool.and_true, Bool.and_false, Bool.not_false, Bool.not_true, Bool.false_eq_true, beq_self_eq_true, BEq.rfl, zCat1, zCat2, zCat3, zKdI, zKdL, zKdR, true_and, and_true, zSI, zSL, zSR, zu_at, and_self, and_false, false_and, lv_args, zKdZ, zKdO, zB01, zB11, Option.toList_none, Option.toList_some, List.nil_append, List.cons_append, true_or, or_true, zRow_rd, zu_rd, zo_aload_n, zo_getfield, zo_if_ne, zo_iconst, zo_ireturn, zi_m1, zKd_9_9, zKd_1_4, zKd_9_4, sh_0, rf_0_9, sh_43, rf_0_4, sh_10, zRt, zKn_s, zKn_0, zFind, e4, zN10, zN01, not_true_eq_false, not_false_eq_true, false_implies, true_implies, implies_true, eq_self, nI_1, nI_40, nI_7, vz0, vz1, zb1_e0, zb1_n0]
    exact hQ0 h0
  · obtain ⟨k, hk⟩ : ∃ k, u.1 = k + 1 := ⟨u.1 - 1, by omega⟩
    have e4n : ¬ nI u.1 = 0 := nI_ne0 (by omega) (by omega)
    refine zBlkR (M := mX9_undo) (nL := 1) (rt := (Option.some .int)) (blk := bX9_undo_0) (T := [(12, bX9_undo_12)]) 1 hX9_undo_0 (zChks_cons hX9_undo_12 zChks_nil) rfl rfl rfl (Nat.le_of_ble_eq_true rfl) (Nat.le_of_ble_eq_true rfl) ?_
    simp (implicitDefEqProofs := false) only [bX9_undo_0, bX9_undo_12, zRun_cons, zRun_nil, zLk, zSto, zIns, zFil, zf0, zf1, zf2, zf3, List.filter_cons, List.filter_nil, Nat.reduceAdd, Nat.reduceEqDiff, Nat.reduceLT, Nat.reduceLeDiff, Nat.reduceBEq, Nat.reduceBNe, reduceIte, if_true, if_false, Bool.false_and, Bool.true_and, Bool.and_true, Bool.and_false, Bool.not_false, Bool.not_true, Bool.false_eq_true, beq_self_eq_true, BEq.rfl, zCat1, zCat2, zCat3, zKdI, zKdL, zKdR, true_and, and_true, zSI, zSL, zSR, zu_at, and_self, and_false, false_and, lv_args, zKdZ, zKdO, zB01, zB11, Option.toList_none, Option.toList_some, List.nil_append, List.cons_append, true_or, or_true, zRow_rd, zu_rd, zo_aload_n, zo_getfield, zo_if_ne, zo_iconst, zo_ireturn, zi_m1, zKd_9_9, zKd_1_4, zKd_9_4, sh_0, rf_0_9, sh_43, rf_0_4, sh_10, zRt, zKn_s, zKn_0, zFind, e4, e4n, zN10, zN01, not_true_eq_false, not_false_eq_true, false_implies, true_implies, implies_true, eq_self, nI_1, nI_40, nI_7, vz0, vz1, zb1_e0, zb1_n0]
    refine z_cV0 (M' := mX1_takeBack) (R' := rX1_takeBack) (i := 43) [.ref 10] [] eX1_takeBack k9_316 (by decide +kernel : decode cX9_undo 20 = .ok (.invokevirtual 316, 3)) (Nat.le_of_ble_eq_true rfl) ⟨Nat.le_of_ble_eq_true rfl, Nat.le_of_ble_eq_true rfl, Nat.le_of_ble_eq_true rfl, Nat.le_of_ble_eq_true rfl, Nat.le_of_ble_eq_true rfl⟩ rfl rfl rfl sh_43 ?_
    refine cl_takeBack hC hU hD hk (fun I1 L1 k1 k2 c1 d1 => ?_)
    have q4 : I1 43 4 = nI k := by rw [d1.1]; show nI (u.1 - 1) = _; rw [hk]; rfl
    refine zBlkR (M := mX9_undo) (nL := 1) (rt := (Option.some .int)) (blk := bX9_undo_23) (T := []) 0 hX9_undo_23 zChks_nil rfl rfl rfl (Nat.le_of_ble_eq_true rfl) (Nat.le_of_ble_eq_true rfl) ?_
    simp (implicitDefEqProofs := false) only [bX9_undo_23, zRun_cons, zRun_nil, zLk, zSto, zIns, zFil, zf0, zf1, zf2, zf3, List.filter_cons, List.filter_nil, Nat.reduceAdd, Nat.reduceEqDiff, Nat.reduceLT, Nat.reduceLeDiff, Nat.reduceBEq, Nat.reduceBNe, reduceIte, if_true, if_false, Bool.false_and, Bool.true_and, Bool.and_true, Bool.and_false, Bool.not_false, Bool.not_true, Bool.false_eq_true, beq_self_eq_true, BEq.rfl, zCat1, zCat2, zCat3, zKdI, zKdL, zKdR, true_and, and_true, zSI, zSL, zSR, zu_at, and_self, and_false, false_and, lv_args, zKdZ, zKdO, zB01, zB11, Option.toList_none, Option.toList_some, List.nil_append, List.cons_append, true_or, or_true, zRow_rd, zu_rd, zo_aload_n, zo_getfield, zo_ireturn, zKd_9_9, zKd_1_4, sh_0, rf_0_9, sh_43, zRt, zKn_0, q4, zN10, zN01, not_true_eq_false, not_false_eq_true, false_implies, true_implies, implies_true, eq_self, nI_1, nI_40, nI_7, vz0, vz1, zb1_e0, zb1_n0]
    exact hQ k I1 L1 hk k1 k2 c1 d1
end ZU90
