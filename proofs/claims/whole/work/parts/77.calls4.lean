/-! ===== CALLS: many ===== -/
def oPutS (q c : Nat) (z : Nat × (Nat → Nat → Int32) × Nat) : Nat × (Nat → Nat → Int32) × Nat := if 0 < z.1 ∧ z.2.1 1 c = 0 then (z.1 - 1, oPutC q c z.2.1, z.2.2 + 2 ^ c) else z
def oBriS (q c : Nat) (z : Nat × (Nat → Nat → Int32) × Nat) : Nat × (Nat → Nat → Int32) × Nat := if 0 < z.1 ∧ z.2.1 1 c = 1 ∧ z.2.1 2 c = nI q then (z.1 - 1, oStack c z.2.1, z.2.2 + 2 ^ c) else z
def oPuts (q n l : Nat) (V : Nat → Nat → Int32) : Nat × (Nat → Nat → Int32) × Nat := zIter (oPutS q) n (l, V, 0)
def oBris (q n l : Nat) (V : Nat → Nat → Int32) : Nat × (Nat → Nat → Int32) × Nat := zIter (oBriS q) n (l, V, 0)
def aMany (P : oPn) (V : Nat → Nat → Int32) (d : Int64) (t : Nat) (rt : oRt) (y x wt : Int32) : Int32 := if oIn y (pNp P) = true ∧ pRun t x = true ∧ oIn wt 2 = true then (if wt = 0 then nI (oArg (fun k => oBalG P (mTold P) rt t x.toNatClampNeg ((oPuts y.toNatClampNeg (pCh P) k V).2.1, d)) (oStk V (pCh P) + 1)).1 else (oArg (fun k => oBalG P (mTold P) rt t x.toNatClampNeg ((oPuts y.toNatClampNeg (pCh P) k V).2.1, d)) (oStk V (pCh P) + 1)).2) else -2147483648
section ZA77
variable {w : zP} {Q : Option Value → zMem → Prop} {μ : zMem} {I J V V' : Nat → Nat → Int32} {L : Nat → Nat → Int64} {p s B T t kc : Nat} {r : Option Nat} {P : oPn} {m m' : oTm} {c i k q wh ch n np l : Nat} {x y till br wt wm : Int32} {S : oS} {rt rr : oRt} {d : Int64} {z : Nat × (Nat → Nat → Int32) × Nat}
theorem oPutS_0 (h : z.1 = 0) : oPutS q c z = z := by rw [oPutS, if_neg (by omega)]
theorem oPuts_0 {a : Nat} (h : (oPuts q a l V).1 = 0) : ∀ b, oPuts q (a + b) l V = oPuts q a l V
  | 0 => rfl
  | b + 1 => by
    have ih := oPuts_0 h b
    show oPutS q (a + b) (oPuts q (a + b) l V) = _
    rw [ih, oPutS_0 h]
theorem oPuts_s {a : Nat} : oPuts q (a + 1) l V = oPutS q a (oPuts q a l V) := rfl
theorem oPuts_lt : ∀ a, (oPuts q a l V).2.2 < 2 ^ a
  | 0 => by simp [oPuts, zIter]
  | a + 1 => by
    have ih := oPuts_lt a
    rw [oPuts_s, oPutS]
    split
    · show _ + 2 ^ a < _
      rw [Nat.pow_succ]; omega
    · rw [Nat.pow_succ]; omega
theorem oPuts_hi {a i c : Nat} (hc : a ≤ c) : (oPuts q a l V).2.1 i c = V i c := by
  induction a with
  | zero => rfl
  | succ a ih =>
    rw [oPuts_s, oPutS]
    split
    · show oPutC q a (oPuts q a l V).2.1 i c = _
      unfold oPutC
      split
      · simp only [zu_at, show c ≠ a by omega, and_false, if_false]
        exact ih (by omega)
      · exact ih (by omega)
    · exact ih (by omega)
theorem oOk_puts {a : Nat} (h : oOk ch np wm V) (ha : a ≤ ch) (hq : q < np) : oOk ch np wm (oPuts q a l V).2.1 := by
  induction a with
  | zero => exact h
  | succ a ih =>
    rw [oPuts_s, oPutS]
    split
    · exact oOk_put (ih (by omega)) (by omega) hq
    · exact ih (by omega)
theorem or_pow {a b : Nat} (h : b < 2 ^ a) : b ||| 2 ^ a = b + 2 ^ a := by
  have := Nat.two_pow_add_eq_or_of_lt h 1
  rw [Nat.mul_one] at this
  rw [Nat.or_comm, ← this, Nat.add_comm]
theorem zbit {a b : Nat} (h : b < 2 ^ a) (ha : a < 40) : lN b ||| ((1 : Int64) <<< ((nI a).toInt64 &&& 63)) = lN (b + 2 ^ a) := by
  have h2 : 2 ^ a < 2 ^ 64 := Nat.pow_lt_pow_right (by decide) (by omega)
  rw [show (1 : Int64) = lN 1 from rfl, wb_shl 1 (show a < 64 by omega), Nat.one_mul, wb_or (by omega) h2, or_pow h]
theorem oPuts_le : ∀ a, (oPuts q a l V).1 ≤ l
  | 0 => Nat.le_refl _
  | a + 1 => by
    have ih := oPuts_le a
    rw [oPuts_s, oPutS]
    split
    · show (oPuts q a l V).1 - 1 ≤ l; omega
    · exact ih
set_option maxRecDepth 20000 in
theorem cl_putOut (hB : zBc B) (hch : ch ≤ 40) (hq : q < 5) (hl : l < 2 ^ 31) (hF : zFC B I ch V) (hQ : ∀ I', zKpt (zFB B) I I' → zFC B I' ch (oPuts q ch l V).2.1 → Q (some (.long (lN (oPuts q ch l V).2.2))) (SH, I', L, RF p s r)) : zXM w mX2_putOut rX2_putOut [.ref B, .int (nI q), .int (nI l)] (SH, I, L, RF p s r) Q := by
  unfold zXM
  refine zBlkR (M := mX2_putOut) (nL := 7) (rt := (Option.some .long)) (blk := bX2_putOut_0) (T := []) 0 hX2_putOut_0 zChks_nil rfl rfl rfl (Nat.le_of_ble_eq_true rfl) (Nat.le_of_ble_eq_true rfl) ?_
  simp (implicitDefEqProofs := false) only [bX2_putOut_0, zRun_cons, zRun_nil, zLk, zSto, zIns, zFil, zf0, zf1, zf2, zf3, List.filter_cons, List.filter_nil, Nat.reduceAdd, Nat.reduceEqDiff, Nat.reduceLT, Nat.reduceLeDiff, Nat.reduceBEq, Nat.reduceBNe, reduceIte, if_true, if_false, Bool.false_and, Bool.true_and, Bool.and_true, Bool.and_false, Bool.not_false, Bool.not_true, Bool.false_eq_true, beq_self_eq_true, BEq.rfl, zCat1, zCat2, zCat3, zKdI, zKdL, zKdR, true_and, and_true, zSI, zSL, zSR, zu_at, and_self, and_false, false_and, lv_args, zKdZ, zKdO, zB01, zB11, Option.toList_none, Option.toList_some, List.nil_append, List.cons_append, true_or, or_true, zRow_rd, zu_rd, zo_lconst, zo_lstore_n, zo_iload_n, zo_istore, zo_iconst, zl_0, zi_0, zcl_0, zKn_0, zCat2, zN10, zN01, not_true_eq_false, not_false_eq_true, false_implies, true_implies, implies_true, eq_self, nI_1, nI_40, nI_7, vz0, vz1, zb1_e0, zb1_n0]
  refine zLoop (n := ch) (P := fun c => ∀ J, zKpt (zFB B) I J → zFC B J ch (oPuts q c l V).2.1 → zX w mX2_putOut rX2_putOut Q 0 0 8 [(0, Value.ref B), (1, Value.int (nI q)), (2, Value.int (nI l)), (3, Value.long (lN (oPuts q c l V).2.2)), (5, Value.int (nI (oPuts q c l V).1)), (6, Value.int (nI c))] [] (SH, J, L, RF p s r)) (fun c hc ih => ?_) 0 (Nat.zero_le _) I zKpt_rfl hF
  intro J hJ hFJ
  have hle := oPuts_le (q := q) (l := l) (V := V) c
  have hlt := oPuts_lt (q := q) (l := l) (V := V) c
  have f8 := hFJ.2.1
  by_cases hcc : c = ch
  · subst hcc
    refine zBlkR (M := mX2_putOut) (nL := 7) (rt := (Option.some .long)) (blk := bX2_putOut_8) (T := [(49, bX2_putOut_49), (55, bX2_putOut_55)]) 1 hX2_putOut_8 (zChks_cons hX2_putOut_49 (zChks_cons hX2_putOut_55 zChks_nil)) rfl rfl rfl (Nat.le_of_ble_eq_true rfl) (Nat.le_of_ble_eq_true rfl) ?_
    simp (implicitDefEqProofs := false) only [bX2_putOut_8, bX2_putOut_49, bX2_putOut_55, zRun_cons, zRun_nil, zLk, zSto, zIns, zFil, zf0, zf1, zf2, zf3, List.filter_cons, List.filter_nil, Nat.reduceAdd, Nat.reduceEqDiff, Nat.reduceLT, Nat.reduceLeDiff, Nat.reduceBEq, Nat.reduceBNe, reduceIte, if_true, if_false, Bool.false_and, Bool.true_and, Bool.and_true, Bool.and_false, Bool.not_false, Bool.not_true, Bool.false_eq_true, beq_self_eq_true, BEq.rfl, zCat1, zCat2, zCat3, zKdI, zKdL, zKdR, true_and, and_true, zSI, zSL, zSR, zu_at, and_self, and_false, false_and, lv_args, zKdZ, zKdO, zB01, zB11, Option.toList_none, Option.toList_some, List.nil_append, List.cons_append, true_or, or_true, zRow_rd, zu_rd, zo_iload, zo_aload_n, zo_getfield, zo_icmp_ge, zo_if_le, zo_iaload, zo_if_ne, zo_iload_n, zo_iinc, zo_goto, zo_lload_n, zo_lreturn, zi_1, zKd_2_8, zKd_2_0, sh_10, sh_19, sh_28, rf_10_0, sh_11, rf_19_0, sh_20, rf_28_0, sh_29, zKn_s, zKn_0, zFind, (fsh_0 hB), (fsh_1 hB), (fsh_2 hB), (fsh_3 hB), (fsh_4 hB), (fsh_5 hB), (fsh_6 hB), (fsh_7 hB), (fsh_8 hB), (frf_0 hB), (frf_1 hB), (frf_2 hB), (frf_3 hB), (frf_4 hB), (frf_5 hB), (frf_6 hB), (frf_7 hB), Nat.add_left_cancel_iff, Nat.left_eq_add, Nat.add_eq_left, f8, zCat2, zle_nat (a := c) (b := c) (by omega) (by omega), Nat.le_refl, zN10, zN01, not_true_eq_false, not_false_eq_true, false_implies, true_implies, implies_true, eq_self, nI_1, nI_40, nI_7, vz0, vz1, zb1_e0, zb1_n0]
    exact hQ J hJ hFJ
  have hx : (nI ch ≤ nI c) = False := eq_false (by rw [zle_nat (by omega) (by omega)]; omega)
  by_cases hz : (oPuts q c l V).1 = 0
  · have hz2 : (nI (oPuts q c l V).1 ≤ 0) = True := eq_true (by rw [hz]; decide)
    refine zBlkR (M := mX2_putOut) (nL := 7) (rt := (Option.some .long)) (blk := bX2_putOut_8) (T := [(49, bX2_putOut_49), (55, bX2_putOut_55)]) 1 hX2_putOut_8 (zChks_cons hX2_putOut_49 (zChks_cons hX2_putOut_55 zChks_nil)) rfl rfl rfl (Nat.le_of_ble_eq_true rfl) (Nat.le_of_ble_eq_true rfl) ?_
    simp (implicitDefEqProofs := false) only [bX2_putOut_8, bX2_putOut_49, bX2_putOut_55, zRun_cons, zRun_nil, zLk, zSto, zIns, zFil, zf0, zf1, zf2, zf3, List.filter_cons, List.filter_nil, Nat.reduceAdd, Nat.reduceEqDiff, Nat.reduceLT, Nat.reduceLeDiff, Nat.reduceBEq, Nat.reduceBNe, reduceIte, if_true, if_false, Bool.false_and, Bool.true_and, Bool.and_true, Bool.and_false, Bool.not_false, Bool.not_true, Bool.false_eq_true, beq_self_eq_true, BEq.rfl, zCat1, zCat2, zCat3, zKdI, zKdL, zKdR, true_and, and_true, zSI, zSL, zSR, zu_at, and_self, and_false, false_and, lv_args, zKdZ, zKdO, zB01, zB11, Option.toList_none, Option.toList_some, List.nil_append, List.cons_append, true_or, or_true, zRow_rd, zu_rd, zo_iload, zo_aload_n, zo_getfield, zo_icmp_ge, zo_if_le, zo_iaload, zo_if_ne, zo_iload_n, zo_iinc, zo_goto, zo_lload_n, zo_lreturn, zi_1, zKd_2_8, zKd_2_0, sh_10, sh_19, sh_28, rf_10_0, sh_11, rf_19_0, sh_20, rf_28_0, sh_29, zKn_s, zKn_0, zFind, (fsh_0 hB), (fsh_1 hB), (fsh_2 hB), (fsh_3 hB), (fsh_4 hB), (fsh_5 hB), (fsh_6 hB), (fsh_7 hB), (fsh_8 hB), (frf_0 hB), (frf_1 hB), (frf_2 hB), (frf_3 hB), (frf_4 hB), (frf_5 hB), (frf_6 hB), (frf_7 hB), Nat.add_left_cancel_iff, Nat.left_eq_add, Nat.add_eq_left, f8, hx, hz2, zCat2, zN10, zN01, not_true_eq_false, not_false_eq_true, false_implies, true_implies, implies_true, eq_self, nI_1, nI_40, nI_7, vz0, vz1, zb1_e0, zb1_n0]
    have := oPuts_0 hz (ch - c)
    rw [show c + (ch - c) = ch by omega] at this
    rw [this] at hQ
    exact hQ J hJ hFJ
  have hz2 : (nI (oPuts q c l V).1 ≤ 0) = False := eq_false (nI_nle (by omega) (by omega))
  have hc4 : c < 40 := by omega
  have hv : vp_in (nI c) 40 := zvn (by omega) (by omega)
  have ih := ih (by omega)
  rw [oPuts_s] at ih
  have v1 := hFJ.v1 hc4
  generalize hzE : oPuts q c l V = z at *
  refine zBlkR (M := mX2_putOut) (nL := 7) (rt := (Option.some .long)) (blk := bX2_putOut_8) (T := [(49, bX2_putOut_49), (55, bX2_putOut_55)]) 1 hX2_putOut_8 (zChks_cons hX2_putOut_49 (zChks_cons hX2_putOut_55 zChks_nil)) rfl rfl rfl (Nat.le_of_ble_eq_true rfl) (Nat.le_of_ble_eq_true rfl) ?_
  simp (implicitDefEqProofs := false) only [bX2_putOut_8, bX2_putOut_49, bX2_putOut_55, zRun_cons, zRun_nil, zLk, zSto, zIns, zFil, zf0, zf1, zf2, zf3, List.filter_cons, List.filter_nil, Nat.reduceAdd, Nat.reduceEqDiff, Nat.reduceLT, Nat.reduceLeDiff, Nat.reduceBEq, Nat.reduceBNe, reduceIte, if_true, if_false, Bool.false_and, Bool.true_and, Bool.and_true, Bool.and_false, Bool.not_false, Bool.not_true, Bool.false_eq_true, beq_self_eq_true, BEq.rfl, zCat1, zCat2, zCat3, zKdI, zKdL, zKdR, true_and, and_true, zSI, zSL, zSR, zu_at, and_self, and_false, false_and, lv_args, zKdZ, zKdO, zB01, zB11, Option.toList_none, Option.toList_some, List.nil_append, List.cons_append, true_or, or_true, zRow_rd, zu_rd, zo_iload, zo_aload_n, zo_getfield, zo_icmp_ge, zo_if_le, zo_iaload, zo_if_ne, zo_iload_n, zo_iinc, zo_goto, zo_lload_n, zo_lreturn, zi_1, zKd_2_8, zKd_2_0, sh_10, sh_19, sh_28, rf_10_0, sh_11, rf_19_0, sh_20, rf_28_0, sh_29, zKn_s, zKn_0, zFind, (fsh_0 hB), (fsh_1 hB), (fsh_2 hB), (fsh_3 hB), (fsh_4 hB), (fsh_5 hB), (fsh_6 hB), (fsh_7 hB), (fsh_8 hB), (frf_0 hB), (frf_1 hB), (frf_2 hB), (frf_3 hB), (frf_4 hB), (frf_5 hB), (frf_6 hB), (frf_7 hB), Nat.add_left_cancel_iff, Nat.left_eq_add, Nat.add_eq_left, f8, hx, hz2, hv, v1, zCat2, nI_clamp (n := c) (by omega), zN10, zN01, not_true_eq_false, not_false_eq_true, false_implies, true_implies, implies_true, eq_self, nI_1, nI_40, nI_7, vz0, vz1, zb1_e0, zb1_n0]
  refine ⟨fun h => ?_, fun h => ?_⟩
  · rw [oPutS, if_neg (fun g => h g.2)] at ih
    exact ih J hJ hFJ
  · refine z_cV0 (M' := mX2_setOut) (R' := rX2_setOut) (i := B) [.int (nI c), .int (nI q)] [] eX2_setOut k2_84 (by decide +kernel : decode cX2_putOut 36 = .ok (.invokevirtual 84, 3)) (Nat.le_of_ble_eq_true rfl) ⟨Nat.le_of_ble_eq_true rfl, Nat.le_of_ble_eq_true rfl, Nat.le_of_ble_eq_true rfl, Nat.le_of_ble_eq_true rfl, Nat.le_of_ble_eq_true rfl⟩ rfl rfl rfl (fsh_0 hB) ?_
    refine cl_setOut hB (by omega) hch hq hFJ (fun I1 k1 f1 => ?_)
    rw [oPutS, if_pos ⟨by omega, h⟩] at ih
    have x1 : nI z.1 + -1 = nI (z.1 - 1) := by
      have : z.1 = (z.1 - 1) + 1 := by omega
      rw [this, pk_m1]; simp
    refine zBlkR (M := mX2_putOut) (nL := 7) (rt := (Option.some .long)) (blk := bX2_putOut_39) (T := []) 0 hX2_putOut_39 zChks_nil rfl rfl rfl (Nat.le_of_ble_eq_true rfl) (Nat.le_of_ble_eq_true rfl) ?_
    simp (implicitDefEqProofs := false) only [bX2_putOut_39, zRun_cons, zRun_nil, zLk, zSto, zIns, zFil, zf0, zf1, zf2, zf3, List.filter_cons, List.filter_nil, Nat.reduceAdd, Nat.reduceEqDiff, Nat.reduceLT, Nat.reduceLeDiff, Nat.reduceBEq, Nat.reduceBNe, reduceIte, if_true, if_false, Bool.false_and, Bool.true_and, Bool.and_true, Bool.and_false, Bool.not_false, Bool.not_true, Bool.false_eq_true, beq_self_eq_true, BEq.rfl, zCat1, zCat2, zCat3, zKdI, zKdL, zKdR, true_and, and_true, zSI, zSL, zSR, zu_at, and_self, and_false, false_and, lv_args, zKdZ, zKdO, zB01, zB11, Option.toList_none, Option.toList_some, List.nil_append, List.cons_append, true_or, or_true, zRow_rd, zu_rd, zo_lload_n, zo_lconst, zo_iload, zo_lshl, zo_lor, zo_lstore_n, zo_iinc, zo_goto, zl_1, zi_m1, zi_1, zKn_0, x1, zCat2, zbit hlt (by omega), zN10, zN01, not_true_eq_false, not_false_eq_true, false_implies, true_implies, implies_true, eq_self, nI_1, nI_40, nI_7, vz0, vz1, zb1_e0, zb1_n0]
    exact ih I1 (hJ.trans k1) f1
/-- the chairs of a trial changed -/
theorem zTr_V (hT : zTr I L p P m V d t rt br) (h : zKpt (zFB 19) I J) (hF : zFC 19 J (pCh P) V') (hok : oOk (pCh P) (pNp P) (pR P 102 8) V') : zTr J L p P m V' d t rt br := by
  obtain ⟨⟨a1, a2, a3, a4, a5, a6, a7, a8, a9⟩, b1, b2, b3, b4⟩ := hT
  have hB : zBc 19 := Or.inr (Or.inl rfl)
  have hp := zPc_gt a2
  refine ⟨⟨a1, a2, a3, a4, zClsP_row (fun j => zFB_out hB h (by omega)) a5, by rw [zFB_out hB h (by omega)]; exact a6, hF, by rw [zFB_B h (by decide)]; exact a8, hok⟩, ?_, b2, by rw [zFB_out hB h (by omega)]; exact b3, b4⟩
  unfold zRtC
  rw [zFB_B h (by decide), zFB_B h (by decide)]
  exact b1
theorem oStk_le : oStk V ch ≤ ch := zCnt_le _ _
set_option maxRecDepth 20000 in
theorem cl_many (hw : zOk w) (hC : zKl I L p P V d t kc rt) (hQ : ∀ I' L', zKpt SCt I I' → zKpt SCtL L L' → Q (some (.int (aMany P V d t rt y x wt))) (SH, I', L', RF p s r)) : zXM w mX9_many rX9_many [.ref 0, .int y, .int x, .int wt] (SH, I, L, RF p s r) Q := by
  unfold zXM
  have hp := hC.1
  have h9 := hC.2.2.2.2.2.2.2.1
  have hch := hC.2.1.1
  have hnp := hC.2.1.2.1
  have hok := hC.2.2.2.2.2.1
  refine zBlkR (M := mX9_many) (nL := 8) (rt := (Option.some .int)) (blk := bX9_many_0) (T := []) 0 hX9_many_0 zChks_nil rfl rfl rfl (Nat.le_of_ble_eq_true rfl) (Nat.le_of_ble_eq_true rfl) ?_
  simp (implicitDefEqProofs := false) only [bX9_many_0, zRun_cons, zRun_nil, zLk, zSto, zIns, zFil, zf0, zf1, zf2, zf3, List.filter_cons, List.filter_nil, Nat.reduceAdd, Nat.reduceEqDiff, Nat.reduceLT, Nat.reduceLeDiff, Nat.reduceBEq, Nat.reduceBNe, reduceIte, if_true, if_false, Bool.false_and, Bool.true_and, Bool.and_true, Bool.and_false, Bool.not_false, Bool.not_true, Bool.false_eq_true, beq_self_eq_true, BEq.rfl, zCat1, zCat2, zCat3, zKdI, zKdL, zKdR, true_and, and_true, zSI, zSL, zSR, zu_at, and_self, and_false, false_and, lv_args, zKdZ, zKdO, zB01, zB11, Option.toList_none, Option.toList_some, List.nil_append, List.cons_append, true_or, or_true, zRow_rd, zu_rd, zo_aload_n, zo_getfield, zo_iload_n, zKd_9_12, sh_0, rf_0_12, sh_55, zKn_0, (psh_0 hp), (psh_1 hp), (psh_2 hp), (psh_3 hp), (psh_4 hp), (psh_5 hp), (psh_6 hp), (psh_7 hp), (psh_8 hp), (psh_9 hp), (psh_10 hp), (psh_11 hp), (psh_12 hp), (psh_13 hp), (psh_14 hp), (psh_15 hp), (prf_1 hp), (prf_2 hp), (prf_3 hp), (prf_4 hp), (prf_6 hp), (prf_7 hp), (prf_8 hp), (prf_10 hp), (prf_11 hp), (prf_12 hp), (prf_13 hp), (prf_15 hp), (prf_17 hp), (prf_18 hp), (prf_19 hp), Nat.add_left_cancel_iff, Nat.left_eq_add, Nat.add_eq_left, zN10, zN01, not_true_eq_false, not_false_eq_true, false_implies, true_implies, implies_true, eq_self, nI_1, nI_40, nI_7, vz0, vz1, zb1_e0, zb1_n0]
  refine z_cV0 (M' := mX4_hasPlace) (R' := rX4_hasPlace) (i := p) [.int y] [] eX4_hasPlace k9_157 (by decide +kernel : decode cX9_many 5 = .ok (.invokevirtual 157, 3)) (Nat.le_of_ble_eq_true rfl) ⟨Nat.le_of_ble_eq_true rfl, Nat.le_of_ble_eq_true rfl, Nat.le_of_ble_eq_true rfl, Nat.le_of_ble_eq_true rfl, Nat.le_of_ble_eq_true rfl⟩ rfl rfl rfl (psh_0 hp) ?_
  refine cl_hasPlace hp hC.2.2.2.1.1.1 ?_
  unfold aMany at hQ
  have bad : ¬ (oIn y (pNp P) = true ∧ pRun t x = true ∧ oIn wt 2 = true) → Q (some (.int (-2147483648))) (SH, I, L, RF p s r) := by
    intro h
    rw [if_neg h] at hQ
    exact hQ I L zKpt_rfl zKpt_rfl
  cases hy : oIn y (pNp P) with
  | false =>
    refine zBlkR (M := mX9_many) (nL := 8) (rt := (Option.some .int)) (blk := bX9_many_8) (T := [(28, bX9_many_28)]) 1 hX9_many_8 (zChks_cons hX9_many_28 zChks_nil) rfl rfl rfl (Nat.le_of_ble_eq_true rfl) (Nat.le_of_ble_eq_true rfl) ?_
    simp (implicitDefEqProofs := false) only [bX9_many_8, bX9_many_28, zRun_cons, zRun_nil, zLk, zSto, zIns, zFil, zf0, zf1, zf2, zf3, List.filter_cons, List.filter_nil, Nat.reduceAdd, Nat.reduceEqDiff, Nat.reduceLT, Nat.reduceLeDiff, Nat.reduceBEq, Nat.reduceBNe, reduceIte, if_true, if_false, Bool.false_and, Bool.true_and, Bool.and_true, Bool.and_false, Bool.not_false, Bool.not_true, Bool.false_eq_true, beq_self_eq_true, BEq.rfl, zCat1, zCat2, zCat3, zKdI, zKdL, zKdR, true_and, and_true, zSI, zSL, zSR, zu_at, and_self, and_false, false_and, lv_args, zKdZ, zKdO, zB01, zB11, Option.toList_none, Option.toList_some, List.nil_append, List.cons_append, true_or, or_true, zRow_rd, zu_rd, zo_if_eq, zo_aload_n, zo_iload_n, zo_ldc, zo_ireturn, zi_m2147483648, zRt, zKn_s, zKn_0, zFind, zb1_f, zN10, zN01, not_true_eq_false, not_false_eq_true, false_implies, true_implies, implies_true, eq_self, nI_1, nI_40, nI_7, vz0, vz1, zb1_e0, zb1_n0]
    exact bad (by rw [hy]; simp)
  | true =>
  refine zBlkR (M := mX9_many) (nL := 8) (rt := (Option.some .int)) (blk := bX9_many_8) (T := [(28, bX9_many_28)]) 1 hX9_many_8 (zChks_cons hX9_many_28 zChks_nil) rfl rfl rfl (Nat.le_of_ble_eq_true rfl) (Nat.le_of_ble_eq_true rfl) ?_
  simp (implicitDefEqProofs := false) only [bX9_many_8, bX9_many_28, zRun_cons, zRun_nil, zLk, zSto, zIns, zFil, zf0, zf1, zf2, zf3, List.filter_cons, List.filter_nil, Nat.reduceAdd, Nat.reduceEqDiff, Nat.reduceLT, Nat.reduceLeDiff, Nat.reduceBEq, Nat.reduceBNe, reduceIte, if_true, if_false, Bool.false_and, Bool.true_and, Bool.and_true, Bool.and_false, Bool.not_false, Bool.not_true, Bool.false_eq_true, beq_self_eq_true, BEq.rfl, zCat1, zCat2, zCat3, zKdI, zKdL, zKdR, true_and, and_true, zSI, zSL, zSR, zu_at, and_self, and_false, false_and, lv_args, zKdZ, zKdO, zB01, zB11, Option.toList_none, Option.toList_some, List.nil_append, List.cons_append, true_or, or_true, zRow_rd, zu_rd, zo_if_eq, zo_aload_n, zo_iload_n, zo_ldc, zo_ireturn, zi_m2147483648, zRt, zKn_s, zKn_0, zFind, zb1_t, zN10, zN01, not_true_eq_false, not_false_eq_true, false_implies, true_implies, implies_true, eq_self, nI_1, nI_40, nI_7, vz0, vz1, zb1_e0, zb1_n0]
  refine z_cV0 (M' := mX9_hasRun) (R' := rX9_hasRun) (i := 0) [.int x] [] eX9_hasRun k9_217 (by decide +kernel : decode cX9_many 13 = .ok (.invokevirtual 217, 3)) (Nat.le_of_ble_eq_true rfl) ⟨Nat.le_of_ble_eq_true rfl, Nat.le_of_ble_eq_true rfl, Nat.le_of_ble_eq_true rfl, Nat.le_of_ble_eq_true rfl, Nat.le_of_ble_eq_true rfl⟩ rfl rfl rfl sh_0 ?_
  refine cl_hasRun hC.2.2.2.2.1.2.1 h9 ?_
  cases hr : pRun t x with
  | false =>
    refine zBlkR (M := mX9_many) (nL := 8) (rt := (Option.some .int)) (blk := bX9_many_16) (T := [(28, bX9_many_28), (31, bX9_many_31)]) 1 hX9_many_16 (zChks_cons hX9_many_28 (zChks_cons hX9_many_31 zChks_nil)) rfl rfl rfl (Nat.le_of_ble_eq_true rfl) (Nat.le_of_ble_eq_true rfl) ?_
    simp (implicitDefEqProofs := false) only [bX9_many_16, bX9_many_28, bX9_many_31, zRun_cons, zRun_nil, zLk, zSto, zIns, zFil, zf0, zf1, zf2, zf3, List.filter_cons, List.filter_nil, Nat.reduceAdd, Nat.reduceEqDiff, Nat.reduceLT, Nat.reduceLeDiff, Nat.reduceBEq, Nat.reduceBNe, reduceIte, if_true, if_false, Bool.false_and, Bool.true_and, Bool.and_true, Bool.and_false, Bool.not_false, Bool.not_true, Bool.false_eq_true, beq_self_eq_true, BEq.rfl, zCat1, zCat2, zCat3, zKdI, zKdL, zKdR, true_and, and_true, zSI, zSL, zSR, zu_at, and_self, and_false, false_and, lv_args, zKdZ, zKdO, zB01, zB11, Option.toList_none, Option.toList_some, List.nil_append, List.cons_append, true_or, or_true, zRow_rd, zu_rd, zo_if_eq, zo_iload_n, zo_if_lt, zo_iconst, zo_icmp_le, zo_ldc, zo_ireturn, zo_istore, zi_1, zi_m2147483648, zi_0, zcl_1, zcl_0, zRt, zKn_s, zKn_0, zFind, zb1_f, zN10, zN01, not_true_eq_false, not_false_eq_true, false_implies, true_implies, implies_true, eq_self, nI_1, nI_40, nI_7, vz0, vz1, zb1_e0, zb1_n0]
    exact bad (by rw [hr]; simp)
  | true =>
    refine zBlkR (M := mX9_many) (nL := 8) (rt := (Option.some .int)) (blk := bX9_many_16) (T := [(28, bX9_many_28), (31, bX9_many_31)]) 1 hX9_many_16 (zChks_cons hX9_many_28 (zChks_cons hX9_many_31 zChks_nil)) rfl rfl rfl (Nat.le_of_ble_eq_true rfl) (Nat.le_of_ble_eq_true rfl) ?_
    simp (implicitDefEqProofs := false) only [bX9_many_16, bX9_many_28, bX9_many_31, zRun_cons, zRun_nil, zLk, zSto, zIns, zFil, zf0, zf1, zf2, zf3, List.filter_cons, List.filter_nil, Nat.reduceAdd, Nat.reduceEqDiff, Nat.reduceLT, Nat.reduceLeDiff, Nat.reduceBEq, Nat.reduceBNe, reduceIte, if_true, if_false, Bool.false_and, Bool.true_and, Bool.and_true, Bool.and_false, Bool.not_false, Bool.not_true, Bool.false_eq_true, beq_self_eq_true, BEq.rfl, zCat1, zCat2, zCat3, zKdI, zKdL, zKdR, true_and, and_true, zSI, zSL, zSR, zu_at, and_self, and_false, false_and, lv_args, zKdZ, zKdO, zB01, zB11, Option.toList_none, Option.toList_some, List.nil_append, List.cons_append, true_or, or_true, zRow_rd, zu_rd, zo_if_eq, zo_iload_n, zo_if_lt, zo_iconst, zo_icmp_le, zo_ldc, zo_ireturn, zo_istore, zi_1, zi_m2147483648, zi_0, zcl_1, zcl_0, zRt, zKn_s, zKn_0, zFind, zb1_t, zN10, zN01, not_true_eq_false, not_false_eq_true, false_implies, true_implies, implies_true, eq_self, nI_1, nI_40, nI_7, vz0, vz1, zb1_e0, zb1_n0]
    refine ⟨fun h => bad (by rw [oIn2.mp (Or.inl h)]; simp), fun h => ⟨fun h2 => ?_, fun h2 => bad (by rw [oIn2.mp (Or.inr h2)]; simp)⟩⟩
    have hin : oIn wt 2 = true := by
      cases hi : oIn wt 2 with
      | true => rfl
      | false => exact absurd (oIn2.mpr hi) (fun q => q.elim h (fun g => g h2))
    rw [if_pos ⟨hy, hr, hin⟩] at hQ
    obtain ⟨n, e, hn⟩ := pRun_t hr h9
    obtain ⟨q, hq, e2⟩ := oIn_t hy (by omega)
    subst e e2
    rw [nI_clamp (by omega), nI_clamp (by omega)] at hQ
    generalize hf : (fun k => oBalG P (mTold P) rt t n ((oPuts q (pCh P) k V).2.1, d)) = f at hQ
    have hst := oStk_le (V := V) (ch := pCh P)
    refine zLoop (n := oStk V (pCh P) + 1) (P := fun k => ∀ J K, zKpt SCt I J → zKpt SCtL L K → zX w mX9_many rX9_many Q 0 0 41 [(0, Value.ref 0), (1, Value.int (nI q)), (2, Value.int (nI n)), (3, Value.int wt), (4, Value.int (oArg f k).2), (5, Value.int (nI (oArg f k).1)), (6, Value.int (nI k))] [] (SH, J, K, RF p s r)) (fun k hk ih => ?_) 0 (Nat.zero_le _) I L zKpt_rfl zKpt_rfl
    intro J K hJ hK
    have hCJ := zKl_t hJ hK hC
    have e9 := hCJ.2.2.2.2.1.1.2.2.2.2
    by_cases hke : k = oStk V (pCh P) + 1
    · have hx : (nI (oStk V (pCh P)) < nI k) = True := eq_true (by rw [zlt_nat (by omega) (by omega)]; omega)
      rw [← hke] at hQ
      refine zBlkR (M := mX9_many) (nL := 8) (rt := (Option.some .int)) (blk := bX9_many_41) (T := [(96, bX9_many_96), (105, bX9_many_105), (107, bX9_many_107)]) 2 hX9_many_41 (zChks_cons hX9_many_96 (zChks_cons hX9_many_105 (zChks_cons hX9_many_107 zChks_nil))) rfl rfl rfl (Nat.le_of_ble_eq_true rfl) (Nat.le_of_ble_eq_true rfl) ?_
      simp (implicitDefEqProofs := false) only [bX9_many_41, bX9_many_96, bX9_many_105, bX9_many_107, zRun_cons, zRun_nil, zLk, zSto, zIns, zFil, zf0, zf1, zf2, zf3, List.filter_cons, List.filter_nil, Nat.reduceAdd, Nat.reduceEqDiff, Nat.reduceLT, Nat.reduceLeDiff, Nat.reduceBEq, Nat.reduceBNe, reduceIte, if_true, if_false, Bool.false_and, Bool.true_and, Bool.and_true, Bool.and_false, Bool.not_false, Bool.not_true, Bool.false_eq_true, beq_self_eq_true, BEq.rfl, zCat1, zCat2, zCat3, zKdI, zKdL, zKdR, true_and, and_true, zSI, zSL, zSR, zu_at, and_self, and_false, false_and, lv_args, zKdZ, zKdO, zB01, zB11, Option.toList_none, Option.toList_some, List.nil_append, List.cons_append, true_or, or_true, zRow_rd, zu_rd, zo_iload, zo_aload_n, zo_getfield, zo_icmp_gt, zo_iload_n, zo_if_ne, zo_goto, zo_ireturn, zKd_9_4, zKd_2_9, sh_0, rf_0_4, sh_10, sh_19, sh_28, zRt, zKn_s, zKn_0, zFind, e9, hx, zN10, zN01, not_true_eq_false, not_false_eq_true, false_implies, true_implies, implies_true, eq_self, nI_1, nI_40, nI_7, vz0, vz1, zb1_e0, zb1_n0]
      refine ⟨fun h => ?_, fun h => ?_⟩
      · have hQ := hQ J K hJ hK; rw [if_neg h] at hQ; exact hQ
      · have hQ := hQ J K hJ hK; rw [if_pos h] at hQ; exact hQ
    · have hx : (nI (oStk V (pCh P)) < nI k) = False := eq_false (by rw [zlt_nat (by omega) (by omega)]; omega)
      refine zBlkR (M := mX9_many) (nL := 8) (rt := (Option.some .int)) (blk := bX9_many_41) (T := [(96, bX9_many_96), (105, bX9_many_105), (107, bX9_many_107)]) 2 hX9_many_41 (zChks_cons hX9_many_96 (zChks_cons hX9_many_105 (zChks_cons hX9_many_107 zChks_nil))) rfl rfl rfl (Nat.le_of_ble_eq_true rfl) (Nat.le_of_ble_eq_true rfl) ?_
      simp (implicitDefEqProofs := false) only [bX9_many_41, bX9_many_96, bX9_many_105, bX9_many_107, zRun_cons, zRun_nil, zLk, zSto, zIns, zFil, zf0, zf1, zf2, zf3, List.filter_cons, List.filter_nil, Nat.reduceAdd, Nat.reduceEqDiff, Nat.reduceLT, Nat.reduceLeDiff, Nat.reduceBEq, Nat.reduceBNe, reduceIte, if_true, if_false, Bool.false_and, Bool.true_and, Bool.and_true, Bool.and_false, Bool.not_false, Bool.not_true, Bool.false_eq_true, beq_self_eq_true, BEq.rfl, zCat1, zCat2, zCat3, zKdI, zKdL, zKdR, true_and, and_true, zSI, zSL, zSR, zu_at, and_self, and_false, false_and, lv_args, zKdZ, zKdO, zB01, zB11, Option.toList_none, Option.toList_some, List.nil_append, List.cons_append, true_or, or_true, zRow_rd, zu_rd, zo_iload, zo_aload_n, zo_getfield, zo_icmp_gt, zo_iload_n, zo_if_ne, zo_goto, zo_ireturn, zKd_9_4, zKd_2_9, sh_0, rf_0_4, sh_10, sh_19, sh_28, zRt, zKn_s, zKn_0, zFind, e9, hx, zN10, zN01, not_true_eq_false, not_false_eq_true, false_implies, true_implies, implies_true, eq_self, nI_1, nI_40, nI_7, vz0, vz1, zb1_e0, zb1_n0]
      refine z_cV0 (M' := mX9_prepare) (R' := rX9_prepare) (i := 0) [] [] eX9_prepare k9_233 (by decide +kernel : decode cX9_many 54 = .ok (.invokevirtual 233, 3)) (Nat.le_of_ble_eq_true rfl) ⟨Nat.le_of_ble_eq_true rfl, Nat.le_of_ble_eq_true rfl, Nat.le_of_ble_eq_true rfl, Nat.le_of_ble_eq_true rfl, Nat.le_of_ble_eq_true rfl⟩ rfl rfl rfl sh_0 ?_
      refine cl_prepare hCJ (fun I1 L1 k1 k2 hT => ?_)
      refine zBlkR (M := mX9_many) (nL := 8) (rt := (Option.some .int)) (blk := bX9_many_57) (T := []) 0 hX9_many_57 zChks_nil rfl rfl rfl (Nat.le_of_ble_eq_true rfl) (Nat.le_of_ble_eq_true rfl) ?_
      simp (implicitDefEqProofs := false) only [bX9_many_57, zRun_cons, zRun_nil, zLk, zSto, zIns, zFil, zf0, zf1, zf2, zf3, List.filter_cons, List.filter_nil, Nat.reduceAdd, Nat.reduceEqDiff, Nat.reduceLT, Nat.reduceLeDiff, Nat.reduceBEq, Nat.reduceBNe, reduceIte, if_true, if_false, Bool.false_and, Bool.true_and, Bool.and_true, Bool.and_false, Bool.not_false, Bool.not_true, Bool.false_eq_true, beq_self_eq_true, BEq.rfl, zCat1, zCat2, zCat3, zKdI, zKdL, zKdR, true_and, and_true, zSI, zSL, zSR, zu_at, and_self, and_false, false_and, lv_args, zKdZ, zKdO, zB01, zB11, Option.toList_none, Option.toList_some, List.nil_append, List.cons_append, true_or, or_true, zRow_rd, zu_rd, zo_aload_n, zo_getfield, zo_iload_n, zo_iload, zKd_9_5, sh_0, rf_0_5, sh_19, zKn_0, zN10, zN01, not_true_eq_false, not_false_eq_true, false_implies, true_implies, implies_true, eq_self, nI_1, nI_40, nI_7, vz0, vz1, zb1_e0, zb1_n0]
      refine z_cV0 (M' := mX2_putOut) (R' := rX2_putOut) (i := 19) [.int (nI q), .int (nI k)] [] eX2_putOut k9_200 (by decide +kernel : decode cX9_many 64 = .ok (.invokevirtual 200, 3)) (Nat.le_of_ble_eq_true rfl) ⟨Nat.le_of_ble_eq_true rfl, Nat.le_of_ble_eq_true rfl, Nat.le_of_ble_eq_true rfl, Nat.le_of_ble_eq_true rfl, Nat.le_of_ble_eq_true rfl⟩ rfl rfl rfl sh_19 ?_
      refine cl_putOut (Or.inr (Or.inl rfl)) hch (by omega) (by omega) hT.1.2.2.2.2.2.2.1 (fun I2 k3 f2 => ?_)
      have hT2 := zTr_V hT k3 f2 (oOk_puts hok (Nat.le_refl _) hq)
      refine zBlkR (M := mX9_many) (nL := 8) (rt := (Option.some .int)) (blk := bX9_many_67) (T := []) 0 hX9_many_67 zChks_nil rfl rfl rfl (Nat.le_of_ble_eq_true rfl) (Nat.le_of_ble_eq_true rfl) ?_
      simp (implicitDefEqProofs := false) only [bX9_many_67, zRun_cons, zRun_nil, zLk, zSto, zIns, zFil, zf0, zf1, zf2, zf3, List.filter_cons, List.filter_nil, Nat.reduceAdd, Nat.reduceEqDiff, Nat.reduceLT, Nat.reduceLeDiff, Nat.reduceBEq, Nat.reduceBNe, reduceIte, if_true, if_false, Bool.false_and, Bool.true_and, Bool.and_true, Bool.and_false, Bool.not_false, Bool.not_true, Bool.false_eq_true, beq_self_eq_true, BEq.rfl, zCat1, zCat2, zCat3, zKdI, zKdL, zKdR, true_and, and_true, zSI, zSL, zSR, zu_at, and_self, and_false, false_and, lv_args, zKdZ, zKdO, zB01, zB11, Option.toList_none, Option.toList_some, List.nil_append, List.cons_append, true_or, or_true, zRow_rd, zu_rd, zo_pop2, zo_aload_n, zo_iload_n, zKn_0, zCat2, zN10, zN01, not_true_eq_false, not_false_eq_true, false_implies, true_implies, implies_true, eq_self, nI_1, nI_40, nI_7, vz0, vz1, zb1_e0, zb1_n0]
      refine z_cV0 (M' := mX9_balanceAfter) (R' := rX9_balanceAfter) (i := 0) [.int (nI n)] [] eX9_balanceAfter k9_236 (by decide +kernel : decode cX9_many 70 = .ok (.invokevirtual 236, 3)) (Nat.le_of_ble_eq_true rfl) ⟨Nat.le_of_ble_eq_true rfl, Nat.le_of_ble_eq_true rfl, Nat.le_of_ble_eq_true rfl, Nat.le_of_ble_eq_true rfl, Nat.le_of_ble_eq_true rfl⟩ rfl rfl rfl sh_0 ?_
      refine cl_balanceAfter hw hT2 hn (fun I3 L3 k4 k5 => ?_)
      rw [oGsb_m1 hn]
      have hfk : oBal P (oGs P (mTold P) rt t n ((oPuts q (pCh P) k V).2.1, d)).1 = f k := by rw [← hf]; rfl
      rw [hfk]
      have k3' : zKpt SCt I1 I2 := k3.mono (fun i k g => by unfold zFB at g; unfold SCt; omega)
      have ih := ih (by omega) I3 L3 (((hJ.trans k1).trans k3').trans k4) ((hK.trans k2).trans k5)
      rw [oArg] at ih
      refine zBlkR (M := mX9_many) (nL := 8) (rt := (Option.some .int)) (blk := bX9_many_73) (T := [(90, bX9_many_90)]) 1 hX9_many_73 (zChks_cons hX9_many_90 zChks_nil) rfl rfl rfl (Nat.le_of_ble_eq_true rfl) (Nat.le_of_ble_eq_true rfl) ?_
      simp (implicitDefEqProofs := false) only [bX9_many_73, bX9_many_90, zRun_cons, zRun_nil, zLk, zSto, zIns, zFil, zf0, zf1, zf2, zf3, List.filter_cons, List.filter_nil, Nat.reduceAdd, Nat.reduceEqDiff, Nat.reduceLT, Nat.reduceLeDiff, Nat.reduceBEq, Nat.reduceBNe, reduceIte, if_true, if_false, Bool.false_and, Bool.true_and, Bool.and_true, Bool.and_false, Bool.not_false, Bool.not_true, Bool.false_eq_true, beq_self_eq_true, BEq.rfl, zCat1, zCat2, zCat3, zKdI, zKdL, zKdR, true_and, and_true, zSI, zSL, zSR, zu_at, and_self, and_false, false_and, lv_args, zKdZ, zKdO, zB01, zB11, Option.toList_none, Option.toList_some, List.nil_append, List.cons_append, true_or, or_true, zRow_rd, zu_rd, zo_istore, zo_iload, zo_icmp_le, zo_iinc, zo_goto, zi_1, zKn_s, zKn_0, zFind, zN10, zN01, not_true_eq_false, not_false_eq_true, false_implies, true_implies, implies_true, eq_self, nI_1, nI_40, nI_7, vz0, vz1, zb1_e0, zb1_n0]
      refine ⟨fun h => ?_, fun h => ?_⟩
      · rw [if_neg (Int32.not_lt.mpr h)] at ih
        exact zX.sub' ih (by simp)
      · rw [if_pos (Int32.not_le.mp h)] at ih
        exact zX.sub' ih (by simp)
theorem zMany_stk (hV : vR 0 I = V) (hch : ch ≤ 40) : zCnt (zMany I 0 (-1) 0) ch = oStk V ch := by
  refine zCnt_congr (fun c hc => ?_)
  rw [zMany, ← hV, vR_1 (by omega)]
  simp
set_option maxRecDepth 20000 in
theorem mo_many (hR : zRl I L P V d t kc rt) (hQ : ∀ I' L', zKpt SRt I I' → zKpt SRtL L L' → Q (some (.int (aMany P V d t rt y x wt))) (SH, I', L', RF p s r)) : zXM w mX10_many rX10_many [.ref 87, .int y, .int x, .int wt] (SH, I, L, RF p s r) Q := by
  unfold zXM
  refine zBlkR (M := mX10_many) (nL := 10) (rt := (Option.some .int)) (blk := bX10_many_0) (T := []) 0 hX10_many_0 zChks_nil rfl rfl rfl (Nat.le_of_ble_eq_true rfl) (Nat.le_of_ble_eq_true rfl) ?_
  simp (implicitDefEqProofs := false) only [bX10_many_0, zRun_cons, zRun_nil, zLk, zSto, zIns, zFil, zf0, zf1, zf2, zf3, List.filter_cons, List.filter_nil, Nat.reduceAdd, Nat.reduceEqDiff, Nat.reduceLT, Nat.reduceLeDiff, Nat.reduceBEq, Nat.reduceBNe, reduceIte, if_true, if_false, Bool.false_and, Bool.true_and, Bool.and_true, Bool.and_false, Bool.not_false, Bool.not_true, Bool.false_eq_true, beq_self_eq_true, BEq.rfl, zCat1, zCat2, zCat3, zKdI, zKdL, zKdR, true_and, and_true, zSI, zSL, zSR, zu_at, and_self, and_false, false_and, lv_args, zKdZ, zKdO, zB01, zB11, Option.toList_none, Option.toList_some, List.nil_append, List.cons_append, true_or, or_true, zRow_rd, zu_rd, zo_aload_n, zo_iconst, zo_putfield, zo_putfield_2, zo_putfield_3, zo_iload_n, zi_0, zKd_10_2, zTy_10_2, zcl_0, sh_87, zPutC, zKn_0, zN10, zN01, not_true_eq_false, not_false_eq_true, false_implies, true_implies, implies_true, eq_self, nI_1, nI_40, nI_7, vz0, vz1, zb1_e0, zb1_n0]
  have h0 : zKpt SRt I (zu I 87 2 0) := zKpt_rfl.u (by unfold SRt; omega)
  have hR := zRl_t h0 zKpt_rfl hR
  have h9 := hR.2.2.2.2.2.2.2.1
  have hch := hR.1.1
  have hnp := hR.1.2.1
  have hok := hR.2.2.2.2.2.1
  have hpa : ∀ c, c < 40 → V 5 c = 0 ∨ V 5 c = 1 := fun c hc => oOk_pa hR.2.2.2.2.2.1 hc
  generalize zu I 87 2 0 = I0 at *
  refine z_cV0 (M' := mX10_isPlace) (R' := rX10_isPlace) (i := 87) [.int y] [] eX10_isPlace k10_510 (by decide +kernel : decode cX10_many 7 = .ok (.invokevirtual 510, 3)) (Nat.le_of_ble_eq_true rfl) ⟨Nat.le_of_ble_eq_true rfl, Nat.le_of_ble_eq_true rfl, Nat.le_of_ble_eq_true rfl, Nat.le_of_ble_eq_true rfl, Nat.le_of_ble_eq_true rfl⟩ rfl rfl rfl sh_87 ?_
  refine mo_isPlace hR.2.2.1.2.1 ?_
  unfold aMany at hQ
  have bad : ¬ (oIn y (pNp P) = true ∧ pRun t x = true ∧ oIn wt 2 = true) → Q (some (.int (-2147483648))) (SH, I0, L, RF p s r) := by
    intro h
    rw [if_neg h] at hQ
    exact hQ I0 L h0 zKpt_rfl
  cases hy : oIn y (pNp P) with
  | false =>
    refine zBlkR (M := mX10_many) (nL := 10) (rt := (Option.some .int)) (blk := bX10_many_10) (T := [(30, bX10_many_30)]) 1 hX10_many_10 (zChks_cons hX10_many_30 zChks_nil) rfl rfl rfl (Nat.le_of_ble_eq_true rfl) (Nat.le_of_ble_eq_true rfl) ?_
    simp (implicitDefEqProofs := false) only [bX10_many_10, bX10_many_30, zRun_cons, zRun_nil, zLk, zSto, zIns, zFil, zf0, zf1, zf2, zf3, List.filter_cons, List.filter_nil, Nat.reduceAdd, Nat.reduceEqDiff, Nat.reduceLT, Nat.reduceLeDiff, Nat.reduceBEq, Nat.reduceBNe, reduceIte, if_true, if_false, Bool.false_and, Bool.true_and, Bool.and_true, Bool.and_false, Bool.not_false, Bool.not_true, Bool.false_eq_true, beq_self_eq_true, BEq.rfl, zCat1, zCat2, zCat3, zKdI, zKdL, zKdR, true_and, and_true, zSI, zSL, zSR, zu_at, and_self, and_false, false_and, lv_args, zKdZ, zKdO, zB01, zB11, Option.toList_none, Option.toList_some, List.nil_append, List.cons_append, true_or, or_true, zRow_rd, zu_rd, zo_if_eq, zo_aload_n, zo_iload_n, zo_ldc_w, zo_ireturn, zi_m2147483648, zRt, zKn_s, zKn_0, zFind, zb1_f, zN10, zN01, not_true_eq_false, not_false_eq_true, false_implies, true_implies, implies_true, eq_self, nI_1, nI_40, nI_7, vz0, vz1, zb1_e0, zb1_n0]
    exact bad (by rw [hy]; simp)
  | true =>
  refine zBlkR (M := mX10_many) (nL := 10) (rt := (Option.some .int)) (blk := bX10_many_10) (T := [(30, bX10_many_30)]) 1 hX10_many_10 (zChks_cons hX10_many_30 zChks_nil) rfl rfl rfl (Nat.le_of_ble_eq_true rfl) (Nat.le_of_ble_eq_true rfl) ?_
  simp (implicitDefEqProofs := false) only [bX10_many_10, bX10_many_30, zRun_cons, zRun_nil, zLk, zSto, zIns, zFil, zf0, zf1, zf2, zf3, List.filter_cons, List.filter_nil, Nat.reduceAdd, Nat.reduceEqDiff, Nat.reduceLT, Nat.reduceLeDiff, Nat.reduceBEq, Nat.reduceBNe, reduceIte, if_true, if_false, Bool.false_and, Bool.true_and, Bool.and_true, Bool.and_false, Bool.not_false, Bool.not_true, Bool.false_eq_true, beq_self_eq_true, BEq.rfl, zCat1, zCat2, zCat3, zKdI, zKdL, zKdR, true_and, and_true, zSI, zSL, zSR, zu_at, and_self, and_false, false_and, lv_args, zKdZ, zKdO, zB01, zB11, Option.toList_none, Option.toList_some, List.nil_append, List.cons_append, true_or, or_true, zRow_rd, zu_rd, zo_if_eq, zo_aload_n, zo_iload_n, zo_ldc_w, zo_ireturn, zi_m2147483648, zRt, zKn_s, zKn_0, zFind, zb1_t, zN10, zN01, not_true_eq_false, not_false_eq_true, false_implies, true_implies, implies_true, eq_self, nI_1, nI_40, nI_7, vz0, vz1, zb1_e0, zb1_n0]
  refine z_cV0 (M' := mX10_isRun) (R' := rX10_isRun) (i := 87) [.int x] [] eX10_isRun k10_530 (by decide +kernel : decode cX10_many 15 = .ok (.invokevirtual 530, 3)) (Nat.le_of_ble_eq_true rfl) ⟨Nat.le_of_ble_eq_true rfl, Nat.le_of_ble_eq_true rfl, Nat.le_of_ble_eq_true rfl, Nat.le_of_ble_eq_true rfl, Nat.le_of_ble_eq_true rfl⟩ rfl rfl rfl sh_87 ?_
  refine mo_isRun hR.2.2.2.2.1.2.1 h9 ?_
  cases hr : pRun t x with
  | false =>
    refine zBlkR (M := mX10_many) (nL := 10) (rt := (Option.some .int)) (blk := bX10_many_18) (T := [(30, bX10_many_30)]) 1 hX10_many_18 (zChks_cons hX10_many_30 zChks_nil) rfl rfl rfl (Nat.le_of_ble_eq_true rfl) (Nat.le_of_ble_eq_true rfl) ?_
    simp (implicitDefEqProofs := false) only [bX10_many_18, bX10_many_30, zRun_cons, zRun_nil, zLk, zSto, zIns, zFil, zf0, zf1, zf2, zf3, List.filter_cons, List.filter_nil, Nat.reduceAdd, Nat.reduceEqDiff, Nat.reduceLT, Nat.reduceLeDiff, Nat.reduceBEq, Nat.reduceBNe, reduceIte, if_true, if_false, Bool.false_and, Bool.true_and, Bool.and_true, Bool.and_false, Bool.not_false, Bool.not_true, Bool.false_eq_true, beq_self_eq_true, BEq.rfl, zCat1, zCat2, zCat3, zKdI, zKdL, zKdR, true_and, and_true, zSI, zSL, zSR, zu_at, and_self, and_false, false_and, lv_args, zKdZ, zKdO, zB01, zB11, Option.toList_none, Option.toList_some, List.nil_append, List.cons_append, true_or, or_true, zRow_rd, zu_rd, zo_if_eq, zo_iload_n, zo_iconst, zo_ldc_w, zo_ireturn, zi_0, zi_1, zi_m2147483648, zcl_0, zcl_1, zRt, zKn_s, zKn_0, zFind, zb1_f, zN10, zN01, not_true_eq_false, not_false_eq_true, false_implies, true_implies, implies_true, eq_self, nI_1, nI_40, nI_7, vz0, vz1, zb1_e0, zb1_n0]
    exact bad (by rw [hr]; simp)
  | true =>
  refine zBlkR (M := mX10_many) (nL := 10) (rt := (Option.some .int)) (blk := bX10_many_18) (T := [(30, bX10_many_30)]) 1 hX10_many_18 (zChks_cons hX10_many_30 zChks_nil) rfl rfl rfl (Nat.le_of_ble_eq_true rfl) (Nat.le_of_ble_eq_true rfl) ?_
  simp (implicitDefEqProofs := false) only [bX10_many_18, bX10_many_30, zRun_cons, zRun_nil, zLk, zSto, zIns, zFil, zf0, zf1, zf2, zf3, List.filter_cons, List.filter_nil, Nat.reduceAdd, Nat.reduceEqDiff, Nat.reduceLT, Nat.reduceLeDiff, Nat.reduceBEq, Nat.reduceBNe, reduceIte, if_true, if_false, Bool.false_and, Bool.true_and, Bool.and_true, Bool.and_false, Bool.not_false, Bool.not_true, Bool.false_eq_true, beq_self_eq_true, BEq.rfl, zCat1, zCat2, zCat3, zKdI, zKdL, zKdR, true_and, and_true, zSI, zSL, zSR, zu_at, and_self, and_false, false_and, lv_args, zKdZ, zKdO, zB01, zB11, Option.toList_none, Option.toList_some, List.nil_append, List.cons_append, true_or, or_true, zRow_rd, zu_rd, zo_if_eq, zo_iload_n, zo_iconst, zo_ldc_w, zo_ireturn, zi_0, zi_1, zi_m2147483648, zcl_0, zcl_1, zRt, zKn_s, zKn_0, zFind, zb1_t, zN10, zN01, not_true_eq_false, not_false_eq_true, false_implies, true_implies, implies_true, eq_self, nI_1, nI_40, nI_7, vz0, vz1, zb1_e0, zb1_n0]
  refine z_cS0 (M' := mX10_isIn) (R' := rX10_isIn) [.int wt, .int 0, .int 1] [] eX10_isIn k10_223 (by decide +kernel : decode cX10_many 24 = .ok (.invokestatic 223, 3)) (Nat.le_of_ble_eq_true rfl) ⟨Nat.le_of_ble_eq_true rfl, Nat.le_of_ble_eq_true rfl, Nat.le_of_ble_eq_true rfl, Nat.le_of_ble_eq_true rfl, Nat.le_of_ble_eq_true rfl⟩ rfl rfl rfl ?_
  refine mo_isIn ?_
  rw [show (1 : Int32) = nI 1 from rfl, oIn_isIn (by omega)]
  cases hin : oIn wt (1 + 1) with
  | false =>
    refine zBlkR (M := mX10_many) (nL := 10) (rt := (Option.some .int)) (blk := bX10_many_27) (T := [(34, bX10_many_34)]) 1 hX10_many_27 (zChks_cons hX10_many_34 zChks_nil) rfl rfl rfl (Nat.le_of_ble_eq_true rfl) (Nat.le_of_ble_eq_true rfl) ?_
    simp (implicitDefEqProofs := false) only [bX10_many_27, bX10_many_34, zRun_cons, zRun_nil, zLk, zSto, zIns, zFil, zf0, zf1, zf2, zf3, List.filter_cons, List.filter_nil, Nat.reduceAdd, Nat.reduceEqDiff, Nat.reduceLT, Nat.reduceLeDiff, Nat.reduceBEq, Nat.reduceBNe, reduceIte, if_true, if_false, Bool.false_and, Bool.true_and, Bool.and_true, Bool.and_false, Bool.not_false, Bool.not_true, Bool.false_eq_true, beq_self_eq_true, BEq.rfl, zCat1, zCat2, zCat3, zKdI, zKdL, zKdR, true_and, and_true, zSI, zSL, zSR, zu_at, and_self, and_false, false_and, lv_args, zKdZ, zKdO, zB01, zB11, Option.toList_none, Option.toList_some, List.nil_append, List.cons_append, true_or, or_true, zRow_rd, zu_rd, zo_if_ne, zo_ldc_w, zo_ireturn, zo_aload_n, zi_m2147483648, zRt, zKn_s, zKn_0, zFind, zb1_f, zN10, zN01, not_true_eq_false, not_false_eq_true, false_implies, true_implies, implies_true, eq_self, nI_1, nI_40, nI_7, vz0, vz1, zb1_e0, zb1_n0]
    exact bad (by rw [show oIn wt 2 = false from hin]; simp)
  | true =>
    rw [if_pos ⟨hy, hr, hin⟩] at hQ
    obtain ⟨n, e, hn⟩ := pRun_t hr h9
    obtain ⟨q, hq, e2⟩ := oIn_t hy (by omega)
    subst e e2
    rw [nI_clamp (by omega), nI_clamp (by omega)] at hQ
    generalize hf : (fun k => oBalG P (mTold P) rt t n ((oPuts q (pCh P) k V).2.1, d)) = f at hQ
    have hst := oStk_le (V := V) (ch := pCh P)
    refine zBlkR (M := mX10_many) (nL := 10) (rt := (Option.some .int)) (blk := bX10_many_27) (T := [(34, bX10_many_34)]) 1 hX10_many_27 (zChks_cons hX10_many_34 zChks_nil) rfl rfl rfl (Nat.le_of_ble_eq_true rfl) (Nat.le_of_ble_eq_true rfl) ?_
    simp (implicitDefEqProofs := false) only [bX10_many_27, bX10_many_34, zRun_cons, zRun_nil, zLk, zSto, zIns, zFil, zf0, zf1, zf2, zf3, List.filter_cons, List.filter_nil, Nat.reduceAdd, Nat.reduceEqDiff, Nat.reduceLT, Nat.reduceLeDiff, Nat.reduceBEq, Nat.reduceBNe, reduceIte, if_true, if_false, Bool.false_and, Bool.true_and, Bool.and_true, Bool.and_false, Bool.not_false, Bool.not_true, Bool.false_eq_true, beq_self_eq_true, BEq.rfl, zCat1, zCat2, zCat3, zKdI, zKdL, zKdR, true_and, and_true, zSI, zSL, zSR, zu_at, and_self, and_false, false_and, lv_args, zKdZ, zKdO, zB01, zB11, Option.toList_none, Option.toList_some, List.nil_append, List.cons_append, true_or, or_true, zRow_rd, zu_rd, zo_if_ne, zo_ldc_w, zo_ireturn, zo_aload_n, zi_m2147483648, zRt, zKn_s, zKn_0, zFind, zb1_t, zN10, zN01, not_true_eq_false, not_false_eq_true, false_implies, true_implies, implies_true, eq_self, nI_1, nI_40, nI_7, vz0, vz1, zb1_e0, zb1_n0]
    refine z_cV0 (M' := mX10_plainRun) (R' := rX10_plainRun) (i := 87) [] [] eX10_plainRun k10_513 (by decide +kernel : decode cX10_many 35 = .ok (.invokevirtual 513, 3)) (Nat.le_of_ble_eq_true rfl) ⟨Nat.le_of_ble_eq_true rfl, Nat.le_of_ble_eq_true rfl, Nat.le_of_ble_eq_true rfl, Nat.le_of_ble_eq_true rfl, Nat.le_of_ble_eq_true rfl⟩ rfl rfl rfl sh_87 ?_
    refine mo_plainRun hR (fun I1 k1 hM => ?_)
    have hR1 := zRl_t k1 zKpt_rfl hR
    have e102 : I1 102 1 = nI (pCh P) := by rw [hR1.2.2.1.1 102 (by omega) (by omega)]; exact hR1.1.2.2.2.2.2.1
    refine zBlkR (M := mX10_many) (nL := 10) (rt := (Option.some .int)) (blk := bX10_many_38) (T := []) 0 hX10_many_38 zChks_nil rfl rfl rfl (Nat.le_of_ble_eq_true rfl) (Nat.le_of_ble_eq_true rfl) ?_
    simp (implicitDefEqProofs := false) only [bX10_many_38, zRun_cons, zRun_nil, zLk, zSto, zIns, zFil, zf0, zf1, zf2, zf3, List.filter_cons, List.filter_nil, Nat.reduceAdd, Nat.reduceEqDiff, Nat.reduceLT, Nat.reduceLeDiff, Nat.reduceBEq, Nat.reduceBNe, reduceIte, if_true, if_false, Bool.false_and, Bool.true_and, Bool.and_true, Bool.and_false, Bool.not_false, Bool.not_true, Bool.false_eq_true, beq_self_eq_true, BEq.rfl, zCat1, zCat2, zCat3, zKdI, zKdL, zKdR, true_and, and_true, zSI, zSL, zSR, zu_at, and_self, and_false, false_and, lv_args, zKdZ, zKdO, zB01, zB11, Option.toList_none, Option.toList_some, List.nil_append, List.cons_append, true_or, or_true, zRow_rd, zu_rd, zo_iconst, zo_istore, zo_aload_n, zi_m1, zi_0, zcl_0, zKn_0, zN10, zN01, not_true_eq_false, not_false_eq_true, false_implies, true_implies, implies_true, eq_self, nI_1, nI_40, nI_7, vz0, vz1, zb1_e0, zb1_n0]
    refine z_cV0 (M' := mX10_manyAt) (R' := rX10_manyAt) (i := 87) [.int 0, .int (-1), .int 0] [] eX10_manyAt k10_444 (by decide +kernel : decode cX10_many 48 = .ok (.invokevirtual 444, 3)) (Nat.le_of_ble_eq_true rfl) ⟨Nat.le_of_ble_eq_true rfl, Nat.le_of_ble_eq_true rfl, Nat.le_of_ble_eq_true rfl, Nat.le_of_ble_eq_true rfl, Nat.le_of_ble_eq_true rfl⟩ rfl rfl rfl sh_87 ?_
    refine mo_manyAt (b := 0) (by omega) hch e102 ?_
    rw [zMany_stk hR1.2.2.2.2.1.1 hch]
    refine zBlkR (M := mX10_many) (nL := 10) (rt := (Option.some .int)) (blk := bX10_many_51) (T := []) 0 hX10_many_51 zChks_nil rfl rfl rfl (Nat.le_of_ble_eq_true rfl) (Nat.le_of_ble_eq_true rfl) ?_
    simp (implicitDefEqProofs := false) only [bX10_many_51, zRun_cons, zRun_nil, zLk, zSto, zIns, zFil, zf0, zf1, zf2, zf3, List.filter_cons, List.filter_nil, Nat.reduceAdd, Nat.reduceEqDiff, Nat.reduceLT, Nat.reduceLeDiff, Nat.reduceBEq, Nat.reduceBNe, reduceIte, if_true, if_false, Bool.false_and, Bool.true_and, Bool.and_true, Bool.and_false, Bool.not_false, Bool.not_true, Bool.false_eq_true, beq_self_eq_true, BEq.rfl, zCat1, zCat2, zCat3, zKdI, zKdL, zKdR, true_and, and_true, zSI, zSL, zSR, zu_at, and_self, and_false, false_and, lv_args, zKdZ, zKdO, zB01, zB11, Option.toList_none, Option.toList_some, List.nil_append, List.cons_append, true_or, or_true, zRow_rd, zu_rd, zo_istore, zo_iconst, zi_0, zcl_0, zKn_0, zN10, zN01, not_true_eq_false, not_false_eq_true, false_implies, true_implies, implies_true, eq_self, nI_1, nI_40, nI_7, vz0, vz1, zb1_e0, zb1_n0]
    refine zLoop (n := oStk V (pCh P) + 1) (P := fun k => ∀ J K, zKpt SRt I J → zKpt SRtL L K → zRl J K P V d t kc rt → zRefM J (mTold P) rt → zX w mX10_many rX10_many Q 0 0 56 [(0, Value.ref 87), (1, Value.int (nI q)), (2, Value.int (nI n)), (3, Value.int wt), (4, Value.int (oRef f k).1), (5, Value.int (oRef f k).2), (6, Value.int (nI (oStk V (pCh P)))), (7, Value.int (nI k))] [] (SH, J, K, RF p s r)) (fun k hk ih => ?_) 0 (Nat.zero_le _) I1 L (h0.trans k1) zKpt_rfl hR1 hM
    intro J K hJ hK hRJ hMJ
    by_cases hke : k = oStk V (pCh P) + 1
    · have hx : (nI (oStk V (pCh P)) < nI k) = True := eq_true (by rw [zlt_nat (by omega) (by omega)]; omega)
      have e1 : (oRef f k).1 = nI (oArg f k).1 := by rw [oRef, if_neg (by omega)]
      have e2 : (oRef f k).2 = (oArg f k).2 := by rw [oRef, if_neg (by omega)]
      rw [← hke] at hQ
      refine zBlkR (M := mX10_many) (nL := 10) (rt := (Option.some .int)) (blk := bX10_many_56) (T := [(170, bX10_many_170), (179, bX10_many_179), (181, bX10_many_181)]) 2 hX10_many_56 (zChks_cons hX10_many_170 (zChks_cons hX10_many_179 (zChks_cons hX10_many_181 zChks_nil))) rfl rfl rfl (Nat.le_of_ble_eq_true rfl) (Nat.le_of_ble_eq_true rfl) ?_
      simp (implicitDefEqProofs := false) only [bX10_many_56, bX10_many_170, bX10_many_179, bX10_many_181, zRun_cons, zRun_nil, zLk, zSto, zIns, zFil, zf0, zf1, zf2, zf3, List.filter_cons, List.filter_nil, Nat.reduceAdd, Nat.reduceEqDiff, Nat.reduceLT, Nat.reduceLeDiff, Nat.reduceBEq, Nat.reduceBNe, reduceIte, if_true, if_false, Bool.false_and, Bool.true_and, Bool.and_true, Bool.and_false, Bool.not_false, Bool.not_true, Bool.false_eq_true, beq_self_eq_true, BEq.rfl, zCat1, zCat2, zCat3, zKdI, zKdL, zKdR, true_and, and_true, zSI, zSL, zSR, zu_at, and_self, and_false, false_and, lv_args, zKdZ, zKdO, zB01, zB11, Option.toList_none, Option.toList_some, List.nil_append, List.cons_append, true_or, or_true, zRow_rd, zu_rd, zo_iload, zo_icmp_gt, zo_aload_n, zo_iload_n, zo_if_ne, zo_goto, zo_ireturn, zRt, zKn_s, zKn_0, zFind, hx, e1, e2, zN10, zN01, not_true_eq_false, not_false_eq_true, false_implies, true_implies, implies_true, eq_self, nI_1, nI_40, nI_7, vz0, vz1, zb1_e0, zb1_n0]
      refine ⟨fun h => ?_, fun h => ?_⟩
      · have hQ := hQ J K hJ hK; rw [if_neg h] at hQ; exact hQ
      · have hQ := hQ J K hJ hK; rw [if_pos h] at hQ; exact hQ
    · have hx : (nI (oStk V (pCh P)) < nI k) = False := eq_false (by rw [zlt_nat (by omega) (by omega)]; omega)
      have ih := ih (by omega)
      refine zBlkR (M := mX10_many) (nL := 10) (rt := (Option.some .int)) (blk := bX10_many_56) (T := [(170, bX10_many_170), (179, bX10_many_179), (181, bX10_many_181)]) 2 hX10_many_56 (zChks_cons hX10_many_170 (zChks_cons hX10_many_179 (zChks_cons hX10_many_181 zChks_nil))) rfl rfl rfl (Nat.le_of_ble_eq_true rfl) (Nat.le_of_ble_eq_true rfl) ?_
      simp (implicitDefEqProofs := false) only [bX10_many_56, bX10_many_170, bX10_many_179, bX10_many_181, zRun_cons, zRun_nil, zLk, zSto, zIns, zFil, zf0, zf1, zf2, zf3, List.filter_cons, List.filter_nil, Nat.reduceAdd, Nat.reduceEqDiff, Nat.reduceLT, Nat.reduceLeDiff, Nat.reduceBEq, Nat.reduceBNe, reduceIte, if_true, if_false, Bool.false_and, Bool.true_and, Bool.and_true, Bool.and_false, Bool.not_false, Bool.not_true, Bool.false_eq_true, beq_self_eq_true, BEq.rfl, zCat1, zCat2, zCat3, zKdI, zKdL, zKdR, true_and, and_true, zSI, zSL, zSR, zu_at, and_self, and_false, false_and, lv_args, zKdZ, zKdO, zB01, zB11, Option.toList_none, Option.toList_some, List.nil_append, List.cons_append, true_or, or_true, zRow_rd, zu_rd, zo_iload, zo_icmp_gt, zo_aload_n, zo_iload_n, zo_if_ne, zo_goto, zo_ireturn, zRt, zKn_s, zKn_0, zFind, hx, zN10, zN01, not_true_eq_false, not_false_eq_true, false_implies, true_implies, implies_true, eq_self, nI_1, nI_40, nI_7, vz0, vz1, zb1_e0, zb1_n0]
      refine z_cV0 (M' := mX10_layRun) (R' := rX10_layRun) (i := 87) [] [] eX10_layRun k10_534 (by decide +kernel : decode cX10_many 64 = .ok (.invokevirtual 534, 3)) (Nat.le_of_ble_eq_true rfl) ⟨Nat.le_of_ble_eq_true rfl, Nat.le_of_ble_eq_true rfl, Nat.le_of_ble_eq_true rfl, Nat.le_of_ble_eq_true rfl, Nat.le_of_ble_eq_true rfl⟩ rfl rfl rfl sh_87 ?_
      refine mo_layRun hRJ.2.2.2.2.1.1 hRJ.2.2.2.2.1.2.2.2.2.2.2 hpa (fun I2 L2 k2 k3 v2 d2 => ?_)
      have hRJ2 := zRl_t (zFR1_SRt k2) (zFRL1_SRt k3) hRJ
      refine zBlkR (M := mX10_many) (nL := 10) (rt := (Option.some .int)) (blk := bX10_many_67) (T := []) 0 hX10_many_67 zChks_nil rfl rfl rfl (Nat.le_of_ble_eq_true rfl) (Nat.le_of_ble_eq_true rfl) ?_
      simp (implicitDefEqProofs := false) only [bX10_many_67, zRun_cons, zRun_nil, zLk, zSto, zIns, zFil, zf0, zf1, zf2, zf3, List.filter_cons, List.filter_nil, Nat.reduceAdd, Nat.reduceEqDiff, Nat.reduceLT, Nat.reduceLeDiff, Nat.reduceBEq, Nat.reduceBNe, reduceIte, if_true, if_false, Bool.false_and, Bool.true_and, Bool.and_true, Bool.and_false, Bool.not_false, Bool.not_true, Bool.false_eq_true, beq_self_eq_true, BEq.rfl, zCat1, zCat2, zCat3, zKdI, zKdL, zKdR, true_and, and_true, zSI, zSL, zSR, zu_at, and_self, and_false, false_and, lv_args, zKdZ, zKdO, zB01, zB11, Option.toList_none, Option.toList_some, List.nil_append, List.cons_append, true_or, or_true, zRow_rd, zu_rd, zo_iload, zo_istore, zo_iconst, zi_0, zcl_0, zKn_0, zN10, zN01, not_true_eq_false, not_false_eq_true, false_implies, true_implies, implies_true, eq_self, nI_1, nI_40, nI_7, vz0, vz1, zb1_e0, zb1_n0]
      have fin : ∀ (l9 c9 : Int32) J3, zKpt (zFR 1) I2 J3 → vR 1 J3 = (oPuts q (pCh P) k V).2.1 → zX w mX10_many rX10_many Q 0 0 134 [(0, Value.ref 87), (1, Value.int (nI q)), (2, Value.int (nI n)), (3, Value.int wt), (4, Value.int (oRef f k).1), (5, Value.int (oRef f k).2), (6, Value.int (nI (oStk V (pCh P)))), (7, Value.int (nI k)), (8, Value.int l9), (9, Value.int c9)] [] (SH, J3, L2, RF p s r) := by
        intro l9 c9 J3 k4 v3
        have hRJ3 := zRl_t (zFR1_SRt k4) zKpt_rfl hRJ2
        have hM3 := zRefM_R k4 (zRefM_R k2 hMJ)
        refine zBlkR (M := mX10_many) (nL := 10) (rt := (Option.some .int)) (blk := bX10_many_134) (T := []) 0 hX10_many_134 zChks_nil rfl rfl rfl (Nat.le_of_ble_eq_true rfl) (Nat.le_of_ble_eq_true rfl) ?_
        simp (implicitDefEqProofs := false) only [bX10_many_134, zRun_cons, zRun_nil, zLk, zSto, zIns, zFil, zf0, zf1, zf2, zf3, List.filter_cons, List.filter_nil, Nat.reduceAdd, Nat.reduceEqDiff, Nat.reduceLT, Nat.reduceLeDiff, Nat.reduceBEq, Nat.reduceBNe, reduceIte, if_true, if_false, Bool.false_and, Bool.true_and, Bool.and_true, Bool.and_false, Bool.not_false, Bool.not_true, Bool.false_eq_true, beq_self_eq_true, BEq.rfl, zCat1, zCat2, zCat3, zKdI, zKdL, zKdR, true_and, and_true, zSI, zSL, zSR, zu_at, and_self, and_false, false_and, lv_args, zKdZ, zKdO, zB01, zB11, Option.toList_none, Option.toList_some, List.nil_append, List.cons_append, true_or, or_true, zRow_rd, zu_rd, zo_aload_n, zo_iload_n, zKn_0, zN10, zN01, not_true_eq_false, not_false_eq_true, false_implies, true_implies, implies_true, eq_self, nI_1, nI_40, nI_7, vz0, vz1, zb1_e0, zb1_n0]
        refine z_cV0 (M' := mX10_runs) (R' := rX10_runs) (i := 87) [.int (nI n)] [] eX10_runs k10_537 (by decide +kernel : decode cX10_many 136 = .ok (.invokevirtual 537, 3)) (Nat.le_of_ble_eq_true rfl) ⟨Nat.le_of_ble_eq_true rfl, Nat.le_of_ble_eq_true rfl, Nat.le_of_ble_eq_true rfl, Nat.le_of_ble_eq_true rfl, Nat.le_of_ble_eq_true rfl⟩ rfl rfl rfl sh_87 ?_
        refine mo_runs (m := mTold P) (rt := rt) (S := ((oPuts q (pCh P) k V).2.1, d)) hn hRJ3.2.2.2.2.1.2.1 hR.1 hR.2.2.2.2.2.2.1 hRJ3.2.2.1 hM3 v3 d2 (oOk_puts hok (Nat.le_refl _) hq) (fun I4 L4 l1 l2 _ _ => ?_)
        have hfk : oBal P (oGs P (mTold P) rt t n ((oPuts q (pCh P) k V).2.1, d)).1 = f k := by rw [← hf]; rfl
        rw [hfk]
        have kk := ((zFR1_SRt k2).trans (zFR1_SRt k4)).trans (zFR1_SRt l1)
        have kl := (zFRL1_SRt k3).trans (zFRL1_SRt l2)
        have ih := ih I4 L4 (hJ.trans kk) (hK.trans kl) (zRl_t kk kl hRJ) (zRefM_R l1 hM3)
        rw [oRef_s (by omega)] at ih
        refine zBlkR (M := mX10_many) (nL := 10) (rt := (Option.some .int)) (blk := bX10_many_139) (T := [(156, bX10_many_156), (164, bX10_many_164)]) 1 hX10_many_139 (zChks_cons hX10_many_156 (zChks_cons hX10_many_164 zChks_nil)) rfl rfl rfl (Nat.le_of_ble_eq_true rfl) (Nat.le_of_ble_eq_true rfl) ?_
        simp (implicitDefEqProofs := false) only [bX10_many_139, bX10_many_156, bX10_many_164, zRun_cons, zRun_nil, zLk, zSto, zIns, zFil, zf0, zf1, zf2, zf3, List.filter_cons, List.filter_nil, Nat.reduceAdd, Nat.reduceEqDiff, Nat.reduceLT, Nat.reduceLeDiff, Nat.reduceBEq, Nat.reduceBNe, reduceIte, if_true, if_false, Bool.false_and, Bool.true_and, Bool.and_true, Bool.and_false, Bool.not_false, Bool.not_true, Bool.false_eq_true, beq_self_eq_true, BEq.rfl, zCat1, zCat2, zCat3, zKdI, zKdL, zKdR, true_and, and_true, zSI, zSL, zSR, zu_at, and_self, and_false, false_and, lv_args, zKdZ, zKdO, zB01, zB11, Option.toList_none, Option.toList_some, List.nil_append, List.cons_append, true_or, or_true, zRow_rd, zu_rd, zo_istore, zo_iload, zo_if_lt, zo_icmp_gt, zo_goto, zo_iinc, zi_1, zKn_s, zKn_0, zFind, zN10, zN01, not_true_eq_false, not_false_eq_true, false_implies, true_implies, implies_true, eq_self, nI_1, nI_40, nI_7, vz0, vz1, zb1_e0, zb1_n0]
        refine ⟨fun h => ?_, fun h => ⟨fun h2 => ?_, fun h2 => ?_⟩⟩
        · rw [if_pos (Or.inl h)] at ih
          exact zX.sub' ih (by simp)
        · rw [if_pos (Or.inr h2)] at ih
          exact zX.sub' ih (by simp)
        · rw [if_neg (fun q => q.elim h h2)] at ih
          exact zX.sub' ih (by simp)
      refine zLoop (n := pCh P) (P := fun c => ∀ J3, zKpt (zFR 1) I2 J3 → vR 1 J3 = (oPuts q c k V).2.1 → zX w mX10_many rX10_many Q 0 0 74 [(0, Value.ref 87), (1, Value.int (nI q)), (2, Value.int (nI n)), (3, Value.int wt), (4, Value.int (oRef f k).1), (5, Value.int (oRef f k).2), (6, Value.int (nI (oStk V (pCh P)))), (7, Value.int (nI k)), (8, Value.int (nI (oPuts q c k V).1)), (9, Value.int (nI c))] [] (SH, J3, L2, RF p s r)) (fun c hc ih3 => ?_) 0 (Nat.zero_le _) I2 zKpt_rfl v2
      intro J3 k4 v3
      have hRJ3 := zRl_t (zFR1_SRt k4) zKpt_rfl hRJ2
      have e102 : J3 102 1 = nI (pCh P) := by rw [hRJ3.2.2.1.1 102 (by omega) (by omega)]; exact hRJ3.1.2.2.2.2.2.1
      have hle := oPuts_le (q := q) (l := k) (V := V) c
      by_cases hcc : c = pCh P
      · have hx : (nI (pCh P) ≤ nI c) = True := eq_true (by rw [zle_nat (by omega) (by omega)]; omega)
        refine zBlkR (M := mX10_many) (nL := 10) (rt := (Option.some .int)) (blk := bX10_many_74) (T := [(103, bX10_many_103), (128, bX10_many_128)]) 1 hX10_many_74 (zChks_cons hX10_many_103 (zChks_cons hX10_many_128 zChks_nil)) rfl rfl rfl (Nat.le_of_ble_eq_true rfl) (Nat.le_of_ble_eq_true rfl) ?_
        simp (implicitDefEqProofs := false) only [bX10_many_74, bX10_many_103, bX10_many_128, zRun_cons, zRun_nil, zLk, zSto, zIns, zFil, zf0, zf1, zf2, zf3, List.filter_cons, List.filter_nil, Nat.reduceAdd, Nat.reduceEqDiff, Nat.reduceLT, Nat.reduceLeDiff, Nat.reduceBEq, Nat.reduceBNe, reduceIte, if_true, if_false, Bool.false_and, Bool.true_and, Bool.and_true, Bool.and_false, Bool.not_false, Bool.not_true, Bool.false_eq_true, beq_self_eq_true, BEq.rfl, zCat1, zCat2, zCat3, zKdI, zKdL, zKdR, true_and, and_true, zSI, zSL, zSR, zu_at, and_self, and_false, false_and, lv_args, zKdZ, zKdO, zB01, zB11, Option.toList_none, Option.toList_some, List.nil_append, List.cons_append, true_or, or_true, zRow_rd, zu_rd, zo_iload, zo_aload_n, zo_getfield, zo_iconst, zo_iaload, zo_icmp_ge, zo_if_le, zo_if_eq, zo_goto, zo_bipush, zo_iadd, zo_iastore, zo_iload_n, zo_iinc, zi_1, zb_40, zi_m1, zKd_10_36, zKd_10_57, zKd_10_58, sh_87, rf_87_36, sh_102, zcl_1, rf_87_57, sh_114, zcl_40, rf_87_58, sh_115, zvi_1_32, zvi_1_80, zvi_40_80, zKn_s, zKn_0, zFind, e102, hx, zN10, zN01, not_true_eq_false, not_false_eq_true, false_implies, true_implies, implies_true, eq_self, nI_1, nI_40, nI_7, vz0, vz1, zb1_e0, zb1_n0]
        exact fin _ _ J3 k4 (by rw [v3, hcc])
      have hx : (nI (pCh P) ≤ nI c) = False := eq_false (by rw [zle_nat (by omega) (by omega)]; omega)
      by_cases hz : (oPuts q c k V).1 = 0
      · have hz2 : (nI (oPuts q c k V).1 ≤ 0) = True := eq_true (by rw [hz]; decide)
        refine zBlkR (M := mX10_many) (nL := 10) (rt := (Option.some .int)) (blk := bX10_many_74) (T := [(103, bX10_many_103), (128, bX10_many_128)]) 1 hX10_many_74 (zChks_cons hX10_many_103 (zChks_cons hX10_many_128 zChks_nil)) rfl rfl rfl (Nat.le_of_ble_eq_true rfl) (Nat.le_of_ble_eq_true rfl) ?_
        simp (implicitDefEqProofs := false) only [bX10_many_74, bX10_many_103, bX10_many_128, zRun_cons, zRun_nil, zLk, zSto, zIns, zFil, zf0, zf1, zf2, zf3, List.filter_cons, List.filter_nil, Nat.reduceAdd, Nat.reduceEqDiff, Nat.reduceLT, Nat.reduceLeDiff, Nat.reduceBEq, Nat.reduceBNe, reduceIte, if_true, if_false, Bool.false_and, Bool.true_and, Bool.and_true, Bool.and_false, Bool.not_false, Bool.not_true, Bool.false_eq_true, beq_self_eq_true, BEq.rfl, zCat1, zCat2, zCat3, zKdI, zKdL, zKdR, true_and, and_true, zSI, zSL, zSR, zu_at, and_self, and_false, false_and, lv_args, zKdZ, zKdO, zB01, zB11, Option.toList_none, Option.toList_some, List.nil_append, List.cons_append, true_or, or_true, zRow_rd, zu_rd, zo_iload, zo_aload_n, zo_getfield, zo_iconst, zo_iaload, zo_icmp_ge, zo_if_le, zo_if_eq, zo_goto, zo_bipush, zo_iadd, zo_iastore, zo_iload_n, zo_iinc, zi_1, zb_40, zi_m1, zKd_10_36, zKd_10_57, zKd_10_58, sh_87, rf_87_36, sh_102, zcl_1, rf_87_57, sh_114, zcl_40, rf_87_58, sh_115, zvi_1_32, zvi_1_80, zvi_40_80, zKn_s, zKn_0, zFind, e102, hx, hz2, zN10, zN01, not_true_eq_false, not_false_eq_true, false_implies, true_implies, implies_true, eq_self, nI_1, nI_40, nI_7, vz0, vz1, zb1_e0, zb1_n0]
        have := oPuts_0 hz (pCh P - c)
        rw [show c + (pCh P - c) = pCh P by omega] at this
        exact fin _ _ J3 k4 (by rw [v3, this])
      have hz2 : (nI (oPuts q c k V).1 ≤ 0) = False := eq_false (nI_nle (by omega) (by omega))
      have hc4 : c < 40 := by omega
      have hv : vp_in (nI c) 80 := zvn (by omega) (by omega)
      have hv2 : vp_in (nI (40 + c)) 80 := zvn (by omega) (by omega)
      have x1 : (40 : Int32) + nI c = nI (40 + c) := by rw [show (40 : Int32) = nI 40 from rfl, nI_add]
      have v1 : J3 114 c = (oPuts q c k V).2.1 1 c := by
        rw [oPuts_hi (Nat.le_refl _), ← hRJ3.2.2.2.2.1.1, vR_1 hc4]; simp
      have ih3 := ih3 (by omega)
      rw [oPuts_s] at ih3
      generalize hzE : oPuts q c k V = z at *
      refine zBlkR (M := mX10_many) (nL := 10) (rt := (Option.some .int)) (blk := bX10_many_74) (T := [(103, bX10_many_103), (128, bX10_many_128)]) 1 hX10_many_74 (zChks_cons hX10_many_103 (zChks_cons hX10_many_128 zChks_nil)) rfl rfl rfl (Nat.le_of_ble_eq_true rfl) (Nat.le_of_ble_eq_true rfl) ?_
      simp (implicitDefEqProofs := false) only [bX10_many_74, bX10_many_103, bX10_many_128, zRun_cons, zRun_nil, zLk, zSto, zIns, zFil, zf0, zf1, zf2, zf3, List.filter_cons, List.filter_nil, Nat.reduceAdd, Nat.reduceEqDiff, Nat.reduceLT, Nat.reduceLeDiff, Nat.reduceBEq, Nat.reduceBNe, reduceIte, if_true, if_false, Bool.false_and, Bool.true_and, Bool.and_true, Bool.and_false, Bool.not_false, Bool.not_true, Bool.false_eq_true, beq_self_eq_true, BEq.rfl, zCat1, zCat2, zCat3, zKdI, zKdL, zKdR, true_and, and_true, zSI, zSL, zSR, zu_at, and_self, and_false, false_and, lv_args, zKdZ, zKdO, zB01, zB11, Option.toList_none, Option.toList_some, List.nil_append, List.cons_append, true_or, or_true, zRow_rd, zu_rd, zo_iload, zo_aload_n, zo_getfield, zo_iconst, zo_iaload, zo_icmp_ge, zo_if_le, zo_if_eq, zo_goto, zo_bipush, zo_iadd, zo_iastore, zo_iload_n, zo_iinc, zi_1, zb_40, zi_m1, zKd_10_36, zKd_10_57, zKd_10_58, sh_87, rf_87_36, sh_102, zcl_1, rf_87_57, sh_114, zcl_40, rf_87_58, sh_115, zvi_1_32, zvi_1_80, zvi_40_80, zKn_s, zKn_0, zFind, e102, hx, hz2, hv, hv2, x1, v1, nI_clamp (n := c) (by omega), nI_clamp (n := 40 + c) (by omega), zN10, zN01, not_true_eq_false, not_false_eq_true, false_implies, true_implies, implies_true, eq_self, nI_1, nI_40, nI_7, vz0, vz1, zb1_e0, zb1_n0]
      refine ⟨fun h => ?_, fun h => ?_⟩
      · rw [oPutS, if_pos ⟨by omega, h⟩] at ih3
        have x2 : nI z.1 + -1 = nI (z.1 - 1) := by
          have : z.1 = (z.1 - 1) + 1 := by omega
          rw [this, pk_m1]; simp
        rw [x2]
        refine ih3 _ ((k4.u (by unfold zFR; omega)).u (by unfold zFR; omega)) ?_
        have u2 := vR_u2 (b := 1) (I := zu J3 114 (40 + c) 1) (c := c) (x := nI q) hc4
        have u1 := vR_u1 (b := 1) (I := J3) (c := c) (x := 1) hc4
        rw [Nat.mul_one] at u1 u2
        rw [u2, u1, v3, oPutC, if_pos h]
      · rw [oPutS, if_neg (fun g => h g.2)] at ih3
        exact ih3 J3 k4 v3
end ZA77
