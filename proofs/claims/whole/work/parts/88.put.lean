/-! ===== CHAIRS PUT OUT AND BROUGHT IN: both sides ===== -/
section ZD88
variable {w : zP} {Q : Option Value → zMem → Prop} {μ : zMem} {I J V V' : Nat → Nat → Int32} {L : Nat → Nat → Int64} {p s B T t kc : Nat} {r : Option Nat} {P : oPn} {c i k q ch n np l : Nat} {x y wm : Int32} {z : Nat × (Nat → Nat → Int32) × Nat}
theorem oBriS_0 (h : z.1 = 0) : oBriS q c z = z := by rw [oBriS, if_neg (by omega)]
theorem oBris_s {a : Nat} : oBris q (a + 1) l V = oBriS q a (oBris q a l V) := rfl
theorem oBris_0 {a : Nat} (h : (oBris q a l V).1 = 0) : ∀ b, oBris q (a + b) l V = oBris q a l V
  | 0 => rfl
  | b + 1 => by
    have ih := oBris_0 h b
    show oBriS q (a + b) (oBris q (a + b) l V) = _
    rw [ih, oBriS_0 h]
theorem oBris_lt : ∀ a, (oBris q a l V).2.2 < 2 ^ a
  | 0 => by simp [oBris, zIter]
  | a + 1 => by
    have ih := oBris_lt a
    rw [oBris_s, oBriS]
    split
    · show _ + 2 ^ a < _
      rw [Nat.pow_succ]; omega
    · rw [Nat.pow_succ]; omega
theorem oBris_le : ∀ a, (oBris q a l V).1 ≤ l
  | 0 => Nat.le_refl _
  | a + 1 => by
    have ih := oBris_le a
    rw [oBris_s, oBriS]
    split
    · show (oBris q a l V).1 - 1 ≤ l; omega
    · exact ih
theorem oOk_bris {a : Nat} (h : oOk ch np wm V) : oOk ch np wm (oBris q a l V).2.1 := by
  induction a with
  | zero => exact h
  | succ a ih =>
    rw [oBris_s, oBriS]
    split
    · exact oOk_stack ih
    · exact ih
set_option maxRecDepth 20000 in
theorem cl_bringIn (hB : zBc B) (hch : ch ≤ 40) (hnp : np ≤ 5) (hl : l < 2 ^ 31) (hF : zFC B I ch V) (hok : oOk ch np wm V) (hQ : ∀ I', zKpt (zFB B) I I' → zFC B I' ch (oBris q ch l V).2.1 → Q (some (.long (lN (oBris q ch l V).2.2))) (SH, I', L, RF p s r)) : zXM w mX2_bringIn rX2_bringIn [.ref B, .int (nI q), .int (nI l)] (SH, I, L, RF p s r) Q := by
  unfold zXM
  refine zBlkR (M := mX2_bringIn) (nL := 7) (rt := (Option.some .long)) (blk := bX2_bringIn_0) (T := []) 0 hX2_bringIn_0 zChks_nil rfl rfl rfl (Nat.le_of_ble_eq_true rfl) (Nat.le_of_ble_eq_true rfl) ?_
  simp (implicitDefEqProofs := false) only [bX2_bringIn_0, zRun_cons, zRun_nil, zLk, zSto, zIns, zFil, zf0, zf1, zf2, zf3, List.filter_cons, List.filter_nil, Nat.reduceAdd, Nat.reduceEqDiff, Nat.reduceLT, Nat.reduceLeDiff, Nat.reduceBEq, Nat.reduceBNe, reduceIte, if_true, if_false, Bool.false_and, Bool.true_and, Bool.and_true, Bool.and_false, Bool.not_false, Bool.not_true, Bool.false_eq_true, beq_self_eq_true, BEq.rfl, zCat1, zCat2, zCat3, zKdI, zKdL, zKdR, true_and, and_true, zSI, zSL, zSR, zu_at, and_self, and_false, false_and, lv_args, zKdZ, zKdO, zB01, zB11, Option.toList_none, Option.toList_some, List.nil_append, List.cons_append, true_or, or_true, zRow_rd, zu_rd, zo_lconst, zo_lstore_n, zo_iload_n, zo_istore, zo_iconst, zl_0, zi_0, zcl_0, zKn_0, zCat2, zN10, zN01, not_true_eq_false, not_false_eq_true, false_implies, true_implies, implies_true, eq_self, nI_1, nI_40, nI_7, vz0, vz1, zb1_e0, zb1_n0]
  refine zLoop (n := ch) (P := fun c => ∀ J, zKpt (zFB B) I J → zFC B J ch (oBris q c l V).2.1 → zX w mX2_bringIn rX2_bringIn Q 0 0 8 [(0, Value.ref B), (1, Value.int (nI q)), (2, Value.int (nI l)), (3, Value.long (lN (oBris q c l V).2.2)), (5, Value.int (nI (oBris q c l V).1)), (6, Value.int (nI c))] [] (SH, J, L, RF p s r)) (fun c hc ih => ?_) 0 (Nat.zero_le _) I zKpt_rfl hF
  intro J hJ hFJ
  have hle := oBris_le (q := q) (l := l) (V := V) c
  have hlt := oBris_lt (q := q) (l := l) (V := V) c
  have hokc := oOk_bris (q := q) (a := c) (l := l) hok
  have f8 := hFJ.2.1
  by_cases hcc : c = ch
  · subst hcc
    refine zBlkR (M := mX2_bringIn) (nL := 7) (rt := (Option.some .long)) (blk := bX2_bringIn_8) (T := [(60, bX2_bringIn_60), (66, bX2_bringIn_66)]) 1 hX2_bringIn_8 (zChks_cons hX2_bringIn_60 (zChks_cons hX2_bringIn_66 zChks_nil)) rfl rfl rfl (Nat.le_of_ble_eq_true rfl) (Nat.le_of_ble_eq_true rfl) ?_
    simp (implicitDefEqProofs := false) only [bX2_bringIn_8, bX2_bringIn_60, bX2_bringIn_66, zRun_cons, zRun_nil, zLk, zSto, zIns, zFil, zf0, zf1, zf2, zf3, List.filter_cons, List.filter_nil, Nat.reduceAdd, Nat.reduceEqDiff, Nat.reduceLT, Nat.reduceLeDiff, Nat.reduceBEq, Nat.reduceBNe, reduceIte, if_true, if_false, Bool.false_and, Bool.true_and, Bool.and_true, Bool.and_false, Bool.not_false, Bool.not_true, Bool.false_eq_true, beq_self_eq_true, BEq.rfl, zCat1, zCat2, zCat3, zKdI, zKdL, zKdR, true_and, and_true, zSI, zSL, zSR, zu_at, and_self, and_false, false_and, lv_args, zKdZ, zKdO, zB01, zB11, Option.toList_none, Option.toList_some, List.nil_append, List.cons_append, true_or, or_true, zRow_rd, zu_rd, zo_iload, zo_aload_n, zo_getfield, zo_icmp_ge, zo_if_le, zo_iaload, zo_iconst, zo_icmp_ne, zo_iload_n, zo_iinc, zo_goto, zo_lload_n, zo_lreturn, zi_1, zKd_2_8, zKd_2_0, zKd_2_1, sh_10, sh_19, sh_28, rf_10_0, sh_11, rf_19_0, sh_20, rf_28_0, sh_29, zcl_1, rf_10_1, sh_12, rf_19_1, sh_21, rf_28_1, sh_30, zvi_1_40, zKn_s, zKn_0, zFind, (fsh_0 hB), (fsh_1 hB), (fsh_2 hB), (fsh_3 hB), (fsh_4 hB), (fsh_5 hB), (fsh_6 hB), (fsh_7 hB), (fsh_8 hB), (frf_0 hB), (frf_1 hB), (frf_2 hB), (frf_3 hB), (frf_4 hB), (frf_5 hB), (frf_6 hB), (frf_7 hB), Nat.add_left_cancel_iff, Nat.left_eq_add, Nat.add_eq_left, f8, zCat2, zle_nat (a := c) (b := c) (by omega) (by omega), Nat.le_refl, zN10, zN01, not_true_eq_false, not_false_eq_true, false_implies, true_implies, implies_true, eq_self, nI_1, nI_40, nI_7, vz0, vz1, zb1_e0, zb1_n0]
    exact hQ J hJ hFJ
  have hx : (nI ch ≤ nI c) = False := eq_false (by rw [zle_nat (by omega) (by omega)]; omega)
  by_cases hz : (oBris q c l V).1 = 0
  · have hz2 : (nI (oBris q c l V).1 ≤ 0) = True := eq_true (by rw [hz]; decide)
    refine zBlkR (M := mX2_bringIn) (nL := 7) (rt := (Option.some .long)) (blk := bX2_bringIn_8) (T := [(60, bX2_bringIn_60), (66, bX2_bringIn_66)]) 1 hX2_bringIn_8 (zChks_cons hX2_bringIn_60 (zChks_cons hX2_bringIn_66 zChks_nil)) rfl rfl rfl (Nat.le_of_ble_eq_true rfl) (Nat.le_of_ble_eq_true rfl) ?_
    simp (implicitDefEqProofs := false) only [bX2_bringIn_8, bX2_bringIn_60, bX2_bringIn_66, zRun_cons, zRun_nil, zLk, zSto, zIns, zFil, zf0, zf1, zf2, zf3, List.filter_cons, List.filter_nil, Nat.reduceAdd, Nat.reduceEqDiff, Nat.reduceLT, Nat.reduceLeDiff, Nat.reduceBEq, Nat.reduceBNe, reduceIte, if_true, if_false, Bool.false_and, Bool.true_and, Bool.and_true, Bool.and_false, Bool.not_false, Bool.not_true, Bool.false_eq_true, beq_self_eq_true, BEq.rfl, zCat1, zCat2, zCat3, zKdI, zKdL, zKdR, true_and, and_true, zSI, zSL, zSR, zu_at, and_self, and_false, false_and, lv_args, zKdZ, zKdO, zB01, zB11, Option.toList_none, Option.toList_some, List.nil_append, List.cons_append, true_or, or_true, zRow_rd, zu_rd, zo_iload, zo_aload_n, zo_getfield, zo_icmp_ge, zo_if_le, zo_iaload, zo_iconst, zo_icmp_ne, zo_iload_n, zo_iinc, zo_goto, zo_lload_n, zo_lreturn, zi_1, zKd_2_8, zKd_2_0, zKd_2_1, sh_10, sh_19, sh_28, rf_10_0, sh_11, rf_19_0, sh_20, rf_28_0, sh_29, zcl_1, rf_10_1, sh_12, rf_19_1, sh_21, rf_28_1, sh_30, zvi_1_40, zKn_s, zKn_0, zFind, (fsh_0 hB), (fsh_1 hB), (fsh_2 hB), (fsh_3 hB), (fsh_4 hB), (fsh_5 hB), (fsh_6 hB), (fsh_7 hB), (fsh_8 hB), (frf_0 hB), (frf_1 hB), (frf_2 hB), (frf_3 hB), (frf_4 hB), (frf_5 hB), (frf_6 hB), (frf_7 hB), Nat.add_left_cancel_iff, Nat.left_eq_add, Nat.add_eq_left, f8, hx, hz2, zCat2, zN10, zN01, not_true_eq_false, not_false_eq_true, false_implies, true_implies, implies_true, eq_self, nI_1, nI_40, nI_7, vz0, vz1, zb1_e0, zb1_n0]
    have := oBris_0 hz (ch - c)
    rw [show c + (ch - c) = ch by omega] at this
    rw [this] at hQ
    exact hQ J hJ hFJ
  have hz2 : (nI (oBris q c l V).1 ≤ 0) = False := eq_false (nI_nle (by omega) (by omega))
  have hc4 : c < 40 := by omega
  have hv : vp_in (nI c) 40 := zvn (by omega) (by omega)
  have ih := ih (by omega)
  rw [oBris_s] at ih
  have v1 := hFJ.v1 hc4
  have v2 := hFJ.v2 hc4
  generalize hzE : oBris q c l V = z at *
  refine zBlkR (M := mX2_bringIn) (nL := 7) (rt := (Option.some .long)) (blk := bX2_bringIn_8) (T := [(60, bX2_bringIn_60), (66, bX2_bringIn_66)]) 1 hX2_bringIn_8 (zChks_cons hX2_bringIn_60 (zChks_cons hX2_bringIn_66 zChks_nil)) rfl rfl rfl (Nat.le_of_ble_eq_true rfl) (Nat.le_of_ble_eq_true rfl) ?_
  simp (implicitDefEqProofs := false) only [bX2_bringIn_8, bX2_bringIn_60, bX2_bringIn_66, zRun_cons, zRun_nil, zLk, zSto, zIns, zFil, zf0, zf1, zf2, zf3, List.filter_cons, List.filter_nil, Nat.reduceAdd, Nat.reduceEqDiff, Nat.reduceLT, Nat.reduceLeDiff, Nat.reduceBEq, Nat.reduceBNe, reduceIte, if_true, if_false, Bool.false_and, Bool.true_and, Bool.and_true, Bool.and_false, Bool.not_false, Bool.not_true, Bool.false_eq_true, beq_self_eq_true, BEq.rfl, zCat1, zCat2, zCat3, zKdI, zKdL, zKdR, true_and, and_true, zSI, zSL, zSR, zu_at, and_self, and_false, false_and, lv_args, zKdZ, zKdO, zB01, zB11, Option.toList_none, Option.toList_some, List.nil_append, List.cons_append, true_or, or_true, zRow_rd, zu_rd, zo_iload, zo_aload_n, zo_getfield, zo_icmp_ge, zo_if_le, zo_iaload, zo_iconst, zo_icmp_ne, zo_iload_n, zo_iinc, zo_goto, zo_lload_n, zo_lreturn, zi_1, zKd_2_8, zKd_2_0, zKd_2_1, sh_10, sh_19, sh_28, rf_10_0, sh_11, rf_19_0, sh_20, rf_28_0, sh_29, zcl_1, rf_10_1, sh_12, rf_19_1, sh_21, rf_28_1, sh_30, zvi_1_40, zKn_s, zKn_0, zFind, (fsh_0 hB), (fsh_1 hB), (fsh_2 hB), (fsh_3 hB), (fsh_4 hB), (fsh_5 hB), (fsh_6 hB), (fsh_7 hB), (fsh_8 hB), (frf_0 hB), (frf_1 hB), (frf_2 hB), (frf_3 hB), (frf_4 hB), (frf_5 hB), (frf_6 hB), (frf_7 hB), Nat.add_left_cancel_iff, Nat.left_eq_add, Nat.add_eq_left, f8, hx, hz2, hv, v1, v2, zCat2, nI_clamp (n := c) (by omega), zN10, zN01, not_true_eq_false, not_false_eq_true, false_implies, true_implies, implies_true, eq_self, nI_1, nI_40, nI_7, vz0, vz1, zb1_e0, zb1_n0]
  refine ⟨fun h => ?_, fun h => ⟨fun h2 => ?_, fun h2 => ?_⟩⟩
  · rw [oBriS, if_neg (fun g => h g.2.1)] at ih
    exact ih J hJ hFJ
  · rw [oBriS, if_neg (fun g => h2 g.2.2)] at ih
    exact ih J hJ hFJ
  · refine z_cV0 (M' := mX2_setStacked) (R' := rX2_setStacked) (i := B) [.int (nI c)] [] eX2_setStacked k2_88 (by decide +kernel : decode cX2_bringIn 47 = .ok (.invokevirtual 88, 3)) (Nat.le_of_ble_eq_true rfl) ⟨Nat.le_of_ble_eq_true rfl, Nat.le_of_ble_eq_true rfl, Nat.le_of_ble_eq_true rfl, Nat.le_of_ble_eq_true rfl, Nat.le_of_ble_eq_true rfl⟩ rfl rfl rfl (fsh_0 hB) ?_
    refine cl_setStacked hB (by omega) hch hnp hFJ hokc (fun I1 k1 f1 => ?_)
    rw [oBriS, if_pos ⟨by omega, h, h2⟩] at ih
    have x1 : nI z.1 + -1 = nI (z.1 - 1) := by
      have : z.1 = (z.1 - 1) + 1 := by omega
      rw [this, pk_m1]; simp
    refine zBlkR (M := mX2_bringIn) (nL := 7) (rt := (Option.some .long)) (blk := bX2_bringIn_50) (T := []) 0 hX2_bringIn_50 zChks_nil rfl rfl rfl (Nat.le_of_ble_eq_true rfl) (Nat.le_of_ble_eq_true rfl) ?_
    simp (implicitDefEqProofs := false) only [bX2_bringIn_50, zRun_cons, zRun_nil, zLk, zSto, zIns, zFil, zf0, zf1, zf2, zf3, List.filter_cons, List.filter_nil, Nat.reduceAdd, Nat.reduceEqDiff, Nat.reduceLT, Nat.reduceLeDiff, Nat.reduceBEq, Nat.reduceBNe, reduceIte, if_true, if_false, Bool.false_and, Bool.true_and, Bool.and_true, Bool.and_false, Bool.not_false, Bool.not_true, Bool.false_eq_true, beq_self_eq_true, BEq.rfl, zCat1, zCat2, zCat3, zKdI, zKdL, zKdR, true_and, and_true, zSI, zSL, zSR, zu_at, and_self, and_false, false_and, lv_args, zKdZ, zKdO, zB01, zB11, Option.toList_none, Option.toList_some, List.nil_append, List.cons_append, true_or, or_true, zRow_rd, zu_rd, zo_lload_n, zo_lconst, zo_iload, zo_lshl, zo_lor, zo_lstore_n, zo_iinc, zo_goto, zl_1, zi_m1, zi_1, zKn_0, x1, zCat2, zbit hlt (by omega), zN10, zN01, not_true_eq_false, not_false_eq_true, false_implies, true_implies, implies_true, eq_self, nI_1, nI_40, nI_7, vz0, vz1, zb1_e0, zb1_n0]
    exact ih I1 (hJ.trans k1) f1
/-! how many were moved -/
theorem oPuts_pc (ha : i ≤ 40) : pcN (oPuts q i l V).2.2 + (oPuts q i l V).1 = l := by
  induction i with
  | zero => simp only [oPuts, zIter]; have : pcN 0 = 0 := by decide
            omega
  | succ i ih =>
    have ih := ih (by omega)
    have hlt := oPuts_lt (q := q) (l := l) (V := V) i
    rw [oPuts_s, oPutS]
    split
    · rename_i h
      show pcN ((oPuts q i l V).2.2 + 2 ^ i) + ((oPuts q i l V).1 - 1) = l
      rw [pcN_add hlt (by omega)]; omega
    · exact ih
theorem oBris_pc (ha : i ≤ 40) : pcN (oBris q i l V).2.2 + (oBris q i l V).1 = l := by
  induction i with
  | zero => simp only [oBris, zIter]; have : pcN 0 = 0 := by decide
            omega
  | succ i ih =>
    have ih := ih (by omega)
    have hlt := oBris_lt (q := q) (l := l) (V := V) i
    rw [oBris_s, oBriS]
    split
    · rename_i h
      show pcN ((oBris q i l V).2.2 + 2 ^ i) + ((oBris q i l V).1 - 1) = l
      rw [pcN_add hlt (by omega)]; omega
    · exact ih
/-- which chairs were moved: these bits -/
theorem oPuts_bit {a : Nat} : (oPuts q a l V).2.2.testBit c = true → c < a ∧ V 1 c = 0 := by
  induction a with
  | zero => intro h; simp [oPuts, zIter] at h
  | succ a ih =>
    have hlt := oPuts_lt (q := q) (l := l) (V := V) a
    have hhi := oPuts_hi (q := q) (l := l) (V := V) (a := a) (i := 1) (c := a) (Nat.le_refl _)
    rw [oPuts_s, oPutS]
    split
    · rename_i h
      intro g
      have g : ((oPuts q a l V).2.2 + 2 ^ a).testBit c = true := g
      rw [← or_pow hlt, Nat.testBit_or, Nat.testBit_two_pow] at g
      by_cases e : a = c
      · subst e; rw [hhi] at h; exact ⟨by omega, h.2⟩
      · rw [decide_eq_false e, Bool.or_false] at g
        have := ih g
        exact ⟨by omega, this.2⟩
    · intro g
      have := ih g
      exact ⟨by omega, this.2⟩
/-- chairs put out, told by their bits -/
theorem oPuts_V {a : Nat} : (oPuts q a l V).2.1 i c = if (oPuts q a l V).2.2.testBit c = true then (if i = 1 then 1 else if i = 2 then nI q else V i c) else V i c := by
  induction a with
  | zero => simp [oPuts, zIter]
  | succ a ih =>
    have hlt := oPuts_lt (q := q) (l := l) (V := V) a
    rw [oPuts_s, oPutS]
    split
    · rename_i h
      show oPutC q a (oPuts q a l V).2.1 i c = if ((oPuts q a l V).2.2 + 2 ^ a).testBit c = true then _ else _
      rw [oPutC, if_pos h.2, ← or_pow hlt, Nat.testBit_or, Nat.testBit_two_pow]
      simp only [zu_at]
      by_cases e : c = a
      · subst e
        have hb : (oPuts q c l V).2.2.testBit c = false := Nat.testBit_lt_two_pow hlt
        rw [hb] at ih ⊢
        simp only [Bool.false_eq_true, if_false] at ih
        by_cases i1 : i = 1
        · subst i1; simp
        · by_cases i2 : i = 2
          · subst i2; simp
          · simp [i1, i2, ih]
      · have e' : ¬ a = c := fun g => e g.symm
        simp only [e, and_false, if_false, e', decide_false, Bool.or_false]
        exact ih
    · exact ih
theorem oBris_hi {a i c : Nat} (hc : a ≤ c) : (oBris q a l V).2.1 i c = V i c := by
  induction a with
  | zero => rfl
  | succ a ih =>
    rw [oBris_s, oBriS]
    split
    · show oStack a (oBris q a l V).2.1 i c = _
      unfold oStack
      split
      · simp only [zu_at, show c ≠ a by omega, and_false, if_false]
        exact ih (by omega)
      · exact ih (by omega)
    · exact ih (by omega)
theorem oBris_bit {a : Nat} : (oBris q a l V).2.2.testBit c = true → c < a ∧ V 1 c = 1 ∧ V 2 c = nI q := by
  induction a with
  | zero => intro h; simp [oBris, zIter] at h
  | succ a ih =>
    have hlt := oBris_lt (q := q) (l := l) (V := V) a
    have h1 := oBris_hi (q := q) (l := l) (V := V) (a := a) (i := 1) (c := a) (Nat.le_refl _)
    have h2 := oBris_hi (q := q) (l := l) (V := V) (a := a) (i := 2) (c := a) (Nat.le_refl _)
    rw [oBris_s, oBriS]
    split
    · rename_i h
      intro g
      have g : ((oBris q a l V).2.2 + 2 ^ a).testBit c = true := g
      rw [← or_pow hlt, Nat.testBit_or, Nat.testBit_two_pow] at g
      by_cases e : a = c
      · subst e; rw [h1, h2] at h; exact ⟨by omega, h.2⟩
      · rw [decide_eq_false e, Bool.or_false] at g
        have := ih g
        exact ⟨by omega, this.2⟩
    · intro g
      have := ih g
      exact ⟨by omega, this.2⟩
theorem oBris_V {a : Nat} : (oBris q a l V).2.1 i c = if (oBris q a l V).2.2.testBit c = true then (if i = 1 then 0 else if i = 2 then -1 else V i c) else V i c := by
  induction a with
  | zero => simp [oBris, zIter]
  | succ a ih =>
    have hlt := oBris_lt (q := q) (l := l) (V := V) a
    rw [oBris_s, oBriS]
    split
    · rename_i h
      show oStack a (oBris q a l V).2.1 i c = if ((oBris q a l V).2.2 + 2 ^ a).testBit c = true then _ else _
      rw [oStack, if_pos h.2.1, ← or_pow hlt, Nat.testBit_or, Nat.testBit_two_pow]
      simp only [zu_at]
      by_cases e : c = a
      · subst e
        have hb : (oBris q c l V).2.2.testBit c = false := Nat.testBit_lt_two_pow hlt
        rw [hb] at ih ⊢
        simp only [Bool.false_eq_true, if_false] at ih
        by_cases i1 : i = 1
        · subst i1; simp
        · by_cases i2 : i = 2
          · subst i2; simp
          · simp [i1, i2, ih]
      · have e' : ¬ a = c := fun g => e g.symm
        simp only [e, and_false, if_false, e', decide_false, Bool.or_false]
        exact ih
    · exact ih
end ZD88
