/-! ===== THE BOOK in the reference ===== -/
def zS131 (i _k : Nat) : Prop := i = 131
section ZB85
variable {w : zP} {Q : Option Value → zMem → Prop} {μ : zMem} {I J V V' : Nat → Nat → Int32} {L : Nat → Nat → Int64} {p s t kc : Nat} {r : Option Nat} {P : oPn} {n i j k v : Nat} {x y z u one two : Int32} {e : Bool} {b : oBk} {sk : Nat → Option Nat}
theorem zr_131 (h : zKpt zS131 I J) (hB : zrBook I b) : zrBook J b := by
  obtain ⟨h4, h5, h6⟩ := hB
  have e : ∀ i, i ≠ 131 → J i = I i := fun i hi => funext fun k => h i k hi
  unfold zrBook
  rw [e 87 (by omega), e 129 (by omega), e 130 (by omega)]
  exact ⟨h4, h5, h6⟩
set_option maxRecDepth 20000 in
theorem mo_layCounts (hB : zrBook I b) (hO : BkOk b) (hQ : ∀ I', zKpt zS131 I I' → (∀ i, i < oKn b → I' 131 i = zb1 (!oStr b.2.2.1 (oKn b) (oKn b) i && (b.2.2.1 i).isNone)) → Q none (SH, I', L, RF p s r)) : zXM w mX10_layCounts rX10_layCounts [.ref 87] (SH, I, L, RF p s r) Q := by
  unfold zXM
  have hkn := oKn_le hO
  have h60 := hO.1
  have vz1' : vp_nar .boolean 1 = 1 := rfl
  have vz0' : vp_nar .boolean 0 = 0 := rfl
  have kn : ∀ J, zKpt zS131 I J → zrBook J b := fun J hJ => zr_131 hJ hB
  generalize hn : oKn b = n at *
  -- the last loop
  have l3 : ∀ J, zKpt zS131 I J → (∀ i, i < n → J 131 i = zb1 (!oStr b.2.2.1 n n i)) → zX w mX10_layCounts rX10_layCounts Q 0 0 72 [(0, Value.ref 87), (1, Value.int (nI 0))] [] (SH, J, L, RF p s r) := by
    intro J0 hJ0 hS0
    refine zLoop (n := n) (P := fun k => ∀ J, zKpt zS131 I J → (∀ i, i < k → J 131 i = zb1 (!oStr b.2.2.1 n n i && (b.2.2.1 i).isNone)) → (∀ i, k ≤ i → i < n → J 131 i = zb1 (!oStr b.2.2.1 n n i)) → zX w mX10_layCounts rX10_layCounts Q 0 0 72 [(0, Value.ref 87), (1, Value.int (nI k))] [] (SH, J, L, RF p s r)) (fun k hk ih => ?_) 0 (Nat.zero_le _) J0 hJ0 (fun i hi => absurd hi (by omega)) (fun i _ hi => hS0 i hi)
    intro J hJ hlo hhi
    refine zBlkR (M := mX10_layCounts) (nL := 2) (rt := (Option.none : Option Jvm.ClassFile.FieldType)) (blk := bX10_layCounts_72) (T := []) 0 hX10_layCounts_72 zChks_nil rfl rfl rfl (Nat.le_of_ble_eq_true rfl) (Nat.le_of_ble_eq_true rfl) ?_
    simp (implicitDefEqProofs := false) only [bX10_layCounts_72, zRun_cons, zRun_nil, zLk, zSto, zIns, zFil, zf0, zf1, zf2, zf3, List.filter_cons, List.filter_nil, Nat.reduceAdd, Nat.reduceEqDiff, Nat.reduceLT, Nat.reduceLeDiff, Nat.reduceBEq, Nat.reduceBNe, reduceIte, if_true, if_false, Bool.false_and, Bool.true_and, Bool.and_true, Bool.and_false, Bool.not_false, Bool.not_true, Bool.false_eq_true, beq_self_eq_true, BEq.rfl, zCat1, zCat2, zCat3, zKdI, zKdL, zKdR, true_and, and_true, zSI, zSL, zSR, zu_at, and_self, and_false, false_and, lv_args, zKdZ, zKdO, zB01, zB11, Option.toList_none, Option.toList_some, List.nil_append, List.cons_append, true_or, or_true, zRow_rd, zu_rd, zo_iload_n, zo_aload_n, zKn_0, zN10, zN01, not_true_eq_false, not_false_eq_true, false_implies, true_implies, implies_true, eq_self, nI_1, nI_40, nI_7, vz0, vz1, zb1_e0, zb1_n0]
    refine z_cV0 (M' := mX10_knownBy) (R' := rX10_knownBy) (i := 87) [] [.int (nI k)] eX10_knownBy k10_563 (by decide +kernel : decode cX10_layCounts 74 = .ok (.invokevirtual 563, 3)) (Nat.le_of_ble_eq_true rfl) ⟨Nat.le_of_ble_eq_true rfl, Nat.le_of_ble_eq_true rfl, Nat.le_of_ble_eq_true rfl, Nat.le_of_ble_eq_true rfl, Nat.le_of_ble_eq_true rfl⟩ rfl rfl rfl sh_87 ?_
    refine mo_knownBy (kn J hJ) hO ?_
    rw [hn]
    by_cases hke : k = n
    · subst hke
      refine zBlkR (M := mX10_layCounts) (nL := 2) (rt := (Option.none : Option Jvm.ClassFile.FieldType)) (blk := bX10_layCounts_77) (T := [(107, bX10_layCounts_107), (108, bX10_layCounts_108), (115, bX10_layCounts_115)]) 1 hX10_layCounts_77 (zChks_cons hX10_layCounts_107 (zChks_cons hX10_layCounts_108 (zChks_cons hX10_layCounts_115 zChks_nil))) rfl rfl rfl (Nat.le_of_ble_eq_true rfl) (Nat.le_of_ble_eq_true rfl) ?_
      simp (implicitDefEqProofs := false) only [bX10_layCounts_77, bX10_layCounts_107, bX10_layCounts_108, bX10_layCounts_115, zRun_cons, zRun_nil, zLk, zSto, zIns, zFil, zf0, zf1, zf2, zf3, List.filter_cons, List.filter_nil, Nat.reduceAdd, Nat.reduceEqDiff, Nat.reduceLT, Nat.reduceLeDiff, Nat.reduceBEq, Nat.reduceBNe, reduceIte, if_true, if_false, Bool.false_and, Bool.true_and, Bool.and_true, Bool.and_false, Bool.not_false, Bool.not_true, Bool.false_eq_true, beq_self_eq_true, BEq.rfl, zCat1, zCat2, zCat3, zKdI, zKdL, zKdR, true_and, and_true, zSI, zSL, zSR, zu_at, and_self, and_false, false_and, lv_args, zKdZ, zKdO, zB01, zB11, Option.toList_none, Option.toList_some, List.nil_append, List.cons_append, true_or, or_true, zRow_rd, zu_rd, zo_icmp_ge, zo_aload_n, zo_getfield, zo_iload_n, zo_baload, zo_if_eq, zo_iaload, zo_if_lt, zo_iconst, zo_goto, zo_bastore, zo_iinc, zo_return_, zi_1, zi_0, zKd_10_89, zKd_10_87, sh_87, rf_87_89, sh_131, rf_87_87, sh_129, zcl_1, zcl_0, zvi_1_60, zvi_0_60, zKn_s, zKn_0, zFind, zle_nat (a := k) (b := k) (by omega) (by omega), Nat.le_refl, zN10, zN01, not_true_eq_false, not_false_eq_true, false_implies, true_implies, implies_true, eq_self, nI_1, nI_40, nI_7, vz0, vz1, zb1_e0, zb1_n0]
      exact hQ J hJ hlo
    have hx : (nI n ≤ nI k) = False := eq_false (by rw [zle_nat (by omega) (by omega)]; omega)
    have hv : vp_in (nI k) 60 := zvn (by omega) (by omega)
    have ec := hhi k (Nat.le_refl _) (by omega)
    obtain ⟨b1, b2⟩ := (kn J hJ).2.2 k (by omega)
    have ih := ih (by omega)
    have fin : ∀ v : Int32, v = zb1 (!oStr b.2.2.1 n n k && (b.2.2.1 k).isNone) → zX w mX10_layCounts rX10_layCounts Q 0 0 72 [(0, Value.ref 87), (1, Value.int (nI (k + 1)))] [] (SH, zu J 131 k v, L, RF p s r) := by
      intro v hv'
      refine ih _ (hJ.u (show zS131 131 _ from rfl)) (fun i hi => ?_) (fun i h1 h2 => ?_)
      · rw [zu_at]
        by_cases ei : i = k
        · subst ei; simpa using hv'
        · rw [if_neg (fun g => ei g.2)]; exact hlo i (by omega)
      · rw [zu_at, if_neg (fun g => by omega)]; exact hhi i (by omega) h2
    cases hst : oStr b.2.2.1 n n k with
    | true =>
      rw [hst] at ec fin
      have ec : J 131 k = 0 := ec
      refine zBlkR (M := mX10_layCounts) (nL := 2) (rt := (Option.none : Option Jvm.ClassFile.FieldType)) (blk := bX10_layCounts_77) (T := [(107, bX10_layCounts_107), (108, bX10_layCounts_108), (115, bX10_layCounts_115)]) 1 hX10_layCounts_77 (zChks_cons hX10_layCounts_107 (zChks_cons hX10_layCounts_108 (zChks_cons hX10_layCounts_115 zChks_nil))) rfl rfl rfl (Nat.le_of_ble_eq_true rfl) (Nat.le_of_ble_eq_true rfl) ?_
      simp (implicitDefEqProofs := false) only [bX10_layCounts_77, bX10_layCounts_107, bX10_layCounts_108, bX10_layCounts_115, zRun_cons, zRun_nil, zLk, zSto, zIns, zFil, zf0, zf1, zf2, zf3, List.filter_cons, List.filter_nil, Nat.reduceAdd, Nat.reduceEqDiff, Nat.reduceLT, Nat.reduceLeDiff, Nat.reduceBEq, Nat.reduceBNe, reduceIte, if_true, if_false, Bool.false_and, Bool.true_and, Bool.and_true, Bool.and_false, Bool.not_false, Bool.not_true, Bool.false_eq_true, beq_self_eq_true, BEq.rfl, zCat1, zCat2, zCat3, zKdI, zKdL, zKdR, true_and, and_true, zSI, zSL, zSR, zu_at, and_self, and_false, false_and, lv_args, zKdZ, zKdO, zB01, zB11, Option.toList_none, Option.toList_some, List.nil_append, List.cons_append, true_or, or_true, zRow_rd, zu_rd, zo_icmp_ge, zo_aload_n, zo_getfield, zo_iload_n, zo_baload, zo_if_eq, zo_iaload, zo_if_lt, zo_iconst, zo_goto, zo_bastore, zo_iinc, zo_return_, zi_1, zi_0, zKd_10_89, zKd_10_87, sh_87, rf_87_89, sh_131, rf_87_87, sh_129, zcl_1, zcl_0, zvi_1_60, zvi_0_60, zKn_s, zKn_0, zFind, hx, hv, ec, vz0', nI_clamp (n := k) (by omega), zN10, zN01, not_true_eq_false, not_false_eq_true, false_implies, true_implies, implies_true, eq_self, nI_1, nI_40, nI_7, vz0, vz1, zb1_e0, zb1_n0]
      exact fin 0 rfl
    | false =>
      rw [hst] at ec fin
      have ec : J 131 k = 1 := ec
      cases hsk : b.2.2.1 k with
      | some q =>
        rw [hsk] at fin
        have e129 := (b1 q hsk).1
        have m1 : ((-1 : Int32) < 0) = True := eq_true (by decide)
        refine zBlkR (M := mX10_layCounts) (nL := 2) (rt := (Option.none : Option Jvm.ClassFile.FieldType)) (blk := bX10_layCounts_77) (T := [(107, bX10_layCounts_107), (108, bX10_layCounts_108), (115, bX10_layCounts_115)]) 1 hX10_layCounts_77 (zChks_cons hX10_layCounts_107 (zChks_cons hX10_layCounts_108 (zChks_cons hX10_layCounts_115 zChks_nil))) rfl rfl rfl (Nat.le_of_ble_eq_true rfl) (Nat.le_of_ble_eq_true rfl) ?_
        simp (implicitDefEqProofs := false) only [bX10_layCounts_77, bX10_layCounts_107, bX10_layCounts_108, bX10_layCounts_115, zRun_cons, zRun_nil, zLk, zSto, zIns, zFil, zf0, zf1, zf2, zf3, List.filter_cons, List.filter_nil, Nat.reduceAdd, Nat.reduceEqDiff, Nat.reduceLT, Nat.reduceLeDiff, Nat.reduceBEq, Nat.reduceBNe, reduceIte, if_true, if_false, Bool.false_and, Bool.true_and, Bool.and_true, Bool.and_false, Bool.not_false, Bool.not_true, Bool.false_eq_true, beq_self_eq_true, BEq.rfl, zCat1, zCat2, zCat3, zKdI, zKdL, zKdR, true_and, and_true, zSI, zSL, zSR, zu_at, and_self, and_false, false_and, lv_args, zKdZ, zKdO, zB01, zB11, Option.toList_none, Option.toList_some, List.nil_append, List.cons_append, true_or, or_true, zRow_rd, zu_rd, zo_icmp_ge, zo_aload_n, zo_getfield, zo_iload_n, zo_baload, zo_if_eq, zo_iaload, zo_if_lt, zo_iconst, zo_goto, zo_bastore, zo_iinc, zo_return_, zi_1, zi_0, zKd_10_89, zKd_10_87, sh_87, rf_87_89, sh_131, rf_87_87, sh_129, zcl_1, zcl_0, zvi_1_60, zvi_0_60, zKn_s, zKn_0, zFind, hx, hv, ec, e129, m1, vz0', nI_clamp (n := k) (by omega), zN10, zN01, not_true_eq_false, not_false_eq_true, false_implies, true_implies, implies_true, eq_self, nI_1, nI_40, nI_7, vz0, vz1, zb1_e0, zb1_n0]
        exact fin 0 rfl
      | none =>
        rw [hsk] at fin
        have e129 := (b2 hsk).1
        have m1 := (hO.2.2 k (by omega)).2 hsk
        refine zBlkR (M := mX10_layCounts) (nL := 2) (rt := (Option.none : Option Jvm.ClassFile.FieldType)) (blk := bX10_layCounts_77) (T := [(107, bX10_layCounts_107), (108, bX10_layCounts_108), (115, bX10_layCounts_115)]) 1 hX10_layCounts_77 (zChks_cons hX10_layCounts_107 (zChks_cons hX10_layCounts_108 (zChks_cons hX10_layCounts_115 zChks_nil))) rfl rfl rfl (Nat.le_of_ble_eq_true rfl) (Nat.le_of_ble_eq_true rfl) ?_
        simp (implicitDefEqProofs := false) only [bX10_layCounts_77, bX10_layCounts_107, bX10_layCounts_108, bX10_layCounts_115, zRun_cons, zRun_nil, zLk, zSto, zIns, zFil, zf0, zf1, zf2, zf3, List.filter_cons, List.filter_nil, Nat.reduceAdd, Nat.reduceEqDiff, Nat.reduceLT, Nat.reduceLeDiff, Nat.reduceBEq, Nat.reduceBNe, reduceIte, if_true, if_false, Bool.false_and, Bool.true_and, Bool.and_true, Bool.and_false, Bool.not_false, Bool.not_true, Bool.false_eq_true, beq_self_eq_true, BEq.rfl, zCat1, zCat2, zCat3, zKdI, zKdL, zKdR, true_and, and_true, zSI, zSL, zSR, zu_at, and_self, and_false, false_and, lv_args, zKdZ, zKdO, zB01, zB11, Option.toList_none, Option.toList_some, List.nil_append, List.cons_append, true_or, or_true, zRow_rd, zu_rd, zo_icmp_ge, zo_aload_n, zo_getfield, zo_iload_n, zo_baload, zo_if_eq, zo_iaload, zo_if_lt, zo_iconst, zo_goto, zo_bastore, zo_iinc, zo_return_, zi_1, zi_0, zKd_10_89, zKd_10_87, sh_87, rf_87_89, sh_131, rf_87_87, sh_129, zcl_1, zcl_0, zvi_1_60, zvi_0_60, zKn_s, zKn_0, zFind, hx, hv, ec, e129, m1, vz1', nI_clamp (n := k) (by omega), zN10, zN01, not_true_eq_false, not_false_eq_true, false_implies, true_implies, implies_true, eq_self, nI_1, nI_40, nI_7, vz0, vz1, zb1_e0, zb1_n0]
        exact fin 1 rfl
  -- from the last to the first
  have hsk0 : ∀ k, k < n → ∀ q, b.2.2.1 k = some q → q < k := fun k hk q hq => (hO.2.2 k (by omega)).1 q hq
  have l2 : ∀ j, j ≤ n → ∀ J, zKpt zS131 I J → (∀ i, i < n → J 131 i = zb1 (!oStr b.2.2.1 n j i)) → zX w mX10_layCounts rX10_layCounts Q 0 0 30 [(0, Value.ref 87), (1, Value.int (nI (n - j) - 1))] [] (SH, J, L, RF p s r) := by
    refine zLoop (n := n) (fun j hj ih => ?_)
    intro J hJ hS
    by_cases hjn : j = n
    · subst hjn
      have e1 : nI (j - j) - 1 = (-1 : Int32) := by rw [Nat.sub_self]; decide
      rw [e1]
      have n1 : ((-1 : Int32) < 0) = True := eq_true (by decide)
      refine zBlkR (M := mX10_layCounts) (nL := 2) (rt := (Option.none : Option Jvm.ClassFile.FieldType)) (blk := bX10_layCounts_30) (T := [(64, bX10_layCounts_64), (70, bX10_layCounts_70)]) 1 hX10_layCounts_30 (zChks_cons hX10_layCounts_64 (zChks_cons hX10_layCounts_70 zChks_nil)) rfl rfl rfl (Nat.le_of_ble_eq_true rfl) (Nat.le_of_ble_eq_true rfl) ?_
      simp (implicitDefEqProofs := false) only [bX10_layCounts_30, bX10_layCounts_64, bX10_layCounts_70, zRun_cons, zRun_nil, zLk, zSto, zIns, zFil, zf0, zf1, zf2, zf3, List.filter_cons, List.filter_nil, Nat.reduceAdd, Nat.reduceEqDiff, Nat.reduceLT, Nat.reduceLeDiff, Nat.reduceBEq, Nat.reduceBNe, reduceIte, if_true, if_false, Bool.false_and, Bool.true_and, Bool.and_true, Bool.and_false, Bool.not_false, Bool.not_true, Bool.false_eq_true, beq_self_eq_true, BEq.rfl, zCat1, zCat2, zCat3, zKdI, zKdL, zKdR, true_and, and_true, zSI, zSL, zSR, zu_at, and_self, and_false, false_and, lv_args, zKdZ, zKdO, zB01, zB11, Option.toList_none, Option.toList_some, List.nil_append, List.cons_append, true_or, or_true, zRow_rd, zu_rd, zo_iload_n, zo_if_lt, zo_aload_n, zo_getfield, zo_baload, zo_if_eq, zo_iaload, zo_if_ge, zo_iconst, zo_bastore, zo_iinc, zo_goto, zo_istore_n, zi_0, zi_m1, zKd_10_89, zKd_10_87, zKd_10_88, sh_87, rf_87_89, sh_131, rf_87_87, sh_129, rf_87_88, sh_130, zcl_0, zvi_0_60, zKn_s, zKn_0, zFind, n1, zN10, zN01, not_true_eq_false, not_false_eq_true, false_implies, true_implies, implies_true, eq_self, nI_1, nI_40, nI_7, vz0, vz1, zb1_e0, zb1_n0]
      exact l3 J hJ hS
    have e1 : nI (n - j) - 1 = nI (n - 1 - j) := by
      have : n - j = (n - 1 - j) + 1 := by omega
      rw [this, nI_pred]
    rw [e1]
    have hi : n - 1 - j < n := by omega
    have x1 : nI (n - 1 - j) + -1 = nI (n - (j + 1)) - 1 := by
      rw [show n - (j + 1) = n - 1 - j by omega]; exact (Int32.sub_eq_add_neg _ _).symm
    have n1 : (nI (n - 1 - j) < 0) = False := eq_false (nI_nn (by omega))
    have hv : vp_in (nI (n - 1 - j)) 60 := zvn (by omega) (by omega)
    have es := hS (n - 1 - j) hi
    obtain ⟨b1, b2⟩ := (kn J hJ).2.2 (n - 1 - j) (by omega)
    have ih := ih (by omega)
    have hss := oStr_s (sk := b.2.2.1) (n := n) (j := j)
    have hkk := hsk0 (n - 1 - j) hi
    have hO2 := hO.2.2 (n - 1 - j) (by omega)
    generalize n - 1 - j = i at *
    cases hst : oStr b.2.2.1 n j i with
    | true =>
      rw [hst] at es hss
      have es : J 131 i = 0 := es
      rw [if_pos rfl] at hss
      rw [hss] at ih
      refine zBlkR (M := mX10_layCounts) (nL := 2) (rt := (Option.none : Option Jvm.ClassFile.FieldType)) (blk := bX10_layCounts_30) (T := [(64, bX10_layCounts_64), (70, bX10_layCounts_70)]) 1 hX10_layCounts_30 (zChks_cons hX10_layCounts_64 (zChks_cons hX10_layCounts_70 zChks_nil)) rfl rfl rfl (Nat.le_of_ble_eq_true rfl) (Nat.le_of_ble_eq_true rfl) ?_
      simp (implicitDefEqProofs := false) only [bX10_layCounts_30, bX10_layCounts_64, bX10_layCounts_70, zRun_cons, zRun_nil, zLk, zSto, zIns, zFil, zf0, zf1, zf2, zf3, List.filter_cons, List.filter_nil, Nat.reduceAdd, Nat.reduceEqDiff, Nat.reduceLT, Nat.reduceLeDiff, Nat.reduceBEq, Nat.reduceBNe, reduceIte, if_true, if_false, Bool.false_and, Bool.true_and, Bool.and_true, Bool.and_false, Bool.not_false, Bool.not_true, Bool.false_eq_true, beq_self_eq_true, BEq.rfl, zCat1, zCat2, zCat3, zKdI, zKdL, zKdR, true_and, and_true, zSI, zSL, zSR, zu_at, and_self, and_false, false_and, lv_args, zKdZ, zKdO, zB01, zB11, Option.toList_none, Option.toList_some, List.nil_append, List.cons_append, true_or, or_true, zRow_rd, zu_rd, zo_iload_n, zo_if_lt, zo_aload_n, zo_getfield, zo_baload, zo_if_eq, zo_iaload, zo_if_ge, zo_iconst, zo_bastore, zo_iinc, zo_goto, zo_istore_n, zi_0, zi_m1, zKd_10_89, zKd_10_87, zKd_10_88, sh_87, rf_87_89, sh_131, rf_87_87, sh_129, rf_87_88, sh_130, zcl_0, zvi_0_60, zKn_s, zKn_0, zFind, n1, hv, es, x1, nI_clamp (n := i) (by omega), zN10, zN01, not_true_eq_false, not_false_eq_true, false_implies, true_implies, implies_true, eq_self, nI_1, nI_40, nI_7, vz0, vz1, zb1_e0, zb1_n0]
      exact ih J hJ hS
    | false =>
      rw [hst] at es hss
      have es : J 131 i = 1 := es
      rw [if_neg (by decide)] at hss
      cases hski : b.2.2.1 i with
      | some q =>
        rw [hski] at hss
        simp only at hss
        obtain ⟨e129, e130⟩ := b1 q hski
        have hqi := hkk q hski
        have m1 : ((0 : Int32) ≤ -1) = False := eq_false (by decide)
        have hvq : vp_in (nI q) 60 := zvn (by omega) (by omega)
        refine zBlkR (M := mX10_layCounts) (nL := 2) (rt := (Option.none : Option Jvm.ClassFile.FieldType)) (blk := bX10_layCounts_30) (T := [(64, bX10_layCounts_64), (70, bX10_layCounts_70)]) 1 hX10_layCounts_30 (zChks_cons hX10_layCounts_64 (zChks_cons hX10_layCounts_70 zChks_nil)) rfl rfl rfl (Nat.le_of_ble_eq_true rfl) (Nat.le_of_ble_eq_true rfl) ?_
        simp (implicitDefEqProofs := false) only [bX10_layCounts_30, bX10_layCounts_64, bX10_layCounts_70, zRun_cons, zRun_nil, zLk, zSto, zIns, zFil, zf0, zf1, zf2, zf3, List.filter_cons, List.filter_nil, Nat.reduceAdd, Nat.reduceEqDiff, Nat.reduceLT, Nat.reduceLeDiff, Nat.reduceBEq, Nat.reduceBNe, reduceIte, if_true, if_false, Bool.false_and, Bool.true_and, Bool.and_true, Bool.and_false, Bool.not_false, Bool.not_true, Bool.false_eq_true, beq_self_eq_true, BEq.rfl, zCat1, zCat2, zCat3, zKdI, zKdL, zKdR, true_and, and_true, zSI, zSL, zSR, zu_at, and_self, and_false, false_and, lv_args, zKdZ, zKdO, zB01, zB11, Option.toList_none, Option.toList_some, List.nil_append, List.cons_append, true_or, or_true, zRow_rd, zu_rd, zo_iload_n, zo_if_lt, zo_aload_n, zo_getfield, zo_baload, zo_if_eq, zo_iaload, zo_if_ge, zo_iconst, zo_bastore, zo_iinc, zo_goto, zo_istore_n, zi_0, zi_m1, zKd_10_89, zKd_10_87, zKd_10_88, sh_87, rf_87_89, sh_131, rf_87_87, sh_129, rf_87_88, sh_130, zcl_0, zvi_0_60, zKn_s, zKn_0, zFind, n1, hv, es, e129, e130, m1, hvq, vz0', x1, nI_clamp (n := i) (by omega), nI_clamp (n := q) (by omega), zN10, zN01, not_true_eq_false, not_false_eq_true, false_implies, true_implies, implies_true, eq_self, nI_1, nI_40, nI_7, vz0, vz1, zb1_e0, zb1_n0]
        refine ih _ (hJ.u (show zS131 131 _ from rfl)) (fun k hk => ?_)
        rw [hss, zu_at]
        by_cases ek : k = q
        · subst ek; simp [zb1]
        · rw [if_neg (fun g => ek g.2)]; dsimp only; rw [if_neg ek]; exact hS k hk
      | none =>
        rw [hski] at hss
        simp only at hss
        rw [hss] at ih
        have e129 := (b2 hski).1
        have m1 : ((0 : Int32) ≤ b.2.2.2.1 i) = True := eq_true (Int32.not_lt.mp (hO2.2 hski))
        refine zBlkR (M := mX10_layCounts) (nL := 2) (rt := (Option.none : Option Jvm.ClassFile.FieldType)) (blk := bX10_layCounts_30) (T := [(64, bX10_layCounts_64), (70, bX10_layCounts_70)]) 1 hX10_layCounts_30 (zChks_cons hX10_layCounts_64 (zChks_cons hX10_layCounts_70 zChks_nil)) rfl rfl rfl (Nat.le_of_ble_eq_true rfl) (Nat.le_of_ble_eq_true rfl) ?_
        simp (implicitDefEqProofs := false) only [bX10_layCounts_30, bX10_layCounts_64, bX10_layCounts_70, zRun_cons, zRun_nil, zLk, zSto, zIns, zFil, zf0, zf1, zf2, zf3, List.filter_cons, List.filter_nil, Nat.reduceAdd, Nat.reduceEqDiff, Nat.reduceLT, Nat.reduceLeDiff, Nat.reduceBEq, Nat.reduceBNe, reduceIte, if_true, if_false, Bool.false_and, Bool.true_and, Bool.and_true, Bool.and_false, Bool.not_false, Bool.not_true, Bool.false_eq_true, beq_self_eq_true, BEq.rfl, zCat1, zCat2, zCat3, zKdI, zKdL, zKdR, true_and, and_true, zSI, zSL, zSR, zu_at, and_self, and_false, false_and, lv_args, zKdZ, zKdO, zB01, zB11, Option.toList_none, Option.toList_some, List.nil_append, List.cons_append, true_or, or_true, zRow_rd, zu_rd, zo_iload_n, zo_if_lt, zo_aload_n, zo_getfield, zo_baload, zo_if_eq, zo_iaload, zo_if_ge, zo_iconst, zo_bastore, zo_iinc, zo_goto, zo_istore_n, zi_0, zi_m1, zKd_10_89, zKd_10_87, zKd_10_88, sh_87, rf_87_89, sh_131, rf_87_87, sh_129, rf_87_88, sh_130, zcl_0, zvi_0_60, zKn_s, zKn_0, zFind, n1, hv, es, e129, m1, x1, nI_clamp (n := i) (by omega), zN10, zN01, not_true_eq_false, not_false_eq_true, false_implies, true_implies, implies_true, eq_self, nI_1, nI_40, nI_7, vz0, vz1, zb1_e0, zb1_n0]
        exact ih J hJ hS
  refine zBlkR (M := mX10_layCounts) (nL := 2) (rt := (Option.none : Option Jvm.ClassFile.FieldType)) (blk := bX10_layCounts_0) (T := []) 0 hX10_layCounts_0 zChks_nil rfl rfl rfl (Nat.le_of_ble_eq_true rfl) (Nat.le_of_ble_eq_true rfl) ?_
  simp (implicitDefEqProofs := false) only [bX10_layCounts_0, zRun_cons, zRun_nil, zLk, zSto, zIns, zFil, zf0, zf1, zf2, zf3, List.filter_cons, List.filter_nil, Nat.reduceAdd, Nat.reduceEqDiff, Nat.reduceLT, Nat.reduceLeDiff, Nat.reduceBEq, Nat.reduceBNe, reduceIte, if_true, if_false, Bool.false_and, Bool.true_and, Bool.and_true, Bool.and_false, Bool.not_false, Bool.not_true, Bool.false_eq_true, beq_self_eq_true, BEq.rfl, zCat1, zCat2, zCat3, zKdI, zKdL, zKdR, true_and, and_true, zSI, zSL, zSR, zu_at, and_self, and_false, false_and, lv_args, zKdZ, zKdO, zB01, zB11, Option.toList_none, Option.toList_some, List.nil_append, List.cons_append, true_or, or_true, zRow_rd, zu_rd, zo_iconst, zo_istore_n, zi_0, zcl_0, zKn_0, zN10, zN01, not_true_eq_false, not_false_eq_true, false_implies, true_implies, implies_true, eq_self, nI_1, nI_40, nI_7, vz0, vz1, zb1_e0, zb1_n0]
  refine zLoop (n := n) (P := fun k => ∀ J, zKpt zS131 I J → (∀ i, i < k → J 131 i = 1) → zX w mX10_layCounts rX10_layCounts Q 0 0 2 [(0, Value.ref 87), (1, Value.int (nI k))] [] (SH, J, L, RF p s r)) (fun k hk ih => ?_) 0 (Nat.zero_le _) I zKpt_rfl (fun i hi => absurd hi (by omega))
  intro J hJ hr
  refine zBlkR (M := mX10_layCounts) (nL := 2) (rt := (Option.none : Option Jvm.ClassFile.FieldType)) (blk := bX10_layCounts_2) (T := []) 0 hX10_layCounts_2 zChks_nil rfl rfl rfl (Nat.le_of_ble_eq_true rfl) (Nat.le_of_ble_eq_true rfl) ?_
  simp (implicitDefEqProofs := false) only [bX10_layCounts_2, zRun_cons, zRun_nil, zLk, zSto, zIns, zFil, zf0, zf1, zf2, zf3, List.filter_cons, List.filter_nil, Nat.reduceAdd, Nat.reduceEqDiff, Nat.reduceLT, Nat.reduceLeDiff, Nat.reduceBEq, Nat.reduceBNe, reduceIte, if_true, if_false, Bool.false_and, Bool.true_and, Bool.and_true, Bool.and_false, Bool.not_false, Bool.not_true, Bool.false_eq_true, beq_self_eq_true, BEq.rfl, zCat1, zCat2, zCat3, zKdI, zKdL, zKdR, true_and, and_true, zSI, zSL, zSR, zu_at, and_self, and_false, false_and, lv_args, zKdZ, zKdO, zB01, zB11, Option.toList_none, Option.toList_some, List.nil_append, List.cons_append, true_or, or_true, zRow_rd, zu_rd, zo_iload_n, zo_aload_n, zKn_0, zN10, zN01, not_true_eq_false, not_false_eq_true, false_implies, true_implies, implies_true, eq_self, nI_1, nI_40, nI_7, vz0, vz1, zb1_e0, zb1_n0]
  refine z_cV0 (M' := mX10_knownBy) (R' := rX10_knownBy) (i := 87) [] [.int (nI k)] eX10_knownBy k10_563 (by decide +kernel : decode cX10_layCounts 4 = .ok (.invokevirtual 563, 3)) (Nat.le_of_ble_eq_true rfl) ⟨Nat.le_of_ble_eq_true rfl, Nat.le_of_ble_eq_true rfl, Nat.le_of_ble_eq_true rfl, Nat.le_of_ble_eq_true rfl, Nat.le_of_ble_eq_true rfl⟩ rfl rfl rfl sh_87 ?_
  refine mo_knownBy (kn J hJ) hO ?_
  rw [hn]
  by_cases hke : k = n
  · subst hke
    refine zBlkR (M := mX10_layCounts) (nL := 2) (rt := (Option.none : Option Jvm.ClassFile.FieldType)) (blk := bX10_layCounts_7) (T := [(23, bX10_layCounts_23)]) 1 hX10_layCounts_7 (zChks_cons hX10_layCounts_23 zChks_nil) rfl rfl rfl (Nat.le_of_ble_eq_true rfl) (Nat.le_of_ble_eq_true rfl) ?_
    simp (implicitDefEqProofs := false) only [bX10_layCounts_7, bX10_layCounts_23, zRun_cons, zRun_nil, zLk, zSto, zIns, zFil, zf0, zf1, zf2, zf3, List.filter_cons, List.filter_nil, Nat.reduceAdd, Nat.reduceEqDiff, Nat.reduceLT, Nat.reduceLeDiff, Nat.reduceBEq, Nat.reduceBNe, reduceIte, if_true, if_false, Bool.false_and, Bool.true_and, Bool.and_true, Bool.and_false, Bool.not_false, Bool.not_true, Bool.false_eq_true, beq_self_eq_true, BEq.rfl, zCat1, zCat2, zCat3, zKdI, zKdL, zKdR, true_and, and_true, zSI, zSL, zSR, zu_at, and_self, and_false, false_and, lv_args, zKdZ, zKdO, zB01, zB11, Option.toList_none, Option.toList_some, List.nil_append, List.cons_append, true_or, or_true, zRow_rd, zu_rd, zo_icmp_ge, zo_aload_n, zo_getfield, zo_iload_n, zo_iconst, zo_bastore, zo_iinc, zo_goto, zi_1, zKd_10_89, sh_87, rf_87_89, sh_131, zcl_1, zvi_1_60, zKn_s, zKn_0, zFind, zle_nat (a := k) (b := k) (by omega) (by omega), Nat.le_refl, zN10, zN01, not_true_eq_false, not_false_eq_true, false_implies, true_implies, implies_true, eq_self, nI_1, nI_40, nI_7, vz0, vz1, zb1_e0, zb1_n0]
    refine z_cV0 (M' := mX10_knownBy) (R' := rX10_knownBy) (i := 87) [] [] eX10_knownBy k10_563 (by decide +kernel : decode cX10_layCounts 24 = .ok (.invokevirtual 563, 3)) (Nat.le_of_ble_eq_true rfl) ⟨Nat.le_of_ble_eq_true rfl, Nat.le_of_ble_eq_true rfl, Nat.le_of_ble_eq_true rfl, Nat.le_of_ble_eq_true rfl, Nat.le_of_ble_eq_true rfl⟩ rfl rfl rfl sh_87 ?_
    refine mo_knownBy (kn J hJ) hO ?_
    rw [hn]
    refine zBlkR (M := mX10_layCounts) (nL := 2) (rt := (Option.none : Option Jvm.ClassFile.FieldType)) (blk := bX10_layCounts_27) (T := []) 0 hX10_layCounts_27 zChks_nil rfl rfl rfl (Nat.le_of_ble_eq_true rfl) (Nat.le_of_ble_eq_true rfl) ?_
    simp (implicitDefEqProofs := false) only [bX10_layCounts_27, zRun_cons, zRun_nil, zLk, zSto, zIns, zFil, zf0, zf1, zf2, zf3, List.filter_cons, List.filter_nil, Nat.reduceAdd, Nat.reduceEqDiff, Nat.reduceLT, Nat.reduceLeDiff, Nat.reduceBEq, Nat.reduceBNe, reduceIte, if_true, if_false, Bool.false_and, Bool.true_and, Bool.and_true, Bool.and_false, Bool.not_false, Bool.not_true, Bool.false_eq_true, beq_self_eq_true, BEq.rfl, zCat1, zCat2, zCat3, zKdI, zKdL, zKdR, true_and, and_true, zSI, zSL, zSR, zu_at, and_self, and_false, false_and, lv_args, zKdZ, zKdO, zB01, zB11, Option.toList_none, Option.toList_some, List.nil_append, List.cons_append, true_or, or_true, zRow_rd, zu_rd, zo_iconst, zo_isub, zo_istore_n, zi_1, zcl_1, zKn_0, zN10, zN01, not_true_eq_false, not_false_eq_true, false_implies, true_implies, implies_true, eq_self, nI_1, nI_40, nI_7, vz0, vz1, zb1_e0, zb1_n0]
    exact l2 0 (by omega) J hJ (fun i hi => by rw [hr i hi]; rfl)
  have hx : (nI n ≤ nI k) = False := eq_false (by rw [zle_nat (by omega) (by omega)]; omega)
  have hv : vp_in (nI k) 60 := zvn (by omega) (by omega)
  refine zBlkR (M := mX10_layCounts) (nL := 2) (rt := (Option.none : Option Jvm.ClassFile.FieldType)) (blk := bX10_layCounts_7) (T := [(23, bX10_layCounts_23)]) 1 hX10_layCounts_7 (zChks_cons hX10_layCounts_23 zChks_nil) rfl rfl rfl (Nat.le_of_ble_eq_true rfl) (Nat.le_of_ble_eq_true rfl) ?_
  simp (implicitDefEqProofs := false) only [bX10_layCounts_7, bX10_layCounts_23, zRun_cons, zRun_nil, zLk, zSto, zIns, zFil, zf0, zf1, zf2, zf3, List.filter_cons, List.filter_nil, Nat.reduceAdd, Nat.reduceEqDiff, Nat.reduceLT, Nat.reduceLeDiff, Nat.reduceBEq, Nat.reduceBNe, reduceIte, if_true, if_false, Bool.false_and, Bool.true_and, Bool.and_true, Bool.and_false, Bool.not_false, Bool.not_true, Bool.false_eq_true, beq_self_eq_true, BEq.rfl, zCat1, zCat2, zCat3, zKdI, zKdL, zKdR, true_and, and_true, zSI, zSL, zSR, zu_at, and_self, and_false, false_and, lv_args, zKdZ, zKdO, zB01, zB11, Option.toList_none, Option.toList_some, List.nil_append, List.cons_append, true_or, or_true, zRow_rd, zu_rd, zo_icmp_ge, zo_aload_n, zo_getfield, zo_iload_n, zo_iconst, zo_bastore, zo_iinc, zo_goto, zi_1, zKd_10_89, sh_87, rf_87_89, sh_131, zcl_1, zvi_1_60, zKn_s, zKn_0, zFind, hx, hv, vz1', nI_clamp (n := k) (by omega), zN10, zN01, not_true_eq_false, not_false_eq_true, false_implies, true_implies, implies_true, eq_self, nI_1, nI_40, nI_7, vz0, vz1, zb1_e0, zb1_n0]
  refine ih (by omega) _ (hJ.u (show zS131 131 _ from rfl)) (fun i hi => ?_)
  rw [zu_at]
  by_cases ei : i = k
  · subst ei; simp
  · rw [if_neg (fun g => ei g.2)]; exact hr i (by omega)
set_option maxRecDepth 20000 in
theorem mo_rightOf (hB : zrBook I b) (hO : BkOk b) (hQ : ∀ I', zKpt zS131 I I' → Q (some (.int (nI (oRight b one two e)))) (SH, I', L, RF p s r)) : zXM w mX10_rightOf rX10_rightOf [.ref 87, .int one, .int two, .int (zb1 e)] (SH, I, L, RF p s r) Q := by
  unfold zXM
  have hkn := oKn_le hO
  have h60 := hO.1
  unfold oRight at hQ
  refine zBlkR (M := mX10_rightOf) (nL := 8) (rt := (Option.some .int)) (blk := bX10_rightOf_0) (T := []) 0 hX10_rightOf_0 zChks_nil rfl rfl rfl (Nat.le_of_ble_eq_true rfl) (Nat.le_of_ble_eq_true rfl) ?_
  simp (implicitDefEqProofs := false) only [bX10_rightOf_0, zRun_cons, zRun_nil, zLk, zSto, zIns, zFil, zf0, zf1, zf2, zf3, List.filter_cons, List.filter_nil, Nat.reduceAdd, Nat.reduceEqDiff, Nat.reduceLT, Nat.reduceLeDiff, Nat.reduceBEq, Nat.reduceBNe, reduceIte, if_true, if_false, Bool.false_and, Bool.true_and, Bool.and_true, Bool.and_false, Bool.not_false, Bool.not_true, Bool.false_eq_true, beq_self_eq_true, BEq.rfl, zCat1, zCat2, zCat3, zKdI, zKdL, zKdR, true_and, and_true, zSI, zSL, zSR, zu_at, and_self, and_false, false_and, lv_args, zKdZ, zKdO, zB01, zB11, Option.toList_none, Option.toList_some, List.nil_append, List.cons_append, true_or, or_true, zRow_rd, zu_rd, zo_aload_n, zKn_0, zN10, zN01, not_true_eq_false, not_false_eq_true, false_implies, true_implies, implies_true, eq_self, nI_1, nI_40, nI_7, vz0, vz1, zb1_e0, zb1_n0]
  refine z_cV0 (M' := mX10_layCounts) (R' := rX10_layCounts) (i := 87) [] [] eX10_layCounts k10_566 (by decide +kernel : decode cX10_rightOf 1 = .ok (.invokevirtual 566, 3)) (Nat.le_of_ble_eq_true rfl) ⟨Nat.le_of_ble_eq_true rfl, Nat.le_of_ble_eq_true rfl, Nat.le_of_ble_eq_true rfl, Nat.le_of_ble_eq_true rfl, Nat.le_of_ble_eq_true rfl⟩ rfl rfl rfl sh_87 ?_
  refine mo_layCounts hB hO (fun I1 k1 c1 => ?_)
  have hB1 := zr_131 k1 hB
  have hQ := hQ I1 k1
  generalize hn : oKn b = n at *
  refine zBlkR (M := mX10_rightOf) (nL := 8) (rt := (Option.some .int)) (blk := bX10_rightOf_4) (T := []) 0 hX10_rightOf_4 zChks_nil rfl rfl rfl (Nat.le_of_ble_eq_true rfl) (Nat.le_of_ble_eq_true rfl) ?_
  simp (implicitDefEqProofs := false) only [bX10_rightOf_4, zRun_cons, zRun_nil, zLk, zSto, zIns, zFil, zf0, zf1, zf2, zf3, List.filter_cons, List.filter_nil, Nat.reduceAdd, Nat.reduceEqDiff, Nat.reduceLT, Nat.reduceLeDiff, Nat.reduceBEq, Nat.reduceBNe, reduceIte, if_true, if_false, Bool.false_and, Bool.true_and, Bool.and_true, Bool.and_false, Bool.not_false, Bool.not_true, Bool.false_eq_true, beq_self_eq_true, BEq.rfl, zCat1, zCat2, zCat3, zKdI, zKdL, zKdR, true_and, and_true, zSI, zSL, zSR, zu_at, and_self, and_false, false_and, lv_args, zKdZ, zKdO, zB01, zB11, Option.toList_none, Option.toList_some, List.nil_append, List.cons_append, true_or, or_true, zRow_rd, zu_rd, zo_iconst, zo_istore, zi_0, zcl_0, zKn_0, zN10, zN01, not_true_eq_false, not_false_eq_true, false_implies, true_implies, implies_true, eq_self, nI_1, nI_40, nI_7, vz0, vz1, zb1_e0, zb1_n0]
  refine zLoop (n := n) (P := fun k => zX w mX10_rightOf rX10_rightOf Q 0 0 10 [(0, Value.ref 87), (1, Value.int one), (2, Value.int two), (3, Value.int (zb1 e)), (4, Value.int (nI (zCnt (oOkD b n one two e) k))), (5, Value.int (nI k))] [] (SH, I1, L, RF p s r)) (fun k hk ih => ?_) 0 (Nat.zero_le _)
  refine zBlkR (M := mX10_rightOf) (nL := 8) (rt := (Option.some .int)) (blk := bX10_rightOf_10) (T := []) 0 hX10_rightOf_10 zChks_nil rfl rfl rfl (Nat.le_of_ble_eq_true rfl) (Nat.le_of_ble_eq_true rfl) ?_
  simp (implicitDefEqProofs := false) only [bX10_rightOf_10, zRun_cons, zRun_nil, zLk, zSto, zIns, zFil, zf0, zf1, zf2, zf3, List.filter_cons, List.filter_nil, Nat.reduceAdd, Nat.reduceEqDiff, Nat.reduceLT, Nat.reduceLeDiff, Nat.reduceBEq, Nat.reduceBNe, reduceIte, if_true, if_false, Bool.false_and, Bool.true_and, Bool.and_true, Bool.and_false, Bool.not_false, Bool.not_true, Bool.false_eq_true, beq_self_eq_true, BEq.rfl, zCat1, zCat2, zCat3, zKdI, zKdL, zKdR, true_and, and_true, zSI, zSL, zSR, zu_at, and_self, and_false, false_and, lv_args, zKdZ, zKdO, zB01, zB11, Option.toList_none, Option.toList_some, List.nil_append, List.cons_append, true_or, or_true, zRow_rd, zu_rd, zo_iload, zo_aload_n, zKn_0, zN10, zN01, not_true_eq_false, not_false_eq_true, false_implies, true_implies, implies_true, eq_self, nI_1, nI_40, nI_7, vz0, vz1, zb1_e0, zb1_n0]
  refine z_cV0 (M' := mX10_knownBy) (R' := rX10_knownBy) (i := 87) [] [.int (nI k)] eX10_knownBy k10_563 (by decide +kernel : decode cX10_rightOf 13 = .ok (.invokevirtual 563, 3)) (Nat.le_of_ble_eq_true rfl) ⟨Nat.le_of_ble_eq_true rfl, Nat.le_of_ble_eq_true rfl, Nat.le_of_ble_eq_true rfl, Nat.le_of_ble_eq_true rfl, Nat.le_of_ble_eq_true rfl⟩ rfl rfl rfl sh_87 ?_
  refine mo_knownBy hB1 hO ?_
  rw [hn]
  by_cases hke : k = n
  · subst hke
    refine zBlkR (M := mX10_rightOf) (nL := 8) (rt := (Option.some .int)) (blk := bX10_rightOf_16) (T := [(32, bX10_rightOf_32), (124, bX10_rightOf_124), (130, bX10_rightOf_130)]) 1 hX10_rightOf_16 (zChks_cons hX10_rightOf_32 (zChks_cons hX10_rightOf_124 (zChks_cons hX10_rightOf_130 zChks_nil))) rfl rfl rfl (Nat.le_of_ble_eq_true rfl) (Nat.le_of_ble_eq_true rfl) ?_
    simp (implicitDefEqProofs := false) only [bX10_rightOf_16, bX10_rightOf_32, bX10_rightOf_124, bX10_rightOf_130, zRun_cons, zRun_nil, zLk, zSto, zIns, zFil, zf0, zf1, zf2, zf3, List.filter_cons, List.filter_nil, Nat.reduceAdd, Nat.reduceEqDiff, Nat.reduceLT, Nat.reduceLeDiff, Nat.reduceBEq, Nat.reduceBNe, reduceIte, if_true, if_false, Bool.false_and, Bool.true_and, Bool.and_true, Bool.and_false, Bool.not_false, Bool.not_true, Bool.false_eq_true, beq_self_eq_true, BEq.rfl, zCat1, zCat2, zCat3, zKdI, zKdL, zKdR, true_and, and_true, zSI, zSL, zSR, zu_at, and_self, and_false, false_and, lv_args, zKdZ, zKdO, zB01, zB11, Option.toList_none, Option.toList_some, List.nil_append, List.cons_append, true_or, or_true, zRow_rd, zu_rd, zo_icmp_ge, zo_aload_n, zo_getfield, zo_iload, zo_baload, zo_if_ne, zo_goto, zo_iaload, zo_iload_n, zo_iinc, zo_ireturn, zi_1, zKd_10_89, zKd_10_87, sh_87, rf_87_89, sh_131, rf_87_87, sh_129, zRt, zKn_s, zKn_0, zFind, zle_nat (a := k) (b := k) (by omega) (by omega), Nat.le_refl, zN10, zN01, not_true_eq_false, not_false_eq_true, false_implies, true_implies, implies_true, eq_self, nI_1, nI_40, nI_7, vz0, vz1, zb1_e0, zb1_n0]
    exact hQ
  have hx : (nI n ≤ nI k) = False := eq_false (by rw [zle_nat (by omega) (by omega)]; omega)
  have hv : vp_in (nI k) 60 := zvn (by omega) (by omega)
  have ec := c1 k (by omega)
  have ih := ih (by omega)
  obtain ⟨b1, b2⟩ := hB1.2.2 k (by omega)
  have ihT : oOkD b n one two e k = true → zX w mX10_rightOf rX10_rightOf Q 0 0 10 [(0, Value.ref 87), (1, Value.int one), (2, Value.int two), (3, Value.int (zb1 e)), (4, Value.int (nI (zCnt (oOkD b n one two e) k + 1))), (5, Value.int (nI (k + 1)))] [] (SH, I1, L, RF p s r) := fun h => by rw [zCnt_t h] at ih; exact ih
  have ihF : oOkD b n one two e k = false → zX w mX10_rightOf rX10_rightOf Q 0 0 10 [(0, Value.ref 87), (1, Value.int one), (2, Value.int two), (3, Value.int (zb1 e)), (4, Value.int (nI (zCnt (oOkD b n one two e) k))), (5, Value.int (nI (k + 1)))] [] (SH, I1, L, RF p s r) := fun h => by rw [zCnt_f h] at ih; exact ih
  cases hc : (!oStr b.2.2.1 n n k && (b.2.2.1 k).isNone) with
  | false =>
    rw [hc] at ec
    have ec : I1 131 k = 0 := ec
    refine zBlkR (M := mX10_rightOf) (nL := 8) (rt := (Option.some .int)) (blk := bX10_rightOf_16) (T := [(32, bX10_rightOf_32), (124, bX10_rightOf_124), (130, bX10_rightOf_130)]) 1 hX10_rightOf_16 (zChks_cons hX10_rightOf_32 (zChks_cons hX10_rightOf_124 (zChks_cons hX10_rightOf_130 zChks_nil))) rfl rfl rfl (Nat.le_of_ble_eq_true rfl) (Nat.le_of_ble_eq_true rfl) ?_
    simp (implicitDefEqProofs := false) only [bX10_rightOf_16, bX10_rightOf_32, bX10_rightOf_124, bX10_rightOf_130, zRun_cons, zRun_nil, zLk, zSto, zIns, zFil, zf0, zf1, zf2, zf3, List.filter_cons, List.filter_nil, Nat.reduceAdd, Nat.reduceEqDiff, Nat.reduceLT, Nat.reduceLeDiff, Nat.reduceBEq, Nat.reduceBNe, reduceIte, if_true, if_false, Bool.false_and, Bool.true_and, Bool.and_true, Bool.and_false, Bool.not_false, Bool.not_true, Bool.false_eq_true, beq_self_eq_true, BEq.rfl, zCat1, zCat2, zCat3, zKdI, zKdL, zKdR, true_and, and_true, zSI, zSL, zSR, zu_at, and_self, and_false, false_and, lv_args, zKdZ, zKdO, zB01, zB11, Option.toList_none, Option.toList_some, List.nil_append, List.cons_append, true_or, or_true, zRow_rd, zu_rd, zo_icmp_ge, zo_aload_n, zo_getfield, zo_iload, zo_baload, zo_if_ne, zo_goto, zo_iaload, zo_iload_n, zo_iinc, zo_ireturn, zi_1, zKd_10_89, zKd_10_87, sh_87, rf_87_89, sh_131, rf_87_87, sh_129, zRt, zKn_s, zKn_0, zFind, hx, hv, ec, nI_clamp (n := k) (by omega), zN10, zN01, not_true_eq_false, not_false_eq_true, false_implies, true_implies, implies_true, eq_self, nI_1, nI_40, nI_7, vz0, vz1, zb1_e0, zb1_n0]
    refine ihF ?_
    rw [oOkD, ← Bool.and_assoc, hc, Bool.false_and]
  | true =>
    rw [hc] at ec
    have ec : I1 131 k = 1 := ec
    have hnone : b.2.2.1 k = none := by
      cases h : b.2.2.1 k with
      | none => rfl
      | some q => rw [h] at hc; simp at hc
    have hok : oOkD b n one two e k = (oThere (b.2.2.2.1 k) one two e == b.2.2.2.2 k) := by rw [oOkD, ← Bool.and_assoc, hc, Bool.true_and]
    rw [hok] at ihT ihF
    obtain ⟨e129, e130⟩ := b2 hnone
    refine zBlkR (M := mX10_rightOf) (nL := 8) (rt := (Option.some .int)) (blk := bX10_rightOf_16) (T := [(32, bX10_rightOf_32), (124, bX10_rightOf_124), (130, bX10_rightOf_130)]) 1 hX10_rightOf_16 (zChks_cons hX10_rightOf_32 (zChks_cons hX10_rightOf_124 (zChks_cons hX10_rightOf_130 zChks_nil))) rfl rfl rfl (Nat.le_of_ble_eq_true rfl) (Nat.le_of_ble_eq_true rfl) ?_
    simp (implicitDefEqProofs := false) only [bX10_rightOf_16, bX10_rightOf_32, bX10_rightOf_124, bX10_rightOf_130, zRun_cons, zRun_nil, zLk, zSto, zIns, zFil, zf0, zf1, zf2, zf3, List.filter_cons, List.filter_nil, Nat.reduceAdd, Nat.reduceEqDiff, Nat.reduceLT, Nat.reduceLeDiff, Nat.reduceBEq, Nat.reduceBNe, reduceIte, if_true, if_false, Bool.false_and, Bool.true_and, Bool.and_true, Bool.and_false, Bool.not_false, Bool.not_true, Bool.false_eq_true, beq_self_eq_true, BEq.rfl, zCat1, zCat2, zCat3, zKdI, zKdL, zKdR, true_and, and_true, zSI, zSL, zSR, zu_at, and_self, and_false, false_and, lv_args, zKdZ, zKdO, zB01, zB11, Option.toList_none, Option.toList_some, List.nil_append, List.cons_append, true_or, or_true, zRow_rd, zu_rd, zo_icmp_ge, zo_aload_n, zo_getfield, zo_iload, zo_baload, zo_if_ne, zo_goto, zo_iaload, zo_iload_n, zo_iinc, zo_ireturn, zi_1, zKd_10_89, zKd_10_87, sh_87, rf_87_89, sh_131, rf_87_87, sh_129, zRt, zKn_s, zKn_0, zFind, hx, hv, ec, e129, nI_clamp (n := k) (by omega), zN10, zN01, not_true_eq_false, not_false_eq_true, false_implies, true_implies, implies_true, eq_self, nI_1, nI_40, nI_7, vz0, vz1, zb1_e0, zb1_n0]
    refine z_cS0 (M' := mX10_isOf) (R' := rX10_isOf) [.int (b.2.2.2.1 k), .int one] [] eX10_isOf k10_569 (by decide +kernel : decode cX10_rightOf 40 = .ok (.invokestatic 569, 3)) (Nat.le_of_ble_eq_true rfl) ⟨Nat.le_of_ble_eq_true rfl, Nat.le_of_ble_eq_true rfl, Nat.le_of_ble_eq_true rfl, Nat.le_of_ble_eq_true rfl, Nat.le_of_ble_eq_true rfl⟩ rfl rfl rfl ?_
    refine mo_isOf ?_
    refine zBlkR (M := mX10_rightOf) (nL := 8) (rt := (Option.some .int)) (blk := bX10_rightOf_43) (T := []) 0 hX10_rightOf_43 zChks_nil rfl rfl rfl (Nat.le_of_ble_eq_true rfl) (Nat.le_of_ble_eq_true rfl) ?_
    simp (implicitDefEqProofs := false) only [bX10_rightOf_43, zRun_cons, zRun_nil, zLk, zSto, zIns, zFil, zf0, zf1, zf2, zf3, List.filter_cons, List.filter_nil, Nat.reduceAdd, Nat.reduceEqDiff, Nat.reduceLT, Nat.reduceLeDiff, Nat.reduceBEq, Nat.reduceBNe, reduceIte, if_true, if_false, Bool.false_and, Bool.true_and, Bool.and_true, Bool.and_false, Bool.not_false, Bool.not_true, Bool.false_eq_true, beq_self_eq_true, BEq.rfl, zCat1, zCat2, zCat3, zKdI, zKdL, zKdR, true_and, and_true, zSI, zSL, zSR, zu_at, and_self, and_false, false_and, lv_args, zKdZ, zKdO, zB01, zB11, Option.toList_none, Option.toList_some, List.nil_append, List.cons_append, true_or, or_true, zRow_rd, zu_rd, zo_istore, zo_aload_n, zo_getfield, zo_iload, zo_iaload, zo_iload_n, zKd_10_87, sh_87, rf_87_87, sh_129, zKn_0, hv, e129, nI_clamp (n := k) (by omega), zN10, zN01, not_true_eq_false, not_false_eq_true, false_implies, true_implies, implies_true, eq_self, nI_1, nI_40, nI_7, vz0, vz1, zb1_e0, zb1_n0]
    refine z_cS0 (M' := mX10_isOf) (R' := rX10_isOf) [.int (b.2.2.2.1 k), .int two] [] eX10_isOf k10_569 (by decide +kernel : decode cX10_rightOf 53 = .ok (.invokestatic 569, 3)) (Nat.le_of_ble_eq_true rfl) ⟨Nat.le_of_ble_eq_true rfl, Nat.le_of_ble_eq_true rfl, Nat.le_of_ble_eq_true rfl, Nat.le_of_ble_eq_true rfl, Nat.le_of_ble_eq_true rfl⟩ rfl rfl rfl ?_
    refine mo_isOf ?_
    unfold oThere at ihT ihF
    generalize decide ((b.2.2.2.1 k >>> (one &&& 31)) &&& 1 = 1) = A at *
    generalize decide ((b.2.2.2.1 k >>> (two &&& 31)) &&& 1 = 1) = B at *
    generalize hrn : b.2.2.2.2 k = R at *
    cases A <;> cases B <;> cases e <;> cases R
    all_goals
      refine zBlkR (M := mX10_rightOf) (nL := 8) (rt := (Option.some .int)) (blk := bX10_rightOf_56) (T := [(78, bX10_rightOf_78), (82, bX10_rightOf_82), (92, bX10_rightOf_92), (96, bX10_rightOf_96), (97, bX10_rightOf_97), (112, bX10_rightOf_112), (113, bX10_rightOf_113), (120, bX10_rightOf_120), (121, bX10_rightOf_121)]) 5 hX10_rightOf_56 (zChks_cons hX10_rightOf_78 (zChks_cons hX10_rightOf_82 (zChks_cons hX10_rightOf_92 (zChks_cons hX10_rightOf_96 (zChks_cons hX10_rightOf_97 (zChks_cons hX10_rightOf_112 (zChks_cons hX10_rightOf_113 (zChks_cons hX10_rightOf_120 (zChks_cons hX10_rightOf_121 zChks_nil))))))))) rfl rfl rfl (Nat.le_of_ble_eq_true rfl) (Nat.le_of_ble_eq_true rfl) ?_
      simp (implicitDefEqProofs := false) only [bX10_rightOf_56, bX10_rightOf_78, bX10_rightOf_82, bX10_rightOf_92, bX10_rightOf_96, bX10_rightOf_97, bX10_rightOf_112, bX10_rightOf_113, bX10_rightOf_120, bX10_rightOf_121, zRun_cons, zRun_nil, zLk, zSto, zIns, zFil, zf0, zf1, zf2, zf3, List.filter_cons, List.filter_nil, Nat.reduceAdd, Nat.reduceEqDiff, Nat.reduceLT, Nat.reduceLeDiff, Nat.reduceBEq, Nat.reduceBNe, reduceIte, if_true, if_false, Bool.false_and, Bool.true_and, Bool.and_true, Bool.and_false, Bool.not_false, Bool.not_true, Bool.false_eq_true, beq_self_eq_true, BEq.rfl, zCat1, zCat2, zCat3, zKdI, zKdL, zKdR, true_and, and_true, zSI, zSL, zSR, zu_at, and_self, and_false, false_and, lv_args, zKdZ, zKdO, zB01, zB11, Option.toList_none, Option.toList_some, List.nil_append, List.cons_append, true_or, or_true, zRow_rd, zu_rd, zo_istore, zo_iload, zo_iload_n, zo_if_ne, zo_if_eq, zo_iconst, zo_goto, zo_aload_n, zo_getfield, zo_iaload, zo_icmp_ne, zo_iadd, zo_iinc, zi_1, zi_0, zKd_10_88, zcl_1, zcl_0, sh_87, rf_87_88, sh_130, zvi_1_60, zvi_0_60, zKn_s, zKn_0, zFind, hv, e130, zb1_t, zb1_f, nI_a0, nI_clamp (n := k) (by omega), zN10, zN01, not_true_eq_false, not_false_eq_true, false_implies, true_implies, implies_true, eq_self, nI_1, nI_40, nI_7, vz0, vz1, zb1_e0, zb1_n0]
      first | exact zX.sub' (ihT rfl) (by simp [zb1]) | exact zX.sub' (ihF rfl) (by simp [zb1])
end ZB85
