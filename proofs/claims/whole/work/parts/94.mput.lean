/-! ===== PUT AND BRING: the reference ===== -/
section ZU94
variable {w : zP} {Q : Option Value → zMem → Prop} {μ : zMem} {I J V V' S : Nat → Nat → Int32} {L K : Nat → Nat → Int64} {p s t kc kc' : Nat} {r : Option Nat} {P : oPn} {b c i k q n l kd pl rf ch np : Nat} {bt d d' y' : Int64} {rt rt' : oRt} {u : oUd} {x y wm : Int32} {z : Nat × (Nat → Nat → Int32) × Nat}
theorem zCnt_mn {P : Nat → Bool} {a b : Nat} (h : a ≤ b) : zCnt P a ≤ zCnt P b := by
  obtain ⟨m, rfl⟩ : ∃ m, b = a + m := ⟨b - a, by omega⟩
  rw [zCnt_split]; omega
theorem oPuts_rem : ∀ a, (oPuts q a l V).1 = l - oStk V a
  | 0 => by simp [oPuts, zIter, oStk, zCnt]
  | a + 1 => by
    have ih := oPuts_rem a
    have h1 := oPuts_hi (q := q) (l := l) (V := V) (a := a) (i := 1) (c := a) (Nat.le_refl _)
    have h2 := oPuts_hi (q := q) (l := l) (V := V) (a := a) (i := 2) (c := a) (Nat.le_refl _)
    have hc : oStk V (a + 1) = oStk V a + if V 1 a = 0 then 1 else 0 := by simp [oStk, zCnt]
    rw [oPuts_s, oPutS, h1]
    by_cases hv : V 1 a = 0
    · rw [if_pos hv] at hc
      by_cases h0 : 0 < (oPuts q a l V).1
      · rw [if_pos ⟨h0, hv⟩]
        show (oPuts q a l V).1 - 1 = _
        omega
      · rw [if_neg (fun g => h0 g.1)]; omega
    · rw [if_neg hv] at hc
      rw [if_neg (fun g => hv g.2)]; omega
theorem oPuts_min {n : Nat} : ∀ a, a ≤ n → (oPuts q a l V).2 = (oPuts q a (min l (oStk V n)) V).2
  | 0, _ => rfl
  | a + 1, ha => by
    have ih := oPuts_min (n := n) a (by omega)
    have h1 := oPuts_hi (q := q) (l := l) (V := V) (a := a) (i := 1) (c := a) (Nat.le_refl _)
    have h2 := oPuts_hi (q := q) (l := l) (V := V) (a := a) (i := 2) (c := a) (Nat.le_refl _)
    have r1 := oPuts_rem (q := q) (l := l) (V := V) a
    have r2 := oPuts_rem (q := q) (l := min l (oStk V n)) (V := V) a
    have hc : oStk V (a + 1) = oStk V a + if V 1 a = 0 then 1 else 0 := by simp [oStk, zCnt]
    have hmn : oStk V (a + 1) ≤ oStk V n := zCnt_mn ha
    generalize hm : min l (oStk V n) = l' at *
    rw [oPuts_s, oPuts_s, oPutS, oPutS]
    generalize oPuts q a l V = z at *
    generalize oPuts q a l' V = z' at *
    rw [← ih, h1]
    by_cases hv : V 1 a = 0
    · rw [if_pos hv] at hc
      by_cases h0 : 0 < z.1
      · rw [if_pos ⟨h0, hv⟩, if_pos ⟨by omega, hv⟩]
      · rw [if_neg (fun g => h0 g.1), if_neg (fun g => h0 (by omega))]; exact ih
    · rw [if_neg (fun g => hv g.2), if_neg (fun g => hv g.2)]; exact ih
theorem oBris_rem : ∀ a, (oBris q a l V).1 = l - oCnt V (nI q) 1 a
  | 0 => by simp [oBris, zIter, oCnt, zCnt]
  | a + 1 => by
    have ih := oBris_rem a
    have h1 := oBris_hi (q := q) (l := l) (V := V) (a := a) (i := 1) (c := a) (Nat.le_refl _)
    have h2 := oBris_hi (q := q) (l := l) (V := V) (a := a) (i := 2) (c := a) (Nat.le_refl _)
    have hc : oCnt V (nI q) 1 (a + 1) = oCnt V (nI q) 1 a + if V 1 a = 1 ∧ V 2 a = nI q then 1 else 0 := by simp [oCnt, zCnt]
    rw [oBris_s, oBriS, h1, h2]
    by_cases hv : V 1 a = 1 ∧ V 2 a = nI q
    · rw [if_pos hv] at hc
      by_cases h0 : 0 < (oBris q a l V).1
      · rw [if_pos ⟨h0, hv⟩]
        show (oBris q a l V).1 - 1 = _
        omega
      · rw [if_neg (fun g => h0 g.1)]; omega
    · rw [if_neg hv] at hc
      rw [if_neg (fun g => hv g.2)]; omega
theorem oBris_min {n : Nat} : ∀ a, a ≤ n → (oBris q a l V).2 = (oBris q a (min l (oCnt V (nI q) 1 n)) V).2
  | 0, _ => rfl
  | a + 1, ha => by
    have ih := oBris_min (n := n) a (by omega)
    have h1 := oBris_hi (q := q) (l := l) (V := V) (a := a) (i := 1) (c := a) (Nat.le_refl _)
    have h2 := oBris_hi (q := q) (l := l) (V := V) (a := a) (i := 2) (c := a) (Nat.le_refl _)
    have r1 := oBris_rem (q := q) (l := l) (V := V) a
    have r2 := oBris_rem (q := q) (l := min l (oCnt V (nI q) 1 n)) (V := V) a
    have hc : oCnt V (nI q) 1 (a + 1) = oCnt V (nI q) 1 a + if V 1 a = 1 ∧ V 2 a = nI q then 1 else 0 := by simp [oCnt, zCnt]
    have hmn : oCnt V (nI q) 1 (a + 1) ≤ oCnt V (nI q) 1 n := zCnt_mn ha
    generalize hm : min l (oCnt V (nI q) 1 n) = l' at *
    rw [oBris_s, oBris_s, oBriS, oBriS]
    generalize oBris q a l V = z at *
    generalize oBris q a l' V = z' at *
    rw [← ih, h1, h2]
    by_cases hv : V 1 a = 1 ∧ V 2 a = nI q
    · rw [if_pos hv] at hc
      by_cases h0 : 0 < z.1
      · rw [if_pos ⟨h0, hv⟩, if_pos ⟨by omega, hv⟩]
      · rw [if_neg (fun g => h0 g.1), if_neg (fun g => h0 (by omega))]; exact ih
    · rw [if_neg (fun g => hv g.2), if_neg (fun g => hv g.2)]; exact ih
set_option maxRecDepth 20000 in
theorem mo_lays_put (h102 : I 102 1 = nI ch) (hch : ch ≤ 40) (hV : vR 0 I = V) (hok : oOk ch np wm V) (hq : q < np) (hnp : np ≤ 5) (hl : l ≤ 40) (hQ : ∀ I', zKpt zS114 I I' → vR 0 I' = (oPuts q ch l V).2.1 → Q (some (.int (nI (pcN (oPuts q ch l V).2.2)))) (SH, I', L, RF p s r)) : zXM w mX10_lays rX10_lays [.ref 87, .int (nI l), .int 0, .int (-1), .int 1, .int (nI q)] (SH, I, L, RF p s r) Q := by
  unfold zXM
  have hpc := oPuts_pc (q := q) (l := l) (V := V) hch
  refine zBlkR (M := mX10_lays) (nL := 8) (rt := (Option.some .int)) (blk := bX10_lays_0) (T := []) 0 hX10_lays_0 zChks_nil rfl rfl rfl (Nat.le_of_ble_eq_true rfl) (Nat.le_of_ble_eq_true rfl) ?_
  simp (implicitDefEqProofs := false) only [bX10_lays_0, zRun_cons, zRun_nil, zLk, zSto, zIns, zFil, zf0, zf1, zf2, zf3, List.filter_cons, List.filter_nil, Nat.reduceAdd, Nat.reduceEqDiff, Nat.reduceLT, Nat.reduceLeDiff, Nat.reduceBEq, Nat.reduceBNe, reduceIte, if_true, if_false, Bool.false_and, Bool.true_and, Bool.and_true, Bool.and_false, Bool.not_false, Bool.not_true, Bool.false_eq_true, beq_self_eq_true, BEq.rfl, zCat1, zCat2, zCat3, zKdI, zKdL, zKdR, true_and, and_true, zSI, zSL, zSR, zu_at, and_self, and_false, false_and, lv_args, zKdZ, zKdO, zB01, zB11, Option.toList_none, Option.toList_some, List.nil_append, List.cons_append, true_or, or_true, zRow_rd, zu_rd, zo_iconst, zo_istore, zi_0, zcl_0, zKn_0, zN10, zN01, not_true_eq_false, not_false_eq_true, false_implies, true_implies, implies_true, eq_self, nI_1, nI_40, nI_7, vz0, vz1, zb1_e0, zb1_n0]
  suffices key : zX w mX10_lays rX10_lays Q 0 0 6 [(0, Value.ref 87), (1, Value.int (nI l)), (2, Value.int 0), (3, Value.int (-1)), (4, Value.int 1), (5, Value.int (nI q)), (6, Value.int (nI (l - (oPuts q 0 l V).1))), (7, Value.int (nI 0))] [] (SH, I, L, RF p s r) by
    rw [show l - (oPuts q 0 l V).1 = 0 from Nat.sub_self l] at key
    exact key
  refine zLoop (n := ch) (P := fun c => ∀ J, zKpt zS114 I J → vR 0 J = (oPuts q c l V).2.1 → zX w mX10_lays rX10_lays Q 0 0 6 [(0, Value.ref 87), (1, Value.int (nI l)), (2, Value.int 0), (3, Value.int (-1)), (4, Value.int 1), (5, Value.int (nI q)), (6, Value.int (nI (l - (oPuts q c l V).1))), (7, Value.int (nI c))] [] (SH, J, L, RF p s r)) (fun c hc ih => ?_) 0 (Nat.zero_le _) I zKpt_rfl hV
  intro J hJ hVJ
  have hle := oPuts_le (q := q) (l := l) (V := V) c
  have j102 : J 102 1 = nI ch := by rw [hJ 102 1 (by unfold zS114; omega)]; exact h102
  by_cases hcc : c = ch
  · subst hcc
    have hx : (nI c ≤ nI c) = True := eq_true (by rw [zle_nat (by omega) (by omega)]; omega)
    refine zBlkR (M := mX10_lays) (nL := 8) (rt := (Option.some .int)) (blk := bX10_lays_6) (T := [(48, bX10_lays_48), (69, bX10_lays_69), (75, bX10_lays_75)]) 1 hX10_lays_6 (zChks_cons hX10_lays_48 (zChks_cons hX10_lays_69 (zChks_cons hX10_lays_75 zChks_nil))) rfl rfl rfl (Nat.le_of_ble_eq_true rfl) (Nat.le_of_ble_eq_true rfl) ?_
    simp (implicitDefEqProofs := false) only [bX10_lays_6, bX10_lays_48, bX10_lays_69, bX10_lays_75, zRun_cons, zRun_nil, zLk, zSto, zIns, zFil, zf0, zf1, zf2, zf3, List.filter_cons, List.filter_nil, Nat.reduceAdd, Nat.reduceEqDiff, Nat.reduceLT, Nat.reduceLeDiff, Nat.reduceBEq, Nat.reduceBNe, reduceIte, if_true, if_false, Bool.false_and, Bool.true_and, Bool.and_true, Bool.and_false, Bool.not_false, Bool.not_true, Bool.false_eq_true, beq_self_eq_true, BEq.rfl, zCat1, zCat2, zCat3, zKdI, zKdL, zKdR, true_and, and_true, zSI, zSL, zSR, zu_at, and_self, and_false, false_and, lv_args, zKdZ, zKdO, zB01, zB11, Option.toList_none, Option.toList_some, List.nil_append, List.cons_append, true_or, or_true, zRow_rd, zu_rd, zo_iload, zo_aload_n, zo_getfield, zo_iconst, zo_iaload, zo_icmp_ge, zo_iload_n, zo_icmp_ne, zo_icmp_eq, zo_goto, zo_iastore, zo_iinc, zo_ireturn, zi_1, zKd_10_36, zKd_10_57, zKd_10_58, sh_87, rf_87_36, sh_102, zcl_1, rf_87_57, sh_114, rf_87_58, sh_115, zvi_1_32, zvi_1_80, zRt, zKn_s, zKn_0, zFind, j102, hx, zvi_1_32, zN10, zN01, not_true_eq_false, not_false_eq_true, false_implies, true_implies, implies_true, eq_self, nI_1, nI_40, nI_7, vz0, vz1, zb1_e0, zb1_n0]
    rw [show l - (oPuts q c l V).1 = pcN (oPuts q c l V).2.2 by omega]
    exact hQ J hJ hVJ
  have hx : (nI ch ≤ nI c) = False := eq_false (by rw [zle_nat (by omega) (by omega)]; omega)
  by_cases hz : (oPuts q c l V).1 = 0
  · have hx2 : (nI l ≤ nI (l - (oPuts q c l V).1)) = True := eq_true (by rw [hz, zle_nat (by omega) (by omega)]; omega)
    refine zBlkR (M := mX10_lays) (nL := 8) (rt := (Option.some .int)) (blk := bX10_lays_6) (T := [(48, bX10_lays_48), (69, bX10_lays_69), (75, bX10_lays_75)]) 1 hX10_lays_6 (zChks_cons hX10_lays_48 (zChks_cons hX10_lays_69 (zChks_cons hX10_lays_75 zChks_nil))) rfl rfl rfl (Nat.le_of_ble_eq_true rfl) (Nat.le_of_ble_eq_true rfl) ?_
    simp (implicitDefEqProofs := false) only [bX10_lays_6, bX10_lays_48, bX10_lays_69, bX10_lays_75, zRun_cons, zRun_nil, zLk, zSto, zIns, zFil, zf0, zf1, zf2, zf3, List.filter_cons, List.filter_nil, Nat.reduceAdd, Nat.reduceEqDiff, Nat.reduceLT, Nat.reduceLeDiff, Nat.reduceBEq, Nat.reduceBNe, reduceIte, if_true, if_false, Bool.false_and, Bool.true_and, Bool.and_true, Bool.and_false, Bool.not_false, Bool.not_true, Bool.false_eq_true, beq_self_eq_true, BEq.rfl, zCat1, zCat2, zCat3, zKdI, zKdL, zKdR, true_and, and_true, zSI, zSL, zSR, zu_at, and_self, and_false, false_and, lv_args, zKdZ, zKdO, zB01, zB11, Option.toList_none, Option.toList_some, List.nil_append, List.cons_append, true_or, or_true, zRow_rd, zu_rd, zo_iload, zo_aload_n, zo_getfield, zo_iconst, zo_iaload, zo_icmp_ge, zo_iload_n, zo_icmp_ne, zo_icmp_eq, zo_goto, zo_iastore, zo_iinc, zo_ireturn, zi_1, zKd_10_36, zKd_10_57, zKd_10_58, sh_87, rf_87_36, sh_102, zcl_1, rf_87_57, sh_114, rf_87_58, sh_115, zvi_1_32, zvi_1_80, zRt, zKn_s, zKn_0, zFind, j102, hx, hx2, zvi_1_32, zN10, zN01, not_true_eq_false, not_false_eq_true, false_implies, true_implies, implies_true, eq_self, nI_1, nI_40, nI_7, vz0, vz1, zb1_e0, zb1_n0]
    have := oPuts_0 hz (ch - c)
    rw [show c + (ch - c) = ch by omega] at this
    rw [this] at hQ hpc
    rw [show l - (oPuts q c l V).1 = pcN (oPuts q c l V).2.2 by omega]
    exact hQ J hJ hVJ
  have hx2 : (nI l ≤ nI (l - (oPuts q c l V).1)) = False := eq_false (by rw [zle_nat (by omega) (by omega)]; omega)
  have hv : vp_in (nI c) 80 := zvn (by omega) (by omega)
  have ih := ih (by omega)
  rw [oPuts_s] at ih
  have h1 := oPuts_hi (q := q) (l := l) (V := V) (a := c) (i := 1) (c := c) (Nat.le_refl _)
  have h2 := oPuts_hi (q := q) (l := l) (V := V) (a := c) (i := 2) (c := c) (Nat.le_refl _)
  have j1 : J 114 c = V 1 c := by
    have : vR 0 J 1 c = J 114 c := by rw [vR_1 (by omega)]; simp
    rw [← this, hVJ, h1]
  have j2 : J 115 c = V 2 c := by
    have : vR 0 J 2 c = J 115 c := by rw [vR_2 (by omega)]; simp
    rw [← this, hVJ, h2]
  generalize hzE : oPuts q c l V = z at *
  rw [oPutS, h1] at ih
  refine zBlkR (M := mX10_lays) (nL := 8) (rt := (Option.some .int)) (blk := bX10_lays_6) (T := [(48, bX10_lays_48), (69, bX10_lays_69), (75, bX10_lays_75)]) 1 hX10_lays_6 (zChks_cons hX10_lays_48 (zChks_cons hX10_lays_69 (zChks_cons hX10_lays_75 zChks_nil))) rfl rfl rfl (Nat.le_of_ble_eq_true rfl) (Nat.le_of_ble_eq_true rfl) ?_
  simp (implicitDefEqProofs := false) only [bX10_lays_6, bX10_lays_48, bX10_lays_69, bX10_lays_75, zRun_cons, zRun_nil, zLk, zSto, zIns, zFil, zf0, zf1, zf2, zf3, List.filter_cons, List.filter_nil, Nat.reduceAdd, Nat.reduceEqDiff, Nat.reduceLT, Nat.reduceLeDiff, Nat.reduceBEq, Nat.reduceBNe, reduceIte, if_true, if_false, Bool.false_and, Bool.true_and, Bool.and_true, Bool.and_false, Bool.not_false, Bool.not_true, Bool.false_eq_true, beq_self_eq_true, BEq.rfl, zCat1, zCat2, zCat3, zKdI, zKdL, zKdR, true_and, and_true, zSI, zSL, zSR, zu_at, and_self, and_false, false_and, lv_args, zKdZ, zKdO, zB01, zB11, Option.toList_none, Option.toList_some, List.nil_append, List.cons_append, true_or, or_true, zRow_rd, zu_rd, zo_iload, zo_aload_n, zo_getfield, zo_iconst, zo_iaload, zo_icmp_ge, zo_iload_n, zo_icmp_ne, zo_icmp_eq, zo_goto, zo_iastore, zo_iinc, zo_ireturn, zi_1, zKd_10_36, zKd_10_57, zKd_10_58, sh_87, rf_87_36, sh_102, zcl_1, rf_87_57, sh_114, rf_87_58, sh_115, zvi_1_32, zvi_1_80, zRt, zKn_s, zKn_0, zFind, j102, hx, hx2, hv, j1, j2, zvi_1_32, nI_clamp (n := c) (by omega), zN10, zN01, not_true_eq_false, not_false_eq_true, false_implies, true_implies, implies_true, eq_self, nI_1, nI_40, nI_7, vz0, vz1, zb1_e0, zb1_n0]
  refine ⟨fun g => ?_, fun g => ?_⟩
  · rw [if_neg (fun e => g e.2)] at ih
    exact ih J hJ hVJ
  · have w2 : V 2 c = -1 := by
      have := hok c (by omega)
      rw [g] at this
      unfold kOk at this
      simp at this
      exact this.1
    rw [if_pos ⟨by omega, g⟩] at ih
    refine ⟨fun g2 => ?_, fun g2 => absurd w2 g2⟩
    · have x1 : l - (z.1 - 1) = l - z.1 + 1 := by omega
      have ih' := ih _ ((hJ.u (i := 114) (k := c) (v := 1) ⟨Or.inl rfl, by omega⟩).u (i := 115) (k := c) (v := (nI q)) ⟨Or.inr rfl, by omega⟩) (by
        rw [vR0_u2 (by omega), vR0_u1 (by omega), hVJ]
        show _ = oPutC q c z.2.1
        rw [oPutC, if_pos (by rw [h1]; exact g)])
      rw [show l - (z.1 - 1, oPutC q c z.2.1, z.2.2 + 2 ^ c).1 = l - z.1 + 1 from x1] at ih'
      exact ih'
set_option maxRecDepth 20000 in
theorem mo_lays_bring (h102 : I 102 1 = nI ch) (hch : ch ≤ 40) (hV : vR 0 I = V) (hok : oOk ch np wm V) (hq : q < np) (hnp : np ≤ 5) (hl : l ≤ 40) (hQ : ∀ I', zKpt zS114 I I' → vR 0 I' = (oBris q ch l V).2.1 → Q (some (.int (nI (pcN (oBris q ch l V).2.2)))) (SH, I', L, RF p s r)) : zXM w mX10_lays rX10_lays [.ref 87, .int (nI l), .int 1, .int (nI q), .int 0, .int (-1)] (SH, I, L, RF p s r) Q := by
  unfold zXM
  have hpc := oBris_pc (q := q) (l := l) (V := V) hch
  refine zBlkR (M := mX10_lays) (nL := 8) (rt := (Option.some .int)) (blk := bX10_lays_0) (T := []) 0 hX10_lays_0 zChks_nil rfl rfl rfl (Nat.le_of_ble_eq_true rfl) (Nat.le_of_ble_eq_true rfl) ?_
  simp (implicitDefEqProofs := false) only [bX10_lays_0, zRun_cons, zRun_nil, zLk, zSto, zIns, zFil, zf0, zf1, zf2, zf3, List.filter_cons, List.filter_nil, Nat.reduceAdd, Nat.reduceEqDiff, Nat.reduceLT, Nat.reduceLeDiff, Nat.reduceBEq, Nat.reduceBNe, reduceIte, if_true, if_false, Bool.false_and, Bool.true_and, Bool.and_true, Bool.and_false, Bool.not_false, Bool.not_true, Bool.false_eq_true, beq_self_eq_true, BEq.rfl, zCat1, zCat2, zCat3, zKdI, zKdL, zKdR, true_and, and_true, zSI, zSL, zSR, zu_at, and_self, and_false, false_and, lv_args, zKdZ, zKdO, zB01, zB11, Option.toList_none, Option.toList_some, List.nil_append, List.cons_append, true_or, or_true, zRow_rd, zu_rd, zo_iconst, zo_istore, zi_0, zcl_0, zKn_0, zN10, zN01, not_true_eq_false, not_false_eq_true, false_implies, true_implies, implies_true, eq_self, nI_1, nI_40, nI_7, vz0, vz1, zb1_e0, zb1_n0]
  suffices key : zX w mX10_lays rX10_lays Q 0 0 6 [(0, Value.ref 87), (1, Value.int (nI l)), (2, Value.int 1), (3, Value.int (nI q)), (4, Value.int 0), (5, Value.int (-1)), (6, Value.int (nI (l - (oBris q 0 l V).1))), (7, Value.int (nI 0))] [] (SH, I, L, RF p s r) by
    rw [show l - (oBris q 0 l V).1 = 0 from Nat.sub_self l] at key
    exact key
  refine zLoop (n := ch) (P := fun c => ∀ J, zKpt zS114 I J → vR 0 J = (oBris q c l V).2.1 → zX w mX10_lays rX10_lays Q 0 0 6 [(0, Value.ref 87), (1, Value.int (nI l)), (2, Value.int 1), (3, Value.int (nI q)), (4, Value.int 0), (5, Value.int (-1)), (6, Value.int (nI (l - (oBris q c l V).1))), (7, Value.int (nI c))] [] (SH, J, L, RF p s r)) (fun c hc ih => ?_) 0 (Nat.zero_le _) I zKpt_rfl hV
  intro J hJ hVJ
  have hle := oBris_le (q := q) (l := l) (V := V) c
  have j102 : J 102 1 = nI ch := by rw [hJ 102 1 (by unfold zS114; omega)]; exact h102
  by_cases hcc : c = ch
  · subst hcc
    have hx : (nI c ≤ nI c) = True := eq_true (by rw [zle_nat (by omega) (by omega)]; omega)
    refine zBlkR (M := mX10_lays) (nL := 8) (rt := (Option.some .int)) (blk := bX10_lays_6) (T := [(48, bX10_lays_48), (69, bX10_lays_69), (75, bX10_lays_75)]) 1 hX10_lays_6 (zChks_cons hX10_lays_48 (zChks_cons hX10_lays_69 (zChks_cons hX10_lays_75 zChks_nil))) rfl rfl rfl (Nat.le_of_ble_eq_true rfl) (Nat.le_of_ble_eq_true rfl) ?_
    simp (implicitDefEqProofs := false) only [bX10_lays_6, bX10_lays_48, bX10_lays_69, bX10_lays_75, zRun_cons, zRun_nil, zLk, zSto, zIns, zFil, zf0, zf1, zf2, zf3, List.filter_cons, List.filter_nil, Nat.reduceAdd, Nat.reduceEqDiff, Nat.reduceLT, Nat.reduceLeDiff, Nat.reduceBEq, Nat.reduceBNe, reduceIte, if_true, if_false, Bool.false_and, Bool.true_and, Bool.and_true, Bool.and_false, Bool.not_false, Bool.not_true, Bool.false_eq_true, beq_self_eq_true, BEq.rfl, zCat1, zCat2, zCat3, zKdI, zKdL, zKdR, true_and, and_true, zSI, zSL, zSR, zu_at, and_self, and_false, false_and, lv_args, zKdZ, zKdO, zB01, zB11, Option.toList_none, Option.toList_some, List.nil_append, List.cons_append, true_or, or_true, zRow_rd, zu_rd, zo_iload, zo_aload_n, zo_getfield, zo_iconst, zo_iaload, zo_icmp_ge, zo_iload_n, zo_icmp_ne, zo_icmp_eq, zo_goto, zo_iastore, zo_iinc, zo_ireturn, zi_1, zKd_10_36, zKd_10_57, zKd_10_58, sh_87, rf_87_36, sh_102, zcl_1, rf_87_57, sh_114, rf_87_58, sh_115, zvi_1_32, zvi_1_80, zRt, zKn_s, zKn_0, zFind, j102, hx, zvi_1_32, zN10, zN01, not_true_eq_false, not_false_eq_true, false_implies, true_implies, implies_true, eq_self, nI_1, nI_40, nI_7, vz0, vz1, zb1_e0, zb1_n0]
    rw [show l - (oBris q c l V).1 = pcN (oBris q c l V).2.2 by omega]
    exact hQ J hJ hVJ
  have hx : (nI ch ≤ nI c) = False := eq_false (by rw [zle_nat (by omega) (by omega)]; omega)
  by_cases hz : (oBris q c l V).1 = 0
  · have hx2 : (nI l ≤ nI (l - (oBris q c l V).1)) = True := eq_true (by rw [hz, zle_nat (by omega) (by omega)]; omega)
    refine zBlkR (M := mX10_lays) (nL := 8) (rt := (Option.some .int)) (blk := bX10_lays_6) (T := [(48, bX10_lays_48), (69, bX10_lays_69), (75, bX10_lays_75)]) 1 hX10_lays_6 (zChks_cons hX10_lays_48 (zChks_cons hX10_lays_69 (zChks_cons hX10_lays_75 zChks_nil))) rfl rfl rfl (Nat.le_of_ble_eq_true rfl) (Nat.le_of_ble_eq_true rfl) ?_
    simp (implicitDefEqProofs := false) only [bX10_lays_6, bX10_lays_48, bX10_lays_69, bX10_lays_75, zRun_cons, zRun_nil, zLk, zSto, zIns, zFil, zf0, zf1, zf2, zf3, List.filter_cons, List.filter_nil, Nat.reduceAdd, Nat.reduceEqDiff, Nat.reduceLT, Nat.reduceLeDiff, Nat.reduceBEq, Nat.reduceBNe, reduceIte, if_true, if_false, Bool.false_and, Bool.true_and, Bool.and_true, Bool.and_false, Bool.not_false, Bool.not_true, Bool.false_eq_true, beq_self_eq_true, BEq.rfl, zCat1, zCat2, zCat3, zKdI, zKdL, zKdR, true_and, and_true, zSI, zSL, zSR, zu_at, and_self, and_false, false_and, lv_args, zKdZ, zKdO, zB01, zB11, Option.toList_none, Option.toList_some, List.nil_append, List.cons_append, true_or, or_true, zRow_rd, zu_rd, zo_iload, zo_aload_n, zo_getfield, zo_iconst, zo_iaload, zo_icmp_ge, zo_iload_n, zo_icmp_ne, zo_icmp_eq, zo_goto, zo_iastore, zo_iinc, zo_ireturn, zi_1, zKd_10_36, zKd_10_57, zKd_10_58, sh_87, rf_87_36, sh_102, zcl_1, rf_87_57, sh_114, rf_87_58, sh_115, zvi_1_32, zvi_1_80, zRt, zKn_s, zKn_0, zFind, j102, hx, hx2, zvi_1_32, zN10, zN01, not_true_eq_false, not_false_eq_true, false_implies, true_implies, implies_true, eq_self, nI_1, nI_40, nI_7, vz0, vz1, zb1_e0, zb1_n0]
    have := oBris_0 hz (ch - c)
    rw [show c + (ch - c) = ch by omega] at this
    rw [this] at hQ hpc
    rw [show l - (oBris q c l V).1 = pcN (oBris q c l V).2.2 by omega]
    exact hQ J hJ hVJ
  have hx2 : (nI l ≤ nI (l - (oBris q c l V).1)) = False := eq_false (by rw [zle_nat (by omega) (by omega)]; omega)
  have hv : vp_in (nI c) 80 := zvn (by omega) (by omega)
  have ih := ih (by omega)
  rw [oBris_s] at ih
  have h1 := oBris_hi (q := q) (l := l) (V := V) (a := c) (i := 1) (c := c) (Nat.le_refl _)
  have h2 := oBris_hi (q := q) (l := l) (V := V) (a := c) (i := 2) (c := c) (Nat.le_refl _)
  have j1 : J 114 c = V 1 c := by
    have : vR 0 J 1 c = J 114 c := by rw [vR_1 (by omega)]; simp
    rw [← this, hVJ, h1]
  have j2 : J 115 c = V 2 c := by
    have : vR 0 J 2 c = J 115 c := by rw [vR_2 (by omega)]; simp
    rw [← this, hVJ, h2]
  generalize hzE : oBris q c l V = z at *
  rw [oBriS, h1, h2] at ih
  refine zBlkR (M := mX10_lays) (nL := 8) (rt := (Option.some .int)) (blk := bX10_lays_6) (T := [(48, bX10_lays_48), (69, bX10_lays_69), (75, bX10_lays_75)]) 1 hX10_lays_6 (zChks_cons hX10_lays_48 (zChks_cons hX10_lays_69 (zChks_cons hX10_lays_75 zChks_nil))) rfl rfl rfl (Nat.le_of_ble_eq_true rfl) (Nat.le_of_ble_eq_true rfl) ?_
  simp (implicitDefEqProofs := false) only [bX10_lays_6, bX10_lays_48, bX10_lays_69, bX10_lays_75, zRun_cons, zRun_nil, zLk, zSto, zIns, zFil, zf0, zf1, zf2, zf3, List.filter_cons, List.filter_nil, Nat.reduceAdd, Nat.reduceEqDiff, Nat.reduceLT, Nat.reduceLeDiff, Nat.reduceBEq, Nat.reduceBNe, reduceIte, if_true, if_false, Bool.false_and, Bool.true_and, Bool.and_true, Bool.and_false, Bool.not_false, Bool.not_true, Bool.false_eq_true, beq_self_eq_true, BEq.rfl, zCat1, zCat2, zCat3, zKdI, zKdL, zKdR, true_and, and_true, zSI, zSL, zSR, zu_at, and_self, and_false, false_and, lv_args, zKdZ, zKdO, zB01, zB11, Option.toList_none, Option.toList_some, List.nil_append, List.cons_append, true_or, or_true, zRow_rd, zu_rd, zo_iload, zo_aload_n, zo_getfield, zo_iconst, zo_iaload, zo_icmp_ge, zo_iload_n, zo_icmp_ne, zo_icmp_eq, zo_goto, zo_iastore, zo_iinc, zo_ireturn, zi_1, zKd_10_36, zKd_10_57, zKd_10_58, sh_87, rf_87_36, sh_102, zcl_1, rf_87_57, sh_114, rf_87_58, sh_115, zvi_1_32, zvi_1_80, zRt, zKn_s, zKn_0, zFind, j102, hx, hx2, hv, j1, j2, zvi_1_32, nI_clamp (n := c) (by omega), zN10, zN01, not_true_eq_false, not_false_eq_true, false_implies, true_implies, implies_true, eq_self, nI_1, nI_40, nI_7, vz0, vz1, zb1_e0, zb1_n0]
  refine ⟨fun g => ?_, fun g => ?_⟩
  · rw [if_neg (fun e => g e.2.1)] at ih
    exact ih J hJ hVJ
  · refine ⟨fun g2 => ?_, fun g2 => by
      rw [if_neg (fun e => g2 e.2.2)] at ih
      exact ih J hJ hVJ⟩
    · rw [if_pos ⟨by omega, g, g2⟩] at ih
      have x1 : l - (z.1 - 1) = l - z.1 + 1 := by omega
      have ih' := ih _ ((hJ.u (i := 114) (k := c) (v := 0) ⟨Or.inl rfl, by omega⟩).u (i := 115) (k := c) (v := (-1)) ⟨Or.inr rfl, by omega⟩) (by
        rw [vR0_u2 (by omega), vR0_u1 (by omega), hVJ]
        show _ = oStack c z.2.1
        rw [oStack, if_pos (by rw [h1]; exact g)])
      rw [show l - (z.1 - 1, oStack c z.2.1, z.2.2 + 2 ^ c).1 = l - z.1 + 1 from x1] at ih'
      exact ih'
end ZU94
