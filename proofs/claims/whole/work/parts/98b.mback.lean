/-! ===== BACK: the reference ===== -/
section ZK98b
variable {w : zP} {Q : Option Value → zMem → Prop} {μ : zMem} {I J V V' S : Nat → Nat → Int32} {L K : Nat → Nat → Int64} {p s t kc kc' t' : Nat} {r : Option Nat} {P : oPn} {a b c i k q n l : Nat} {d d' : Int64} {rt rt' : oRt} {u : oUd} {x y wm : Int32} {m : oTm}
theorem vR0_of (hid : zV V = V) (h1 : ∀ i c, 1 ≤ i → i ≤ 5 → c < 40 → I (113 + i) c = V i c) (h2 : ∀ c, c < 7 → I 119 c = V 8 c) : vR 0 I = V := by
  rw [← hid]
  unfold vR zV
  funext i c
  split
  · split
    · rename_i h; simp; exact h2 c h
    · rfl
  · split
    · rename_i h8 h
      simp [h8]; exact h1 i c h.1.1 h.1.2 h.2
    · rfl
theorem zRl_b (h : zRl I L P V d t kc rt) (hr : zKpt SRb I J) (hF : zrFr J K V' d' q kc' rt') (hO : FrOk P V' q kc' rt') : zRl J K P V' d' q kc' rt' := by
  obtain ⟨a1, a2, ⟨h1, h2, h3, h4, h5⟩, a4, a5, a6⟩ := h
  have e : ∀ k, k < 50 → k ≠ 2 → J 87 k = I 87 k := fun k h1 h2 => hr 87 k (by unfold SRb; omega)
  exact ⟨a1, a2, ⟨fun i a c => by rw [show J i = I i from funext fun k => hr i k (by unfold SRb; omega)]; exact h1 i a c, by rw [e 12 (by omega) (by omega), h2], by rw [e 13 (by omega) (by omega), h3], by rw [e 14 (by omega) (by omega), h4], by rw [e 15 (by omega) (by omega), h5]⟩, ⟨by rw [e 16 (by omega) (by omega), a4.1], by rw [e 17 (by omega) (by omega), a4.2]⟩, hF, hO⟩
set_option maxRecDepth 20000 in
theorem mo_back (hR : zRl I L P V d t kc rt) (h0 : I 87 90 = 0 → Q (some (.int (-1))) (SH, zu I 87 2 0, L, RF p s r)) (h1 : I 87 90 ≠ 0 → zrIm I L V' d' t' kc' rt' ∧ FrOk P V' t' kc' rt') (hQ : I 87 90 ≠ 0 → ∀ I' L', zKpt SRb I I' → zKpt SRbL L L' → zRl I' L' P V' d' t' kc' rt' → I' 87 78 = 0 → Q (some (.int (nI t'))) (SH, I', L', RF p s r)) : zXM w mX10_back rX10_back [.ref 87] (SH, I, L, RF p s r) Q := by
  unfold zXM
  by_cases hz : I 87 90 = 0
  · refine zBlkR (M := mX10_back) (nL := 2) (rt := (Option.some .int)) (blk := bX10_back_0) (T := [(14, bX10_back_14)]) 1 hX10_back_0 (zChks_cons hX10_back_14 zChks_nil) rfl rfl rfl (Nat.le_of_ble_eq_true rfl) (Nat.le_of_ble_eq_true rfl) ?_
    simp (implicitDefEqProofs := false) only [bX10_back_0, bX10_back_14, zRun_cons, zRun_nil, zLk, zSto, zIns, zFil, zf0, zf1, zf2, zf3, List.filter_cons, List.filter_nil, Nat.reduceAdd, Nat.reduceEqDiff, Nat.reduceLT, Nat.reduceLeDiff, Nat.reduceBEq, Nat.reduceBNe, reduceIte, if_true, if_false, Bool.false_and, Bool.true_and, Bool.and_true, Bool.and_false, Bool.not_false, Bool.not_true, Bool.false_eq_true, beq_self_eq_true, BEq.rfl, zCat1, zCat2, zCat3, zKdI, zKdL, zKdR, true_and, and_true, zSI, zSL, zSR, zu_at, and_self, and_false, false_and, lv_args, zKdZ, zKdO, zB01, zB11, Option.toList_none, Option.toList_some, List.nil_append, List.cons_append, true_or, or_true, zRow_rd, zu_rd, zo_aload_n, zo_iconst, zo_putfield, zo_putfield_2, zo_putfield_3, zo_getfield, zo_if_ne, zo_ireturn, zo_lastore, zo_istore_n, zi_0, zi_m1, zKd_10_2, zTy_10_2, zKd_10_90, zKd_10_91, zKd_10_55, zTy_10_55, zKd_10_92, zKd_10_56, zTy_10_56, zKd_10_93, zKd_10_64, zTy_10_64, zKd_10_94, zKd_10_65, zTy_10_65, zKd_10_63, zKd_10_95, zcl_0, sh_87, rf_87_63, sh_120, zvi_0_2, zRt, zPutC, zKn_s, zKn_0, zFind, hz, zN10, zN01, not_true_eq_false, not_false_eq_true, false_implies, true_implies, implies_true, eq_self, nI_1, nI_40, nI_7, vz0, vz1, zb1_e0, zb1_n0]
    exact h0 hz
  obtain ⟨⟨m1, m2, m3, m4, m5, m6, m7, m8, m9⟩, hF⟩ := h1 hz
  have hQ := hQ hz
  have hpa : ∀ c, c < 40 → V' 5 c = 0 ∨ V' 5 c = 1 := fun c hc => oOk_pa hF.1 hc
  have r8 := hF.2.1.1
  refine zBlkR (M := mX10_back) (nL := 2) (rt := (Option.some .int)) (blk := bX10_back_0) (T := [(14, bX10_back_14)]) 1 hX10_back_0 (zChks_cons hX10_back_14 zChks_nil) rfl rfl rfl (Nat.le_of_ble_eq_true rfl) (Nat.le_of_ble_eq_true rfl) ?_
  simp (implicitDefEqProofs := false) only [bX10_back_0, bX10_back_14, zRun_cons, zRun_nil, zLk, zSto, zIns, zFil, zf0, zf1, zf2, zf3, List.filter_cons, List.filter_nil, Nat.reduceAdd, Nat.reduceEqDiff, Nat.reduceLT, Nat.reduceLeDiff, Nat.reduceBEq, Nat.reduceBNe, reduceIte, if_true, if_false, Bool.false_and, Bool.true_and, Bool.and_true, Bool.and_false, Bool.not_false, Bool.not_true, Bool.false_eq_true, beq_self_eq_true, BEq.rfl, zCat1, zCat2, zCat3, zKdI, zKdL, zKdR, true_and, and_true, zSI, zSL, zSR, zu_at, and_self, and_false, false_and, lv_args, zKdZ, zKdO, zB01, zB11, Option.toList_none, Option.toList_some, List.nil_append, List.cons_append, true_or, or_true, zRow_rd, zu_rd, zo_aload_n, zo_iconst, zo_putfield, zo_putfield_2, zo_putfield_3, zo_getfield, zo_if_ne, zo_ireturn, zo_lastore, zo_istore_n, zi_0, zi_m1, zKd_10_2, zTy_10_2, zKd_10_90, zKd_10_91, zKd_10_55, zTy_10_55, zKd_10_92, zKd_10_56, zTy_10_56, zKd_10_93, zKd_10_64, zTy_10_64, zKd_10_94, zKd_10_65, zTy_10_65, zKd_10_63, zKd_10_95, zcl_0, sh_87, rf_87_63, sh_120, zvi_0_2, zRt, zPutC, zKn_s, zKn_0, zFind, hz, m3, m4, m5, m6, m8, zN10, zN01, not_true_eq_false, not_false_eq_true, false_implies, true_implies, implies_true, eq_self, nI_1, nI_40, nI_7, vz0, vz1, zb1_e0, zb1_n0]
  have kI : zKpt SRb I (zu (zu (zu (zu (zu I 87 2 0) 87 55 (nI t')) 87 56 (nI kc')) 87 64 (nI rt'.1)) 87 65 (nI rt'.2.1)) := by
    refine ((((zKpt_rfl.u ?_).u ?_).u ?_).u ?_).u ?_ <;> unfold SRb <;> omega
  have kL : zKpt SRbL L (zu L 120 0 d') := zKpt_rfl.u (by unfold SRbL; omega)
  have eL : zu L 120 0 d' 120 0 = d' := by simp [zu_at]
  have j55 : (zu (zu (zu (zu (zu I 87 2 0) 87 55 (nI t')) 87 56 (nI kc')) 87 64 (nI rt'.1)) 87 65 (nI rt'.2.1)) 87 55 = nI t' := by simp [zu_at]
  have j56 : (zu (zu (zu (zu (zu I 87 2 0) 87 55 (nI t')) 87 56 (nI kc')) 87 64 (nI rt'.1)) 87 65 (nI rt'.2.1)) 87 56 = nI kc' := by simp [zu_at]
  have j64 : (zu (zu (zu (zu (zu I 87 2 0) 87 55 (nI t')) 87 56 (nI kc')) 87 64 (nI rt'.1)) 87 65 (nI rt'.2.1)) 87 64 = nI rt'.1 := by simp [zu_at]
  have j65 : (zu (zu (zu (zu (zu I 87 2 0) 87 55 (nI t')) 87 56 (nI kc')) 87 64 (nI rt'.1)) 87 65 (nI rt'.2.1)) 87 65 = nI rt'.2.1 := by simp [zu_at]
  generalize zu (zu (zu (zu (zu I 87 2 0) 87 55 (nI t')) 87 56 (nI kc')) 87 64 (nI rt'.1)) 87 65 (nI rt'.2.1) = I1 at *
  generalize zu L 120 0 d' = L1 at *
  have l3 : ∀ J0, zKpt SRb I J0 → (∀ k, J0 87 k = I1 87 k) → vR 0 J0 = V' → zX w mX10_back rX10_back Q 0 0 158 [(0, Value.ref 87), (1, Value.int (nI 0))] [] (SH, J0, L1, RF p s r) := by
    intro J0 k0 h87 hV0
    refine zLoop (n := 8) (P := fun a => ∀ J, zKpt (zS1 121) J0 J → (∀ i, i < a → J 121 i = I 138 i) → zX w mX10_back rX10_back Q 0 0 158 [(0, Value.ref 87), (1, Value.int (nI a))] [] (SH, J, L1, RF p s r)) (fun a ha ih => ?_) 0 (Nat.zero_le _) J0 zKpt_rfl (fun i hi => absurd hi (by omega))
    intro J hJ hnew
    have hr : ∀ i, i ≠ 121 → J i = J0 i := fun i hi => funext fun j => hJ i j hi
    have q87 : ∀ k, J 87 k = I1 87 k := fun k => by rw [hr 87 (by omega)]; exact h87 k
    by_cases hke : a = 8
    · subst hke
      have hx : ((8 : Int32) ≤ nI 8) = True := eq_true (by decide)
      have q55 : J 87 55 = nI t' := by rw [q87 55]; exact j55
      refine zBlkR (M := mX10_back) (nL := 2) (rt := (Option.some .int)) (blk := bX10_back_158) (T := [(182, bX10_back_182)]) 1 hX10_back_158 (zChks_cons hX10_back_182 zChks_nil) rfl rfl rfl (Nat.le_of_ble_eq_true rfl) (Nat.le_of_ble_eq_true rfl) ?_
      simp (implicitDefEqProofs := false) only [bX10_back_158, bX10_back_182, zRun_cons, zRun_nil, zLk, zSto, zIns, zFil, zf0, zf1, zf2, zf3, List.filter_cons, List.filter_nil, Nat.reduceAdd, Nat.reduceEqDiff, Nat.reduceLT, Nat.reduceLeDiff, Nat.reduceBEq, Nat.reduceBNe, reduceIte, if_true, if_false, Bool.false_and, Bool.true_and, Bool.and_true, Bool.and_false, Bool.not_false, Bool.not_true, Bool.false_eq_true, beq_self_eq_true, BEq.rfl, zCat1, zCat2, zCat3, zKdI, zKdL, zKdR, true_and, and_true, zSI, zSL, zSR, zu_at, and_self, and_false, false_and, lv_args, zKdZ, zKdO, zB01, zB11, Option.toList_none, Option.toList_some, List.nil_append, List.cons_append, true_or, or_true, zRow_rd, zu_rd, zo_iload_n, zo_bipush, zo_icmp_ge, zo_aload_n, zo_getfield, zo_iaload, zo_iastore, zo_iinc, zo_goto, zo_iconst, zo_putfield, zo_putfield_2, zo_putfield_3, zo_ireturn, zb_8, zi_1, zi_0, zKd_10_66, zKd_10_102, zKd_10_78, zTy_10_78, zKd_10_55, zcl_8, sh_87, rf_87_66, sh_121, rf_87_102, sh_138, zcl_0, zvi_0_8, zRt, zPutC, zKn_s, zKn_0, zFind, hx, q55, zN10, zN01, not_true_eq_false, not_false_eq_true, false_implies, true_implies, implies_true, eq_self, nI_1, nI_40, nI_7, vz0, vz1, zb1_e0, zb1_n0]
      have kk : zKpt SRb I (zu J 87 78 0) := (k0.trans (hJ.mono (fun i k g => by unfold zS1 at g; unfold SRb; omega))).u (by unfold SRb; omega)
      refine hQ _ L1 kk kL (zRl_b hR kk ⟨?_, ?_, ?_, ?_, ?_, ?_, eL⟩ hF) (by simp [zu_at])
      · rw [vR_un (by omega), ← hV0]
        unfold vR zV
        funext i c
        split
        · simp only [hr 119 (by omega)]; split <;> simp [*]
        · split
          · rename_i g; simp only [hr (113 + i) (by omega), hr 119 (by omega)]
          · rfl
      · simp [zu_at]; exact q55
      · simp [zu_at]; rw [q87]; exact j56
      · simp [zu_at]; rw [q87]; exact j64
      · simp [zu_at]; rw [q87]; exact j65
      · intro k hk
        simp [zu_at]; rw [hnew k (by omega)]; exact m7 k hk
    · have hx : ((8 : Int32) ≤ nI a) = False := eq_false (by rw [show (8 : Int32) = nI 8 from rfl, zle_nat (by omega) (by omega)]; omega)
      have hv : vp_in (nI a) 8 := zvn (by omega) (by omega)
      have q : J 138 a = I 138 a := by rw [hr 138 (by omega)]; exact k0 138 a (by unfold SRb; omega)
      refine zBlkR (M := mX10_back) (nL := 2) (rt := (Option.some .int)) (blk := bX10_back_158) (T := [(182, bX10_back_182)]) 1 hX10_back_158 (zChks_cons hX10_back_182 zChks_nil) rfl rfl rfl (Nat.le_of_ble_eq_true rfl) (Nat.le_of_ble_eq_true rfl) ?_
      simp (implicitDefEqProofs := false) only [bX10_back_158, bX10_back_182, zRun_cons, zRun_nil, zLk, zSto, zIns, zFil, zf0, zf1, zf2, zf3, List.filter_cons, List.filter_nil, Nat.reduceAdd, Nat.reduceEqDiff, Nat.reduceLT, Nat.reduceLeDiff, Nat.reduceBEq, Nat.reduceBNe, reduceIte, if_true, if_false, Bool.false_and, Bool.true_and, Bool.and_true, Bool.and_false, Bool.not_false, Bool.not_true, Bool.false_eq_true, beq_self_eq_true, BEq.rfl, zCat1, zCat2, zCat3, zKdI, zKdL, zKdR, true_and, and_true, zSI, zSL, zSR, zu_at, and_self, and_false, false_and, lv_args, zKdZ, zKdO, zB01, zB11, Option.toList_none, Option.toList_some, List.nil_append, List.cons_append, true_or, or_true, zRow_rd, zu_rd, zo_iload_n, zo_bipush, zo_icmp_ge, zo_aload_n, zo_getfield, zo_iaload, zo_iastore, zo_iinc, zo_goto, zo_iconst, zo_putfield, zo_putfield_2, zo_putfield_3, zo_ireturn, zb_8, zi_1, zi_0, zKd_10_66, zKd_10_102, zKd_10_78, zTy_10_78, zKd_10_55, zcl_8, sh_87, rf_87_66, sh_121, rf_87_102, sh_138, zcl_0, zvi_0_8, zRt, zPutC, zKn_s, zKn_0, zFind, hx, hv, q, nI_clamp (n := a) (by omega), zN10, zN01, not_true_eq_false, not_false_eq_true, false_implies, true_implies, implies_true, eq_self, nI_1, nI_40, nI_7, vz0, vz1, zb1_e0, zb1_n0]
      refine ih (by omega) _ (hJ.u rfl) (fun i hi => ?_)
      by_cases e : i = a
      · subst e; rw [zu_at, if_pos ⟨rfl, rfl⟩]
      · rw [zu_at, if_neg (by omega)]; exact hnew i (by omega)
  have l2 : ∀ J0, zKpt SRb I J0 → (∀ k, J0 87 k = I1 87 k) → (∀ i c, 1 ≤ i → i ≤ 5 → c < 40 → J0 (113 + i) c = V' i c) → zX w mX10_back rX10_back Q 0 0 132 [(0, Value.ref 87), (1, Value.int (nI 0))] [] (SH, J0, L1, RF p s r) := by
    intro J0 k0 h87 h1
    refine zLoop (n := 7) (P := fun a => ∀ J, zKpt zS119 J0 J → (∀ i, i < a → J 119 i = V' 8 i) → zX w mX10_back rX10_back Q 0 0 132 [(0, Value.ref 87), (1, Value.int (nI a))] [] (SH, J, L1, RF p s r)) (fun a ha ih => ?_) 0 (Nat.zero_le _) J0 zKpt_rfl (fun i hi => absurd hi (by omega))
    intro J hJ hnew
    have hr : ∀ i, i ≠ 119 → J i = J0 i := fun i hi => funext fun j => hJ i j (by unfold zS119; omega)
    by_cases hke : a = 7
    · subst hke
      have hx : ((7 : Int32) ≤ nI 7) = True := eq_true (by decide)
      refine zBlkR (M := mX10_back) (nL := 2) (rt := (Option.some .int)) (blk := bX10_back_132) (T := [(156, bX10_back_156)]) 1 hX10_back_132 (zChks_cons hX10_back_156 zChks_nil) rfl rfl rfl (Nat.le_of_ble_eq_true rfl) (Nat.le_of_ble_eq_true rfl) ?_
      simp (implicitDefEqProofs := false) only [bX10_back_132, bX10_back_156, zRun_cons, zRun_nil, zLk, zSto, zIns, zFil, zf0, zf1, zf2, zf3, List.filter_cons, List.filter_nil, Nat.reduceAdd, Nat.reduceEqDiff, Nat.reduceLT, Nat.reduceLeDiff, Nat.reduceBEq, Nat.reduceBNe, reduceIte, if_true, if_false, Bool.false_and, Bool.true_and, Bool.and_true, Bool.and_false, Bool.not_false, Bool.not_true, Bool.false_eq_true, beq_self_eq_true, BEq.rfl, zCat1, zCat2, zCat3, zKdI, zKdL, zKdR, true_and, and_true, zSI, zSL, zSR, zu_at, and_self, and_false, false_and, lv_args, zKdZ, zKdO, zB01, zB11, Option.toList_none, Option.toList_some, List.nil_append, List.cons_append, true_or, or_true, zRow_rd, zu_rd, zo_iload_n, zo_bipush, zo_icmp_ge, zo_aload_n, zo_getfield, zo_iaload, zo_iastore, zo_iinc, zo_goto, zo_iconst, zo_istore_n, zb_7, zi_1, zi_0, zKd_10_62, zKd_10_101, zcl_7, sh_87, rf_87_62, sh_119, rf_87_101, sh_137, zcl_0, zvi_7_14, zvi_0_7, zvi_0_14, zKn_s, zKn_0, zFind, hx, zN10, zN01, not_true_eq_false, not_false_eq_true, false_implies, true_implies, implies_true, eq_self, nI_1, nI_40, nI_7, vz0, vz1, zb1_e0, zb1_n0]
      exact l3 J (k0.trans (hJ.mono (fun i k g => by unfold zS119 at g; unfold SRb; omega))) (fun k => by rw [hr 87 (by omega)]; exact h87 k) (vR0_of m9 (fun i c g1 g2 g3 => by rw [hr (113 + i) (by omega)]; exact h1 i c g1 g2 g3) hnew)
    · have hx : ((7 : Int32) ≤ nI a) = False := eq_false (by rw [show (7 : Int32) = nI 7 from rfl, zle_nat (by omega) (by omega)]; omega)
      have hv : vp_in (nI a) 7 := zvn (by omega) (by omega)
      have hv1 : vp_in (nI a) 14 := zvn (by omega) (by omega)
      have q : J 137 a = V' 8 a := by rw [hr 137 (by omega), k0 137 a (by unfold SRb; omega)]; exact m2 a (by omega)
      refine zBlkR (M := mX10_back) (nL := 2) (rt := (Option.some .int)) (blk := bX10_back_132) (T := [(156, bX10_back_156)]) 1 hX10_back_132 (zChks_cons hX10_back_156 zChks_nil) rfl rfl rfl (Nat.le_of_ble_eq_true rfl) (Nat.le_of_ble_eq_true rfl) ?_
      simp (implicitDefEqProofs := false) only [bX10_back_132, bX10_back_156, zRun_cons, zRun_nil, zLk, zSto, zIns, zFil, zf0, zf1, zf2, zf3, List.filter_cons, List.filter_nil, Nat.reduceAdd, Nat.reduceEqDiff, Nat.reduceLT, Nat.reduceLeDiff, Nat.reduceBEq, Nat.reduceBNe, reduceIte, if_true, if_false, Bool.false_and, Bool.true_and, Bool.and_true, Bool.and_false, Bool.not_false, Bool.not_true, Bool.false_eq_true, beq_self_eq_true, BEq.rfl, zCat1, zCat2, zCat3, zKdI, zKdL, zKdR, true_and, and_true, zSI, zSL, zSR, zu_at, and_self, and_false, false_and, lv_args, zKdZ, zKdO, zB01, zB11, Option.toList_none, Option.toList_some, List.nil_append, List.cons_append, true_or, or_true, zRow_rd, zu_rd, zo_iload_n, zo_bipush, zo_icmp_ge, zo_aload_n, zo_getfield, zo_iaload, zo_iastore, zo_iinc, zo_goto, zo_iconst, zo_istore_n, zb_7, zi_1, zi_0, zKd_10_62, zKd_10_101, zcl_7, sh_87, rf_87_62, sh_119, rf_87_101, sh_137, zcl_0, zvi_7_14, zvi_0_7, zvi_0_14, zKn_s, zKn_0, zFind, hx, hv, hv1, q, nI_clamp (n := a) (by omega), zN10, zN01, not_true_eq_false, not_false_eq_true, false_implies, true_implies, implies_true, eq_self, nI_1, nI_40, nI_7, vz0, vz1, zb1_e0, zb1_n0]
      refine ih (by omega) _ (hJ.u ?_) (fun i hi => ?_)
      · unfold zS119; omega
      · by_cases e : i = a
        · subst e; rw [zu_at, if_pos ⟨rfl, rfl⟩]
        · rw [zu_at, if_neg (by omega)]; exact hnew i (by omega)
  refine zLoop (n := 40) (P := fun a => ∀ J, zKpt zS118 I1 J → (∀ i c, 1 ≤ i → i ≤ 5 → c < a → J (113 + i) c = V' i c) → zX w mX10_back rX10_back Q 0 0 58 [(0, Value.ref 87), (1, Value.int (nI a))] [] (SH, J, L1, RF p s r)) (fun a ha ih => ?_) 0 (Nat.zero_le _) I1 zKpt_rfl (fun i c _ _ hi => absurd hi (by omega))
  intro J hJ hnew
  by_cases hke : a = 40
  · subst hke
    have hx : ((40 : Int32) ≤ nI 40) = True := eq_true (by decide)
    refine zBlkR (M := mX10_back) (nL := 2) (rt := (Option.some .int)) (blk := bX10_back_58) (T := [(130, bX10_back_130)]) 1 hX10_back_58 (zChks_cons hX10_back_130 zChks_nil) rfl rfl rfl (Nat.le_of_ble_eq_true rfl) (Nat.le_of_ble_eq_true rfl) ?_
    simp (implicitDefEqProofs := false) only [bX10_back_58, bX10_back_130, zRun_cons, zRun_nil, zLk, zSto, zIns, zFil, zf0, zf1, zf2, zf3, List.filter_cons, List.filter_nil, Nat.reduceAdd, Nat.reduceEqDiff, Nat.reduceLT, Nat.reduceLeDiff, Nat.reduceBEq, Nat.reduceBNe, reduceIte, if_true, if_false, Bool.false_and, Bool.true_and, Bool.and_true, Bool.and_false, Bool.not_false, Bool.not_true, Bool.false_eq_true, beq_self_eq_true, BEq.rfl, zCat1, zCat2, zCat3, zKdI, zKdL, zKdR, true_and, and_true, zSI, zSL, zSR, zu_at, and_self, and_false, false_and, lv_args, zKdZ, zKdO, zB01, zB11, Option.toList_none, Option.toList_some, List.nil_append, List.cons_append, true_or, or_true, zRow_rd, zu_rd, zo_iload_n, zo_bipush, zo_icmp_ge, zo_aload_n, zo_getfield, zo_iaload, zo_iastore, zo_baload, zo_bastore, zo_iinc, zo_goto, zo_iconst, zo_istore_n, zb_40, zi_1, zi_0, zKd_10_57, zKd_10_96, zKd_10_58, zKd_10_97, zKd_10_59, zKd_10_98, zKd_10_60, zKd_10_99, zKd_10_61, zKd_10_100, zcl_40, sh_87, rf_87_57, sh_114, rf_87_96, sh_132, rf_87_58, sh_115, rf_87_97, sh_133, rf_87_59, sh_116, rf_87_98, sh_134, rf_87_60, sh_117, rf_87_99, sh_135, rf_87_61, sh_118, rf_87_100, sh_136, zcl_0, zvi_40_80, zvi_0_40, zvi_0_80, zKn_s, zKn_0, zFind, hx, zN10, zN01, not_true_eq_false, not_false_eq_true, false_implies, true_implies, implies_true, eq_self, nI_1, nI_40, nI_7, vz0, vz1, zb1_e0, zb1_n0]
    exact l2 J (kI.trans (hJ.mono (fun i k g => by unfold zS118 at g; unfold SRb; omega))) (fun k => hJ 87 k (by unfold zS118; omega)) hnew
  · have hx : ((40 : Int32) ≤ nI a) = False := eq_false (by rw [show (40 : Int32) = nI 40 from rfl, zle_nat (by omega) (by omega)]; omega)
    have hv : vp_in (nI a) 40 := zvn (by omega) (by omega)
    have hv1 : vp_in (nI a) 80 := zvn (by omega) (by omega)
    have q : ∀ i, 1 ≤ i → i ≤ 5 → J (131 + i) a = V' i a := fun i h1 h2 => by rw [hJ _ a (by unfold zS118; omega), kI _ a (by unfold SRb; omega)]; exact m1 i a h1 h2 (by omega)
    have q1 : J 132 a = V' 1 a := q 1 (by omega) (by omega)
    have q2 : J 133 a = V' 2 a := q 2 (by omega) (by omega)
    have q3 : J 134 a = V' 3 a := q 3 (by omega) (by omega)
    have q4 : J 135 a = V' 4 a := q 4 (by omega) (by omega)
    have q5 : J 136 a = V' 5 a := q 5 (by omega) (by omega)
    have q5b := vnb (hpa a (by omega))
    refine zBlkR (M := mX10_back) (nL := 2) (rt := (Option.some .int)) (blk := bX10_back_58) (T := [(130, bX10_back_130)]) 1 hX10_back_58 (zChks_cons hX10_back_130 zChks_nil) rfl rfl rfl (Nat.le_of_ble_eq_true rfl) (Nat.le_of_ble_eq_true rfl) ?_
    simp (implicitDefEqProofs := false) only [bX10_back_58, bX10_back_130, zRun_cons, zRun_nil, zLk, zSto, zIns, zFil, zf0, zf1, zf2, zf3, List.filter_cons, List.filter_nil, Nat.reduceAdd, Nat.reduceEqDiff, Nat.reduceLT, Nat.reduceLeDiff, Nat.reduceBEq, Nat.reduceBNe, reduceIte, if_true, if_false, Bool.false_and, Bool.true_and, Bool.and_true, Bool.and_false, Bool.not_false, Bool.not_true, Bool.false_eq_true, beq_self_eq_true, BEq.rfl, zCat1, zCat2, zCat3, zKdI, zKdL, zKdR, true_and, and_true, zSI, zSL, zSR, zu_at, and_self, and_false, false_and, lv_args, zKdZ, zKdO, zB01, zB11, Option.toList_none, Option.toList_some, List.nil_append, List.cons_append, true_or, or_true, zRow_rd, zu_rd, zo_iload_n, zo_bipush, zo_icmp_ge, zo_aload_n, zo_getfield, zo_iaload, zo_iastore, zo_baload, zo_bastore, zo_iinc, zo_goto, zo_iconst, zo_istore_n, zb_40, zi_1, zi_0, zKd_10_57, zKd_10_96, zKd_10_58, zKd_10_97, zKd_10_59, zKd_10_98, zKd_10_60, zKd_10_99, zKd_10_61, zKd_10_100, zcl_40, sh_87, rf_87_57, sh_114, rf_87_96, sh_132, rf_87_58, sh_115, rf_87_97, sh_133, rf_87_59, sh_116, rf_87_98, sh_134, rf_87_60, sh_117, rf_87_99, sh_135, rf_87_61, sh_118, rf_87_100, sh_136, zcl_0, zvi_40_80, zvi_0_40, zvi_0_80, zKn_s, zKn_0, zFind, hx, hv, hv1, q1, q2, q3, q4, q5, q5b, nI_clamp (n := a) (by omega), zN10, zN01, not_true_eq_false, not_false_eq_true, false_implies, true_implies, implies_true, eq_self, nI_1, nI_40, nI_7, vz0, vz1, zb1_e0, zb1_n0]
    refine ih (by omega) _ (((((hJ.u ?_).u ?_).u ?_).u ?_).u ?_) (fun i c g1 g2 hi => ?_)
    · unfold zS118; omega
    · unfold zS118; omega
    · unfold zS118; omega
    · unfold zS118; omega
    · unfold zS118; omega
    · by_cases e : c = a
      · subst e
        have : i = 1 ∨ i = 2 ∨ i = 3 ∨ i = 4 ∨ i = 5 := by omega
        rcases this with rfl | rfl | rfl | rfl | rfl <;> simp [zu_at]
      · simp [zu_at, e]; exact hnew i c g1 g2 (by omega)
end ZK98b
