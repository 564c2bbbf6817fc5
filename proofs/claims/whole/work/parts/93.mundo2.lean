/-! ===== UNDO: the reference ===== -/
def SRw (i k : Nat) : Prop := (i = 87 ∧ (k = 2 ∨ k = 56 ∨ k = 64 ∨ k = 65 ∨ k = 78)) ∨ ((i = 114 ∨ i = 115) ∧ k < 40) ∨ i = 121 ∨ (123 ≤ i ∧ i ≤ 127)
def zS114 (i k : Nat) : Prop := (i = 114 ∨ i = 115) ∧ k < 40
section ZU93
variable {w : zP} {Q : Option Value → zMem → Prop} {μ : zMem} {I J V V' S : Nat → Nat → Int32} {L K : Nat → Nat → Int64} {p s t kc kc' : Nat} {r : Option Nat} {P : oPn} {b c i k q n l kd pl rf ch np : Nat} {bt d d' y' : Int64} {rt rt' : oRt} {u : oUd} {x y wm st wh we ti pa : Int32} {z : Nat × (Nat → Nat → Int32) × Nat}
theorem vR0_u1 (hc : c < 40) : vR 0 (zu I 114 c x) = zu (vR 0 I) 1 c x := by
  have := vR_u1 (b := 0) (I := I) (x := x) hc
  rw [Nat.mul_zero, Nat.zero_add] at this
  exact this
theorem vR0_u2 (hc : c < 40) : vR 0 (zu I 115 c x) = zu (vR 0 I) 2 c x := by
  have := vR_u2 (b := 0) (I := I) (x := x) hc
  rw [Nat.mul_zero, Nat.zero_add] at this
  exact this
theorem kEnc (h : kOk ch np wm c st wh we ti pa) (hnp : np ≤ 5) : (8 * st + wh + 1) / 8 = st ∧ 8 * st + wh + 1 - st * 8 - 1 = wh := by
  have e1 : ∀ q, q < 5 → (8 * (1 : Int32) + nI q + 1) / 8 = 1 ∧ 8 * (1 : Int32) + nI q + 1 - 1 * 8 - 1 = nI q := by decide +kernel
  have e2 : ∀ q, q < 5 → (8 * (2 : Int32) + nI q + 1) / 8 = 2 ∧ 8 * (2 : Int32) + nI q + 1 - 2 * 8 - 1 = nI q := by decide +kernel
  have e0 : (8 * (0 : Int32) + -1 + 1) / 8 = 0 ∧ 8 * (0 : Int32) + -1 + 1 - 0 * 8 - 1 = -1 := by decide +kernel
  have e3 : (8 * (3 : Int32) + -1 + 1) / 8 = 3 ∧ 8 * (3 : Int32) + -1 + 1 - 3 * 8 - 1 = -1 := by decide +kernel
  unfold kOk at h
  rcases h with ⟨h1, h2, _⟩ | ⟨h1, _, ⟨q, hq, h2⟩, _⟩ | ⟨h1, _, ⟨q, hq, h2⟩, _⟩ | ⟨h1, _, h2, _⟩
  · rw [h1, h2]; exact e0
  · rw [h1, h2]; exact e1 q (by omega)
  · rw [h1, h2]; exact e2 q (by omega)
  · rw [h1, h2]; exact e3
theorem zRl_fr (h : zRl I L P V d t kc rt) (hr : zKpt SRw I J) (hF : zrFr J K V' d' q kc' rt') (hO : FrOk P V' q kc' rt') : zRl J K P V' d' q kc' rt' := by
  obtain ⟨a1, a2, ⟨h1, h2, h3, h4, h5⟩, a4, a5, a6⟩ := h
  have e : ∀ k, k < 50 → k ≠ 2 → J 87 k = I 87 k := fun k h1 h2 => hr 87 k (by unfold SRw; omega)
  exact ⟨a1, a2, ⟨fun i a c => by rw [show J i = I i from funext fun k => hr i k (by unfold SRw; omega)]; exact h1 i a c, by rw [e 12 (by omega) (by omega), h2], by rw [e 13 (by omega) (by omega), h3], by rw [e 14 (by omega) (by omega), h4], by rw [e 15 (by omega) (by omega), h5]⟩, ⟨by rw [e 16 (by omega) (by omega), a4.1], by rw [e 17 (by omega) (by omega), a4.2]⟩, hF, hO⟩
set_option maxRecDepth 20000 in
theorem mo_undo (hR : zRl I L P V d t kc rt) (hU : UdOk P t V kc rt u) (hu : zrUndo I u) (hQ0 : u.1 = 0 → Q (some (.int (-1))) (SH, zu I 87 2 0, L, RF p s r)) (hQ : ∀ k I', u.1 = k + 1 → zKpt SRw I I' → zRl I' L P (uBk (uV u k) V 40) d t (uK u k) (uR u k) → zrUndo I' (uPop u) → Q (some (.int (nI k))) (SH, I', L, RF p s r)) : zXM w mX10_undo rX10_undo [.ref 87] (SH, I, L, RF p s r) Q := by
  unfold zXM
  have h20 := hU.1
  have e78 := hu.1
  have hnp : pNp P ≤ 5 := hR.1.2.1
  by_cases h0 : u.1 = 0
  · have e78 : I 87 78 = 0 := by rw [e78, h0]; rfl
    refine zBlkR (M := mX10_undo) (nL := 2) (rt := (Option.some .int)) (blk := bX10_undo_0) (T := [(14, bX10_undo_14)]) 1 hX10_undo_0 (zChks_cons hX10_undo_14 zChks_nil) rfl rfl rfl (Nat.le_of_ble_eq_true rfl) (Nat.le_of_ble_eq_true rfl) ?_
    simp (implicitDefEqProofs := false) only [bX10_undo_0, bX10_undo_14, zRun_cons, zRun_nil, zLk, zSto, zIns, zFil, zf0, zf1, zf2, zf3, List.filter_cons, List.filter_nil, Nat.reduceAdd, Nat.reduceEqDiff, Nat.reduceLT, Nat.reduceLeDiff, Nat.reduceBEq, Nat.reduceBNe, reduceIte, if_true, if_false, Bool.false_and, Bool.true_and, Bool.and_true, Bool.and_false, Bool.not_false, Bool.not_true, Bool.false_eq_true, beq_self_eq_true, BEq.rfl, zCat1, zCat2, zCat3, zKdI, zKdL, zKdR, true_and, and_true, zSI, zSL, zSR, zu_at, and_self, and_false, false_and, lv_args, zKdZ, zKdO, zB01, zB11, Option.toList_none, Option.toList_some, List.nil_append, List.cons_append, true_or, or_true, zRow_rd, zu_rd, zo_aload_n, zo_iconst, zo_putfield, zo_putfield_2, zo_putfield_3, zo_getfield, zo_if_ne, zo_ireturn, zo_dup, zo_isub, zo_istore_n, zi_0, zi_m1, zi_1, zKd_10_2, zTy_10_2, zKd_10_78, zTy_10_78, zcl_0, sh_87, zcl_1, zRt, zPutC, zKn_s, zKn_0, zFind, e78, zN10, zN01, not_true_eq_false, not_false_eq_true, false_implies, true_implies, implies_true, eq_self, nI_1, nI_40, nI_7, vz0, vz1, zb1_e0, zb1_n0]
    exact hQ0 h0
  obtain ⟨k, hk⟩ : ∃ k, u.1 = k + 1 := ⟨u.1 - 1, by omega⟩
  have e4n : ¬ nI u.1 = 0 := nI_ne0 (by omega) (by omega)
  have em : nI u.1 - 1 = nI k := by rw [hk]; first | exact nI_pred | exact nI_pred k | exact nI_pred _
  have hFk := FrOk_pop hR.2.2.2.2.2 hU hk
  have hRk := UdOk_R hU hR.2.2.2.2.2.2.1 1 k (by omega)
  obtain ⟨f1, f2, f3, f4, f5, f6, f7⟩ := hR.2.2.2.2.1
  obtain ⟨b1, b2, b3, b4, b5⟩ := hu.2 k (by omega)
  refine zBlkR (M := mX10_undo) (nL := 2) (rt := (Option.some .int)) (blk := bX10_undo_0) (T := [(14, bX10_undo_14)]) 1 hX10_undo_0 (zChks_cons hX10_undo_14 zChks_nil) rfl rfl rfl (Nat.le_of_ble_eq_true rfl) (Nat.le_of_ble_eq_true rfl) ?_
  simp (implicitDefEqProofs := false) only [bX10_undo_0, bX10_undo_14, zRun_cons, zRun_nil, zLk, zSto, zIns, zFil, zf0, zf1, zf2, zf3, List.filter_cons, List.filter_nil, Nat.reduceAdd, Nat.reduceEqDiff, Nat.reduceLT, Nat.reduceLeDiff, Nat.reduceBEq, Nat.reduceBNe, reduceIte, if_true, if_false, Bool.false_and, Bool.true_and, Bool.and_true, Bool.and_false, Bool.not_false, Bool.not_true, Bool.false_eq_true, beq_self_eq_true, BEq.rfl, zCat1, zCat2, zCat3, zKdI, zKdL, zKdR, true_and, and_true, zSI, zSL, zSR, zu_at, and_self, and_false, false_and, lv_args, zKdZ, zKdO, zB01, zB11, Option.toList_none, Option.toList_some, List.nil_append, List.cons_append, true_or, or_true, zRow_rd, zu_rd, zo_aload_n, zo_iconst, zo_putfield, zo_putfield_2, zo_putfield_3, zo_getfield, zo_if_ne, zo_ireturn, zo_dup, zo_isub, zo_istore_n, zi_0, zi_m1, zi_1, zKd_10_2, zTy_10_2, zKd_10_78, zTy_10_78, zcl_0, sh_87, zcl_1, zRt, zPutC, zKn_s, zKn_0, zFind, e78, e4n, em, zN10, zN01, not_true_eq_false, not_false_eq_true, false_implies, true_implies, implies_true, eq_self, nI_1, nI_40, nI_7, vz0, vz1, zb1_e0, zb1_n0]
  have kI : zKpt SRw I (zu (zu I 87 2 0) 87 78 (nI k)) := (zKpt_rfl.u (by unfold SRw; omega)).u (by unfold SRw; omega)
  have j78 : (zu (zu I 87 2 0) 87 78 (nI k)) 87 78 = nI k := by simp [zu_at]
  have jr : ∀ i, i ≠ 87 → (zu (zu I 87 2 0) 87 78 (nI k)) i = I i := fun i hi => funext fun j => by rw [zu_at, if_neg (fun g => hi g.1), zu_at, if_neg (fun g => hi g.1)]
  have jV : vR 0 (zu (zu I 87 2 0) 87 78 (nI k)) = V := by rw [vR_un (by omega), vR_un (by omega)]; exact f1
  have j55 : (zu (zu I 87 2 0) 87 78 (nI k)) 87 55 = nI t := by simp [zu_at]; exact f2
  generalize zu (zu I 87 2 0) 87 78 (nI k) = I1 at *
  have l2 : ∀ J1, zKpt zS114 I1 J1 → vR 0 J1 = uBk (uV u k) V 40 → zX w mX10_undo rX10_undo Q 0 0 88 [(0, Value.ref 87), (1, Value.int (nI 0))] [] (SH, J1, L, RF p s r) := by
    intro J1 hJ1 hV1
    have rw1 : ∀ i, i ≠ 114 → i ≠ 115 → J1 i = I1 i := fun i h1 h2 => funext fun j => hJ1 i j (by unfold zS114; omega)
    refine zLoop (n := 8) (P := fun a => ∀ J, zKpt (zS1 121) J1 J → (∀ i, i < a → J 121 i = I 127 (8 * k + i)) → zX w mX10_undo rX10_undo Q 0 0 88 [(0, Value.ref 87), (1, Value.int (nI a))] [] (SH, J, L, RF p s r)) (fun a ha ih => ?_) 0 (Nat.zero_le _) J1 zKpt_rfl (fun i hi => absurd hi (by omega))
    intro J hJ hnew
    have hr1 : ∀ i, i ≠ 121 → J i = J1 i := fun i hi => funext fun j => hJ i j hi
    have q87 : J 87 = I1 87 := by rw [hr1 87 (by omega), rw1 87 (by omega) (by omega)]
    have q78 : J 87 78 = nI k := by rw [q87]; exact j78
    have qr : ∀ i, 123 ≤ i → i ≤ 127 → J i = I i := fun i h1 h2 => by rw [hr1 i (by omega), rw1 i (by omega) (by omega), jr i (by omega)]
    by_cases hke : a = 8
    · subst hke
      have hx : ((8 : Int32) ≤ nI 8) = True := eq_true (by decide)
      have hv : vp_in (nI k) 20 := zvn (by omega) (by omega)
      have q124 : J 124 k = nI (uK u k) := by rw [qr 124 (by omega) (by omega)]; exact b2
      have q125 : J 125 k = nI (uR u k).1 := by rw [qr 125 (by omega) (by omega)]; exact b3
      have q126 : J 126 k = nI (uR u k).2.1 := by rw [qr 126 (by omega) (by omega)]; exact b4
      refine zBlkR (M := mX10_undo) (nL := 2) (rt := (Option.some .int)) (blk := bX10_undo_88) (T := [(120, bX10_undo_120)]) 1 hX10_undo_88 (zChks_cons hX10_undo_120 zChks_nil) rfl rfl rfl (Nat.le_of_ble_eq_true rfl) (Nat.le_of_ble_eq_true rfl) ?_
      simp (implicitDefEqProofs := false) only [bX10_undo_88, bX10_undo_120, zRun_cons, zRun_nil, zLk, zSto, zIns, zFil, zf0, zf1, zf2, zf3, List.filter_cons, List.filter_nil, Nat.reduceAdd, Nat.reduceEqDiff, Nat.reduceLT, Nat.reduceLeDiff, Nat.reduceBEq, Nat.reduceBNe, reduceIte, if_true, if_false, Bool.false_and, Bool.true_and, Bool.and_true, Bool.and_false, Bool.not_false, Bool.not_true, Bool.false_eq_true, beq_self_eq_true, BEq.rfl, zCat1, zCat2, zCat3, zKdI, zKdL, zKdR, true_and, and_true, zSI, zSL, zSR, zu_at, and_self, and_false, false_and, lv_args, zKdZ, zKdO, zB01, zB11, Option.toList_none, Option.toList_some, List.nil_append, List.cons_append, true_or, or_true, zRow_rd, zu_rd, zo_iload_n, zo_bipush, zo_icmp_ge, zo_aload_n, zo_getfield, zo_imul, zo_iadd, zo_iaload, zo_iastore, zo_iinc, zo_goto, zo_putfield, zo_putfield_2, zo_putfield_3, zo_ireturn, zb_8, zi_1, zKd_10_66, zKd_10_83, zKd_10_78, zKd_10_80, zKd_10_56, zTy_10_56, zKd_10_81, zKd_10_64, zTy_10_64, zKd_10_82, zKd_10_65, zTy_10_65, zcl_8, sh_87, rf_87_66, sh_121, rf_87_83, sh_127, rf_87_80, sh_124, rf_87_81, sh_125, rf_87_82, sh_126, zvi_8_20, zvi_8_160, zRt, zPutC, zKn_s, zKn_0, zFind, hx, hv, q78, q124, q125, q126, nI_clamp (n := k) (by omega), zN10, zN01, not_true_eq_false, not_false_eq_true, false_implies, true_implies, implies_true, eq_self, nI_1, nI_40, nI_7, vz0, vz1, zb1_e0, zb1_n0]
      have kk : zKpt SRw I J := (kI.trans (hJ1.mono (fun i k g => by unfold zS114 at g; unfold SRw; omega))).trans (hJ.mono (fun i k g => by unfold zS1 at g; unfold SRw; omega))
      have kk3 : zKpt SRw I (zu (zu (zu J 87 56 (nI (uK u k))) 87 64 (nI (uR u k).1)) 87 65 (nI (uR u k).2.1)) := by
        refine ((kk.u ?_).u ?_).u ?_ <;> unfold SRw <;> omega
      refine hQ k _ hk kk3 (zRl_fr hR kk3 ⟨?_, ?_, ?_, ?_, ?_, ?_, f7⟩ hFk) ⟨?_, fun j hj => ?_⟩
      · rw [vR_un (by omega), vR_un (by omega), vR_un (by omega), ← hV1]
        unfold vR zV
        funext i c
        simp only [show ∀ i, i ≤ 5 → J (113 + i) = J1 (113 + i) from fun i hi => hr1 _ (by omega), hr1 119 (by omega)]
        split
        · rfl
        · split
          · rename_i g; rw [hr1 (113 + i) (by omega)]
          · rfl
      · simp [zu_at]; rw [q87]; exact j55
      · simp [zu_at]
      · simp [zu_at]
      · simp [zu_at]
      · intro j hj
        have := hRk.1
        simp [zu_at]; rw [hnew j (by omega)]; exact b5 j hj
      · simp [zu_at]; rw [q78]; show nI k = nI (u.1 - 1); rw [hk]; rfl
      · have hj : j < u.1 - 1 := hj
        simp only [zu_at]; simp
        rw [qr 123 (by omega) (by omega), qr 124 (by omega) (by omega), qr 125 (by omega) (by omega), qr 126 (by omega) (by omega), qr 127 (by omega) (by omega)]
        exact hu.2 j (by omega)
    · have hx : ((8 : Int32) ≤ nI a) = False := eq_false (by rw [show (8 : Int32) = nI 8 from rfl, zle_nat (by omega) (by omega)]; omega)
      have hv : vp_in (nI (8 * k + a)) 160 := zvn (by omega) (by omega)
      have hv1 : vp_in (nI a) 8 := zvn (by omega) (by omega)
      have e8 : 8 * nI k + nI a = nI (8 * k + a) := by rw [show (8 : Int32) = nI 8 from rfl, pk_mul, nI_add]
      have q127 : J 127 (8 * k + a) = I 127 (8 * k + a) := by rw [qr 127 (by omega) (by omega)]
      refine zBlkR (M := mX10_undo) (nL := 2) (rt := (Option.some .int)) (blk := bX10_undo_88) (T := [(120, bX10_undo_120)]) 1 hX10_undo_88 (zChks_cons hX10_undo_120 zChks_nil) rfl rfl rfl (Nat.le_of_ble_eq_true rfl) (Nat.le_of_ble_eq_true rfl) ?_
      simp (implicitDefEqProofs := false) only [bX10_undo_88, bX10_undo_120, zRun_cons, zRun_nil, zLk, zSto, zIns, zFil, zf0, zf1, zf2, zf3, List.filter_cons, List.filter_nil, Nat.reduceAdd, Nat.reduceEqDiff, Nat.reduceLT, Nat.reduceLeDiff, Nat.reduceBEq, Nat.reduceBNe, reduceIte, if_true, if_false, Bool.false_and, Bool.true_and, Bool.and_true, Bool.and_false, Bool.not_false, Bool.not_true, Bool.false_eq_true, beq_self_eq_true, BEq.rfl, zCat1, zCat2, zCat3, zKdI, zKdL, zKdR, true_and, and_true, zSI, zSL, zSR, zu_at, and_self, and_false, false_and, lv_args, zKdZ, zKdO, zB01, zB11, Option.toList_none, Option.toList_some, List.nil_append, List.cons_append, true_or, or_true, zRow_rd, zu_rd, zo_iload_n, zo_bipush, zo_icmp_ge, zo_aload_n, zo_getfield, zo_imul, zo_iadd, zo_iaload, zo_iastore, zo_iinc, zo_goto, zo_putfield, zo_putfield_2, zo_putfield_3, zo_ireturn, zb_8, zi_1, zKd_10_66, zKd_10_83, zKd_10_78, zKd_10_80, zKd_10_56, zTy_10_56, zKd_10_81, zKd_10_64, zTy_10_64, zKd_10_82, zKd_10_65, zTy_10_65, zcl_8, sh_87, rf_87_66, sh_121, rf_87_83, sh_127, rf_87_80, sh_124, rf_87_81, sh_125, rf_87_82, sh_126, zvi_8_20, zvi_8_160, zRt, zPutC, zKn_s, zKn_0, zFind, hx, hv, hv1, e8, q78, q127, nI_clamp (n := a) (by omega), nI_clamp (n := 8 * k + a) (by omega), zN10, zN01, not_true_eq_false, not_false_eq_true, false_implies, true_implies, implies_true, eq_self, nI_1, nI_40, nI_7, vz0, vz1, zb1_e0, zb1_n0]
      refine ih (by omega) _ (hJ.u rfl) (fun i hi => ?_)
      by_cases e : i = a
      · subst e; rw [zu_at, if_pos ⟨rfl, rfl⟩]
      · rw [zu_at, if_neg (by omega)]; exact hnew i (by omega)
  refine zLoop (n := 40) (P := fun a => ∀ J, zKpt zS114 I1 J → vR 0 J = uBk (uV u k) V a → zX w mX10_undo rX10_undo Q 0 0 26 [(0, Value.ref 87), (1, Value.int (nI a))] [] (SH, J, L, RF p s r)) (fun a ha ih => ?_) 0 (Nat.zero_le _) I1 zKpt_rfl (by rw [uBk_0]; exact jV)
  intro J hJ hVJ
  have q78 : J 87 78 = nI k := by rw [hJ 87 78 (by unfold zS114; omega)]; exact j78
  by_cases hke : a = 40
  · subst hke
    have hx : ((40 : Int32) ≤ nI 40) = True := eq_true (by decide)
    refine zBlkR (M := mX10_undo) (nL := 2) (rt := (Option.some .int)) (blk := bX10_undo_26) (T := [(86, bX10_undo_86)]) 1 hX10_undo_26 (zChks_cons hX10_undo_86 zChks_nil) rfl rfl rfl (Nat.le_of_ble_eq_true rfl) (Nat.le_of_ble_eq_true rfl) ?_
    simp (implicitDefEqProofs := false) only [bX10_undo_26, bX10_undo_86, zRun_cons, zRun_nil, zLk, zSto, zIns, zFil, zf0, zf1, zf2, zf3, List.filter_cons, List.filter_nil, Nat.reduceAdd, Nat.reduceEqDiff, Nat.reduceLT, Nat.reduceLeDiff, Nat.reduceBEq, Nat.reduceBNe, reduceIte, if_true, if_false, Bool.false_and, Bool.true_and, Bool.and_true, Bool.and_false, Bool.not_false, Bool.not_true, Bool.false_eq_true, beq_self_eq_true, BEq.rfl, zCat1, zCat2, zCat3, zKdI, zKdL, zKdR, true_and, and_true, zSI, zSL, zSR, zu_at, and_self, and_false, false_and, lv_args, zKdZ, zKdO, zB01, zB11, Option.toList_none, Option.toList_some, List.nil_append, List.cons_append, true_or, or_true, zRow_rd, zu_rd, zo_iload_n, zo_bipush, zo_icmp_ge, zo_aload_n, zo_getfield, zo_imul, zo_iadd, zo_iaload, zo_idiv, zo_iastore, zo_irem, zo_iconst, zo_isub, zo_iinc, zo_goto, zo_istore_n, zb_40, zb_8, zi_1, zi_0, zKd_10_57, zKd_10_79, zKd_10_78, zKd_10_58, zcl_40, sh_87, rf_87_57, sh_114, rf_87_79, sh_123, zcl_8, rf_87_58, sh_115, zcl_1, zcl_0, zvi_40_80, zvi_40_800, zvi_8_80, zvi_8_800, zvi_1_80, zvi_1_800, zvi_0_80, zvi_0_800, zKn_s, zKn_0, zFind, hx, zN10, zN01, not_true_eq_false, not_false_eq_true, false_implies, true_implies, implies_true, eq_self, nI_1, nI_40, nI_7, vz0, vz1, zb1_e0, zb1_n0]
    exact l2 J hJ hVJ
  · have hx : ((40 : Int32) ≤ nI a) = False := eq_false (by rw [show (40 : Int32) = nI 40 from rfl, zle_nat (by omega) (by omega)]; omega)
    have hv : vp_in (nI (40 * k + a)) 800 := zvn (by omega) (by omega)
    have hv1 : vp_in (nI a) 80 := zvn (by omega) (by omega)
    have e8 : 40 * nI k + nI a = nI (40 * k + a) := nI_40 _ _
    have q123 : J 123 (40 * k + a) = 8 * uV u k 1 a + uV u k 2 a + 1 := by
      rw [hJ 123 _ (by unfold zS114; omega), jr 123 (by omega)]; exact b1 a (by omega)
    have hko := hFk.1 a (by omega)
    have en := kEnc hko hnp
    have u1 : uBk (uV u k) V 40 1 a = uV u k 1 a := by unfold uBk; rw [if_pos (by omega)]
    have u2 : uBk (uV u k) V 40 2 a = uV u k 2 a := by unfold uBk; rw [if_pos (by omega)]
    rw [u1, u2] at en
    have en1 := en.1
    have en2 := en.2
    refine zBlkR (M := mX10_undo) (nL := 2) (rt := (Option.some .int)) (blk := bX10_undo_26) (T := [(86, bX10_undo_86)]) 1 hX10_undo_26 (zChks_cons hX10_undo_86 zChks_nil) rfl rfl rfl (Nat.le_of_ble_eq_true rfl) (Nat.le_of_ble_eq_true rfl) ?_
    simp (implicitDefEqProofs := false) only [bX10_undo_26, bX10_undo_86, zRun_cons, zRun_nil, zLk, zSto, zIns, zFil, zf0, zf1, zf2, zf3, List.filter_cons, List.filter_nil, Nat.reduceAdd, Nat.reduceEqDiff, Nat.reduceLT, Nat.reduceLeDiff, Nat.reduceBEq, Nat.reduceBNe, reduceIte, if_true, if_false, Bool.false_and, Bool.true_and, Bool.and_true, Bool.and_false, Bool.not_false, Bool.not_true, Bool.false_eq_true, beq_self_eq_true, BEq.rfl, zCat1, zCat2, zCat3, zKdI, zKdL, zKdR, true_and, and_true, zSI, zSL, zSR, zu_at, and_self, and_false, false_and, lv_args, zKdZ, zKdO, zB01, zB11, Option.toList_none, Option.toList_some, List.nil_append, List.cons_append, true_or, or_true, zRow_rd, zu_rd, zo_iload_n, zo_bipush, zo_icmp_ge, zo_aload_n, zo_getfield, zo_imul, zo_iadd, zo_iaload, zo_idiv, zo_iastore, zo_irem, zo_iconst, zo_isub, zo_iinc, zo_goto, zo_istore_n, zb_40, zb_8, zi_1, zi_0, zKd_10_57, zKd_10_79, zKd_10_78, zKd_10_58, zcl_40, sh_87, rf_87_57, sh_114, rf_87_79, sh_123, zcl_8, rf_87_58, sh_115, zcl_1, zcl_0, zvi_40_80, zvi_40_800, zvi_8_80, zvi_8_800, zvi_1_80, zvi_1_800, zvi_0_80, zvi_0_800, zKn_s, zKn_0, zFind, hx, hv, hv1, e8, q78, q123, en1, en2, nI_clamp (n := a) (by omega), nI_clamp (n := 40 * k + a) (by omega), zN10, zN01, not_true_eq_false, not_false_eq_true, false_implies, true_implies, implies_true, eq_self, nI_1, nI_40, nI_7, vz0, vz1, zb1_e0, zb1_n0]
    refine ⟨by decide, by decide, ih (by omega) _ ((hJ.u ?_).u ?_) ?_⟩
    · unfold zS114; omega
    · unfold zS114; omega
    · rw [vR0_u2 (by omega), vR0_u1 (by omega), hVJ, uBk_s1 rfl rfl]
end ZU93
