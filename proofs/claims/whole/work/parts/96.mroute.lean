/-! ===== ROUTE: the reference ===== -/
section ZU96
variable {w : zP} {Q : Option Value → zMem → Prop} {μ : zMem} {I J V V' S : Nat → Nat → Int32} {L K : Nat → Nat → Int64} {p s t kc kc' : Nat} {r : Option Nat} {P : oPn} {a b c i k q n l kd pl rf ch np cr : Nat} {bt d d' y' : Int64} {rt rt' : oRt} {u : oUd} {x y wm : Int32} {z : Nat × (Nat → Nat → Int32) × Nat}
theorem UdOk_route (hF : FrOk P V t kc rt) (hg : ∀ j, j < rt.1 → (bt >>> ((4 * nI j).toInt64 &&& 63)).toInt32 &&& 15 = nI (rt.2.2 j)) (hU : UdOk P t V kc rt u) : UdOk P t V kc rt' (uAdd (uRoom u) 2 rt.1 rt.2.1 bt V kc rt') := by
  have hUr := UdOk_room hU
  refine UdOk_add hUr (uRoom_lt hU.1) ?_
  obtain ⟨u1, u2, u3, u4, u5⟩ := hUr
  unfold uLk
  exact Or.inr (Or.inr ⟨rfl, rfl, rfl, hF.2.1, hg, rfl, u2⟩)
theorem and15 (y : Int64) : (y &&& 15).toInt32 = y.toInt32 &&& 15 := by
  rw [Int64.toInt32_and]; rfl
set_option maxRecDepth 20000 in
theorem mo_route (hR : zRl I L P V d t kc rt) (hU : UdOk P t V kc rt u) (hu : zrUndo I u) (hbad : (∀ n, n ≤ 8 → x = nI n → ¬ oRtAll P n y') → Q (some (.int 0)) (SH, zu I 87 2 0, L, RF p s r)) (hQ : ∀ n, n ≤ 8 → x = nI n → oRtAll P n y' → ∀ I', zKpt SRw I I' → zRl I' L P V d t kc (oRtOf n t y') → (∀ bt, zrUndo I' (uAdd (uRoom u) 2 rt.1 rt.2.1 bt V kc (oRtOf n t y'))) → Q (some (.int 1)) (SH, I', L, RF p s r)) : zXM w mX10_route rX10_route [.ref 87, .int x, .long y'] (SH, I, L, RF p s r) Q := by
  unfold zXM
  refine zBlkR (M := mX10_route) (nL := 5) (rt := (Option.some .boolean)) (blk := bX10_route_0) (T := []) 0 hX10_route_0 zChks_nil rfl rfl rfl (Nat.le_of_ble_eq_true rfl) (Nat.le_of_ble_eq_true rfl) ?_
  simp (implicitDefEqProofs := false) only [bX10_route_0, zRun_cons, zRun_nil, zLk, zSto, zIns, zFil, zf0, zf1, zf2, zf3, List.filter_cons, List.filter_nil, Nat.reduceAdd, Nat.reduceEqDiff, Nat.reduceLT, Nat.reduceLeDiff, Nat.reduceBEq, Nat.reduceBNe, reduceIte, if_true, if_false, Bool.false_and, Bool.true_and, Bool.and_true, Bool.and_false, Bool.not_false, Bool.not_true, Bool.false_eq_true, beq_self_eq_true, BEq.rfl, zCat1, zCat2, zCat3, zKdI, zKdL, zKdR, true_and, and_true, zSI, zSL, zSR, zu_at, and_self, and_false, false_and, lv_args, zKdZ, zKdO, zB01, zB11, Option.toList_none, Option.toList_some, List.nil_append, List.cons_append, true_or, or_true, zRow_rd, zu_rd, zo_aload_n, zo_iconst, zo_putfield, zo_putfield_2, zo_putfield_3, zo_iload_n, zo_bipush, zi_0, zb_8, zKd_10_2, zTy_10_2, zcl_0, sh_87, zcl_8, zPutC, zKn_0, zCat2, zN10, zN01, not_true_eq_false, not_false_eq_true, false_implies, true_implies, implies_true, eq_self, nI_1, nI_40, nI_7, vz0, vz1, zb1_e0, zb1_n0]
  have k0 : zKpt SRw I (zu I 87 2 0) := zKpt_rfl.u (by unfold SRw; omega)
  have hR := zRl_t (zKpt_rfl.u (by unfold SRt; omega) : zKpt SRt I (zu I 87 2 0)) zKpt_rfl hR
  have hu : zrUndo (zu I 87 2 0) u := zrUndo_t (fun i k h => by rw [zu_at, if_neg (by omega)]) hu
  generalize zu I 87 2 0 = I0 at *
  have hnp : pNp P ≤ 5 := hR.1.2.1
  obtain ⟨f1, f2, f3, f4, f5, f6, f7⟩ := hR.2.2.2.2.1
  refine z_cS0 (M' := mX10_isIn) (R' := rX10_isIn) [.int x, .int 0, .int 8] [] eX10_isIn k10_223 (by decide +kernel : decode cX10_route 9 = .ok (.invokestatic 223, 3)) (Nat.le_of_ble_eq_true rfl) ⟨Nat.le_of_ble_eq_true rfl, Nat.le_of_ble_eq_true rfl, Nat.le_of_ble_eq_true rfl, Nat.le_of_ble_eq_true rfl, Nat.le_of_ble_eq_true rfl⟩ rfl rfl rfl ?_
  refine mo_isIn ?_
  rw [show (!decide (x < 0) && !decide ((8 : Int32) < x)) = oIn x 9 from oIn_isIn (a := 8) (by omega)]
  cases hin : oIn x 9 with
  | false =>
    refine zBlkR (M := mX10_route) (nL := 5) (rt := (Option.some .boolean)) (blk := bX10_route_12) (T := [(17, bX10_route_17)]) 1 hX10_route_12 (zChks_cons hX10_route_17 zChks_nil) rfl rfl rfl (Nat.le_of_ble_eq_true rfl) (Nat.le_of_ble_eq_true rfl) ?_
    simp (implicitDefEqProofs := false) only [bX10_route_12, bX10_route_17, zRun_cons, zRun_nil, zLk, zSto, zIns, zFil, zf0, zf1, zf2, zf3, List.filter_cons, List.filter_nil, Nat.reduceAdd, Nat.reduceEqDiff, Nat.reduceLT, Nat.reduceLeDiff, Nat.reduceBEq, Nat.reduceBNe, reduceIte, if_true, if_false, Bool.false_and, Bool.true_and, Bool.and_true, Bool.and_false, Bool.not_false, Bool.not_true, Bool.false_eq_true, beq_self_eq_true, BEq.rfl, zCat1, zCat2, zCat3, zKdI, zKdL, zKdR, true_and, and_true, zSI, zSL, zSR, zu_at, and_self, and_false, false_and, lv_args, zKdZ, zKdO, zB01, zB11, Option.toList_none, Option.toList_some, List.nil_append, List.cons_append, true_or, or_true, zRow_rd, zu_rd, zo_if_ne, zo_iconst, zo_ireturn, zo_istore, zi_0, zcl_0, zRt, zKn_s, zKn_0, zFind, zb1_f, zCat2, zN10, zN01, not_true_eq_false, not_false_eq_true, false_implies, true_implies, implies_true, eq_self, nI_1, nI_40, nI_7, vz0, vz1, zb1_e0, zb1_n0]
    refine hbad (fun n hn e => ?_)
    subst e
    rw [oIn_q (by omega) (by omega)] at hin
    exact absurd hin (by decide)
  | true =>
  obtain ⟨n, hn, e2⟩ := oIn_t hin (by omega)
  subst e2
  refine zBlkR (M := mX10_route) (nL := 5) (rt := (Option.some .boolean)) (blk := bX10_route_12) (T := [(17, bX10_route_17)]) 1 hX10_route_12 (zChks_cons hX10_route_17 zChks_nil) rfl rfl rfl (Nat.le_of_ble_eq_true rfl) (Nat.le_of_ble_eq_true rfl) ?_
  simp (implicitDefEqProofs := false) only [bX10_route_12, bX10_route_17, zRun_cons, zRun_nil, zLk, zSto, zIns, zFil, zf0, zf1, zf2, zf3, List.filter_cons, List.filter_nil, Nat.reduceAdd, Nat.reduceEqDiff, Nat.reduceLT, Nat.reduceLeDiff, Nat.reduceBEq, Nat.reduceBNe, reduceIte, if_true, if_false, Bool.false_and, Bool.true_and, Bool.and_true, Bool.and_false, Bool.not_false, Bool.not_true, Bool.false_eq_true, beq_self_eq_true, BEq.rfl, zCat1, zCat2, zCat3, zKdI, zKdL, zKdR, true_and, and_true, zSI, zSL, zSR, zu_at, and_self, and_false, false_and, lv_args, zKdZ, zKdO, zB01, zB11, Option.toList_none, Option.toList_some, List.nil_append, List.cons_append, true_or, or_true, zRow_rd, zu_rd, zo_if_ne, zo_iconst, zo_ireturn, zo_istore, zi_0, zcl_0, zRt, zKn_s, zKn_0, zFind, zb1_t, zCat2, zN10, zN01, not_true_eq_false, not_false_eq_true, false_implies, true_implies, implies_true, eq_self, nI_1, nI_40, nI_7, vz0, vz1, zb1_e0, zb1_n0]
  refine zLoop (n := n) (P := fun k => (∀ j, j < k → oRtB P y' j = true) → zX w mX10_route rX10_route Q 0 0 20 [(0, Value.ref 87), (1, Value.int (nI n)), (2, Value.long y'), (4, Value.int (nI k))] [] (SH, I0, L, RF p s r)) (fun k hk ih => ?_) 0 (Nat.zero_le _) (fun j hj => absurd hj (by omega))
  intro hall
  by_cases hke : k = n
  · subst hke
    have hx : (nI k ≤ nI k) = True := eq_true (by rw [zle_nat (by omega) (by omega)]; omega)
    have hRo := ROk_of (t := t) hnp (by omega) hall
    refine zBlkR (M := mX10_route) (nL := 5) (rt := (Option.some .boolean)) (blk := bX10_route_20) (T := [(52, bX10_route_52)]) 1 hX10_route_20 (zChks_cons hX10_route_52 zChks_nil) rfl rfl rfl (Nat.le_of_ble_eq_true rfl) (Nat.le_of_ble_eq_true rfl) ?_
    simp (implicitDefEqProofs := false) only [bX10_route_20, bX10_route_52, zRun_cons, zRun_nil, zLk, zSto, zIns, zFil, zf0, zf1, zf2, zf3, List.filter_cons, List.filter_nil, Nat.reduceAdd, Nat.reduceEqDiff, Nat.reduceLT, Nat.reduceLeDiff, Nat.reduceBEq, Nat.reduceBNe, reduceIte, if_true, if_false, Bool.false_and, Bool.true_and, Bool.and_true, Bool.and_false, Bool.not_false, Bool.not_true, Bool.false_eq_true, beq_self_eq_true, BEq.rfl, zCat1, zCat2, zCat3, zKdI, zKdL, zKdR, true_and, and_true, zSI, zSL, zSR, zu_at, and_self, and_false, false_and, lv_args, zKdZ, zKdO, zB01, zB11, Option.toList_none, Option.toList_some, List.nil_append, List.cons_append, true_or, or_true, zRow_rd, zu_rd, zo_iload, zo_iload_n, zo_icmp_ge, zo_aload_n, zo_lload_n, zo_iconst, zo_imul, zo_lshr, zo_ldc2_w, zo_land, zo_l2i, zi_4, zL_15, zcl_4, zKn_s, zKn_0, zFind, hx, zCat2, zN10, zN01, not_true_eq_false, not_false_eq_true, false_implies, true_implies, implies_true, eq_self, nI_1, nI_40, nI_7, vz0, vz1, zb1_e0, zb1_n0]
    refine z_cV0 (M' := mX10_remember) (R' := rX10_remember) (i := 87) [] [] eX10_remember k10_521 (by decide +kernel : decode cX10_route 53 = .ok (.invokevirtual 521, 3)) (Nat.le_of_ble_eq_true rfl) ⟨Nat.le_of_ble_eq_true rfl, Nat.le_of_ble_eq_true rfl, Nat.le_of_ble_eq_true rfl, Nat.le_of_ble_eq_true rfl, Nat.le_of_ble_eq_true rfl⟩ rfl rfl rfl sh_87 ?_
    refine mo_remember hu hU hR.2.2.2.2.1 hR.2.2.2.2.2.2.1 (fun I1 k1 z1 => ?_)
    refine zBlkR (M := mX10_route) (nL := 5) (rt := (Option.some .boolean)) (blk := bX10_route_56) (T := []) 0 hX10_route_56 zChks_nil rfl rfl rfl (Nat.le_of_ble_eq_true rfl) (Nat.le_of_ble_eq_true rfl) ?_
    simp (implicitDefEqProofs := false) only [bX10_route_56, zRun_cons, zRun_nil, zLk, zSto, zIns, zFil, zf0, zf1, zf2, zf3, List.filter_cons, List.filter_nil, Nat.reduceAdd, Nat.reduceEqDiff, Nat.reduceLT, Nat.reduceLeDiff, Nat.reduceBEq, Nat.reduceBNe, reduceIte, if_true, if_false, Bool.false_and, Bool.true_and, Bool.and_true, Bool.and_false, Bool.not_false, Bool.not_true, Bool.false_eq_true, beq_self_eq_true, BEq.rfl, zCat1, zCat2, zCat3, zKdI, zKdL, zKdR, true_and, and_true, zSI, zSL, zSR, zu_at, and_self, and_false, false_and, lv_args, zKdZ, zKdO, zB01, zB11, Option.toList_none, Option.toList_some, List.nil_append, List.cons_append, true_or, or_true, zRow_rd, zu_rd, zo_iconst, zo_istore, zi_0, zcl_0, zKn_0, zCat2, zN10, zN01, not_true_eq_false, not_false_eq_true, false_implies, true_implies, implies_true, eq_self, nI_1, nI_40, nI_7, vz0, vz1, zb1_e0, zb1_n0]
    refine zLoop (n := k) (P := fun a => ∀ J, zKpt (zS1 121) I1 J → (∀ i, i < a → J 121 i = nI ((oRtOf k t y').2.2 i)) → zX w mX10_route rX10_route Q 0 0 59 [(0, Value.ref 87), (1, Value.int (nI k)), (2, Value.long y'), (4, Value.int (nI a))] [] (SH, J, L, RF p s r)) (fun a ha ih => ?_) 0 (Nat.zero_le _) I1 zKpt_rfl (fun i hi => absurd hi (by omega))
    intro J hJ hnew
    have hr1 : ∀ i, i ≠ 121 → J i = I1 i := fun i hi => funext fun j => hJ i j hi
    by_cases hae : a = k
    · subst hae
      have hx : (nI a ≤ nI a) = True := eq_true (by rw [zle_nat (by omega) (by omega)]; omega)
      have q55 : J 87 55 = nI t := by rw [hr1 87 (by omega), k1 87 55 (by unfold SRu; omega)]; exact f2
      refine zBlkR (M := mX10_route) (nL := 5) (rt := (Option.some .boolean)) (blk := bX10_route_59) (T := [(89, bX10_route_89)]) 1 hX10_route_59 (zChks_cons hX10_route_89 zChks_nil) rfl rfl rfl (Nat.le_of_ble_eq_true rfl) (Nat.le_of_ble_eq_true rfl) ?_
      simp (implicitDefEqProofs := false) only [bX10_route_59, bX10_route_89, zRun_cons, zRun_nil, zLk, zSto, zIns, zFil, zf0, zf1, zf2, zf3, List.filter_cons, List.filter_nil, Nat.reduceAdd, Nat.reduceEqDiff, Nat.reduceLT, Nat.reduceLeDiff, Nat.reduceBEq, Nat.reduceBNe, reduceIte, if_true, if_false, Bool.false_and, Bool.true_and, Bool.and_true, Bool.and_false, Bool.not_false, Bool.not_true, Bool.false_eq_true, beq_self_eq_true, BEq.rfl, zCat1, zCat2, zCat3, zKdI, zKdL, zKdR, true_and, and_true, zSI, zSL, zSR, zu_at, and_self, and_false, false_and, lv_args, zKdZ, zKdO, zB01, zB11, Option.toList_none, Option.toList_some, List.nil_append, List.cons_append, true_or, or_true, zRow_rd, zu_rd, zo_iload, zo_iload_n, zo_icmp_ge, zo_aload_n, zo_getfield, zo_lload_n, zo_iconst, zo_imul, zo_lshr, zo_ldc2_w, zo_land, zo_l2i, zo_iastore, zo_iinc, zo_goto, zo_putfield, zo_putfield_2, zo_putfield_3, zo_ireturn, zi_4, zL_15, zi_1, zKd_10_66, zKd_10_64, zTy_10_64, zKd_10_55, zKd_10_65, zTy_10_65, sh_87, rf_87_66, sh_121, zcl_4, zcl_1, zvi_4_8, zvi_1_8, zRt, zPutC, zKn_s, zKn_0, zFind, hx, q55, zCat2, zN10, zN01, not_true_eq_false, not_false_eq_true, false_implies, true_implies, implies_true, eq_self, nI_1, nI_40, nI_7, vz0, vz1, zb1_e0, zb1_n0]
      have kk : zKpt SRw I0 (zu (zu J 87 64 (nI a)) 87 65 (nI t)) := (((k1.mono (fun i k g => by unfold SRu at g; unfold SRw; omega)).trans (hJ.mono (fun i k g => by unfold zS1 at g; unfold SRw; omega))).u (by unfold SRw; omega)).u (by unfold SRw; omega)
      have rJ : ∀ i, i ≠ 87 → i ≠ 121 → (i < 123 ∨ 127 < i) → J i = I0 i := fun i h1 h2 h3 => by rw [hr1 i h2]; exact funext fun j => k1 i j (by unfold SRu; omega)
      refine hQ a (by omega) rfl hall _ (k0.trans kk) (zRl_fr hR kk ⟨?_, ?_, ?_, ?_, ?_, ?_, f7⟩ ⟨hR.2.2.2.2.2.1, hRo.1, hR.2.2.2.2.2.2.2⟩) (fun bt => zrUndo_t (fun i k h => ?_) (z1 2 rt.1 rt.2.1 bt V kc (oRtOf a t y')))
      · rw [vR_un (by omega), vR_un (by omega), ← f1]
        unfold vR zV
        funext i c
        split
        · simp only [rJ 119 (by omega) (by omega) (by omega)]; split <;> simp [*]
        · split
          · rename_i g; simp only [rJ (113 + i) (by omega) (by omega) (by omega), rJ 119 (by omega) (by omega) (by omega)]
          · rfl
      · simp [zu_at]; exact q55
      · simp [zu_at]; rw [hr1 87 (by omega), k1 87 56 (by unfold SRu; omega)]; exact f3
      · simp [zu_at]; rfl
      · simp [zu_at]; rfl
      · intro j hj
        simp [zu_at]; exact hnew j hj
      · rw [zu_at, if_neg (by omega), zu_at, if_neg (by omega)]; exact hJ i k (by unfold zS1; omega)
    · have hx : (nI k ≤ nI a) = False := eq_false (by rw [zle_nat (by omega) (by omega)]; omega)
      have hv : vp_in (nI a) 8 := zvn (by omega) (by omega)
      have hA := hRo.2 a (by omega)
      refine zBlkR (M := mX10_route) (nL := 5) (rt := (Option.some .boolean)) (blk := bX10_route_59) (T := [(89, bX10_route_89)]) 1 hX10_route_59 (zChks_cons hX10_route_89 zChks_nil) rfl rfl rfl (Nat.le_of_ble_eq_true rfl) (Nat.le_of_ble_eq_true rfl) ?_
      simp (implicitDefEqProofs := false) only [bX10_route_59, bX10_route_89, zRun_cons, zRun_nil, zLk, zSto, zIns, zFil, zf0, zf1, zf2, zf3, List.filter_cons, List.filter_nil, Nat.reduceAdd, Nat.reduceEqDiff, Nat.reduceLT, Nat.reduceLeDiff, Nat.reduceBEq, Nat.reduceBNe, reduceIte, if_true, if_false, Bool.false_and, Bool.true_and, Bool.and_true, Bool.and_false, Bool.not_false, Bool.not_true, Bool.false_eq_true, beq_self_eq_true, BEq.rfl, zCat1, zCat2, zCat3, zKdI, zKdL, zKdR, true_and, and_true, zSI, zSL, zSR, zu_at, and_self, and_false, false_and, lv_args, zKdZ, zKdO, zB01, zB11, Option.toList_none, Option.toList_some, List.nil_append, List.cons_append, true_or, or_true, zRow_rd, zu_rd, zo_iload, zo_iload_n, zo_icmp_ge, zo_aload_n, zo_getfield, zo_lload_n, zo_iconst, zo_imul, zo_lshr, zo_ldc2_w, zo_land, zo_l2i, zo_iastore, zo_iinc, zo_goto, zo_putfield, zo_putfield_2, zo_putfield_3, zo_ireturn, zi_4, zL_15, zi_1, zKd_10_66, zKd_10_64, zTy_10_64, zKd_10_55, zKd_10_65, zTy_10_65, sh_87, rf_87_66, sh_121, zcl_4, zcl_1, zvi_4_8, zvi_1_8, zRt, zPutC, zKn_s, zKn_0, zFind, hx, hv, and15, hA, zCat2, nI_clamp (n := a) (by omega), zN10, zN01, not_true_eq_false, not_false_eq_true, false_implies, true_implies, implies_true, eq_self, nI_1, nI_40, nI_7, vz0, vz1, zb1_e0, zb1_n0]
      refine ih (by omega) _ (hJ.u rfl) (fun i hi => ?_)
      by_cases e : i = a
      · subst e; rw [zu_at, if_pos ⟨rfl, rfl⟩]
      · rw [zu_at, if_neg (by omega)]; exact hnew i (by omega)
  · have hx : (nI n ≤ nI k) = False := eq_false (by rw [zle_nat (by omega) (by omega)]; omega)
    refine zBlkR (M := mX10_route) (nL := 5) (rt := (Option.some .boolean)) (blk := bX10_route_20) (T := [(52, bX10_route_52)]) 1 hX10_route_20 (zChks_cons hX10_route_52 zChks_nil) rfl rfl rfl (Nat.le_of_ble_eq_true rfl) (Nat.le_of_ble_eq_true rfl) ?_
    simp (implicitDefEqProofs := false) only [bX10_route_20, bX10_route_52, zRun_cons, zRun_nil, zLk, zSto, zIns, zFil, zf0, zf1, zf2, zf3, List.filter_cons, List.filter_nil, Nat.reduceAdd, Nat.reduceEqDiff, Nat.reduceLT, Nat.reduceLeDiff, Nat.reduceBEq, Nat.reduceBNe, reduceIte, if_true, if_false, Bool.false_and, Bool.true_and, Bool.and_true, Bool.and_false, Bool.not_false, Bool.not_true, Bool.false_eq_true, beq_self_eq_true, BEq.rfl, zCat1, zCat2, zCat3, zKdI, zKdL, zKdR, true_and, and_true, zSI, zSL, zSR, zu_at, and_self, and_false, false_and, lv_args, zKdZ, zKdO, zB01, zB11, Option.toList_none, Option.toList_some, List.nil_append, List.cons_append, true_or, or_true, zRow_rd, zu_rd, zo_iload, zo_iload_n, zo_icmp_ge, zo_aload_n, zo_lload_n, zo_iconst, zo_imul, zo_lshr, zo_ldc2_w, zo_land, zo_l2i, zi_4, zL_15, zcl_4, zKn_s, zKn_0, zFind, hx, and15, zCat2, zN10, zN01, not_true_eq_false, not_false_eq_true, false_implies, true_implies, implies_true, eq_self, nI_1, nI_40, nI_7, vz0, vz1, zb1_e0, zb1_n0]
    refine z_cV0 (M' := mX10_isPlace) (R' := rX10_isPlace) (i := 87) [.int ((y' >>> ((4 * nI k).toInt64 &&& 63)).toInt32 &&& 15)] [] eX10_isPlace k10_510 (by decide +kernel : decode cX10_route 38 = .ok (.invokevirtual 510, 3)) (Nat.le_of_ble_eq_true rfl) ⟨Nat.le_of_ble_eq_true rfl, Nat.le_of_ble_eq_true rfl, Nat.le_of_ble_eq_true rfl, Nat.le_of_ble_eq_true rfl, Nat.le_of_ble_eq_true rfl⟩ rfl rfl rfl sh_87 ?_
    refine mo_isPlace hR.2.2.1.2.1 ?_
    have hB : oIn ((y' >>> ((4 * nI k).toInt64 &&& 63)).toInt32 &&& 15) (pNp P) = oRtB P y' k := rfl
    rw [hB]
    cases hb : oRtB P y' k with
    | false =>
      refine zBlkR (M := mX10_route) (nL := 5) (rt := (Option.some .boolean)) (blk := bX10_route_41) (T := [(46, bX10_route_46)]) 1 hX10_route_41 (zChks_cons hX10_route_46 zChks_nil) rfl rfl rfl (Nat.le_of_ble_eq_true rfl) (Nat.le_of_ble_eq_true rfl) ?_
      simp (implicitDefEqProofs := false) only [bX10_route_41, bX10_route_46, zRun_cons, zRun_nil, zLk, zSto, zIns, zFil, zf0, zf1, zf2, zf3, List.filter_cons, List.filter_nil, Nat.reduceAdd, Nat.reduceEqDiff, Nat.reduceLT, Nat.reduceLeDiff, Nat.reduceBEq, Nat.reduceBNe, reduceIte, if_true, if_false, Bool.false_and, Bool.true_and, Bool.and_true, Bool.and_false, Bool.not_false, Bool.not_true, Bool.false_eq_true, beq_self_eq_true, BEq.rfl, zCat1, zCat2, zCat3, zKdI, zKdL, zKdR, true_and, and_true, zSI, zSL, zSR, zu_at, and_self, and_false, false_and, lv_args, zKdZ, zKdO, zB01, zB11, Option.toList_none, Option.toList_some, List.nil_append, List.cons_append, true_or, or_true, zRow_rd, zu_rd, zo_if_ne, zo_iconst, zo_ireturn, zo_iinc, zo_goto, zi_0, zi_1, zcl_0, zRt, zKn_s, zKn_0, zFind, zb1_f, zCat2, zN10, zN01, not_true_eq_false, not_false_eq_true, false_implies, true_implies, implies_true, eq_self, nI_1, nI_40, nI_7, vz0, vz1, zb1_e0, zb1_n0]
      refine hbad (fun m hm e hR => ?_)
      have : n = m := by rw [zeq_nat (by omega) (by omega)] at e; exact e
      subst this
      rw [hR k (by omega)] at hb
      exact absurd hb (by decide)
    | true =>
      refine zBlkR (M := mX10_route) (nL := 5) (rt := (Option.some .boolean)) (blk := bX10_route_41) (T := [(46, bX10_route_46)]) 1 hX10_route_41 (zChks_cons hX10_route_46 zChks_nil) rfl rfl rfl (Nat.le_of_ble_eq_true rfl) (Nat.le_of_ble_eq_true rfl) ?_
      simp (implicitDefEqProofs := false) only [bX10_route_41, bX10_route_46, zRun_cons, zRun_nil, zLk, zSto, zIns, zFil, zf0, zf1, zf2, zf3, List.filter_cons, List.filter_nil, Nat.reduceAdd, Nat.reduceEqDiff, Nat.reduceLT, Nat.reduceLeDiff, Nat.reduceBEq, Nat.reduceBNe, reduceIte, if_true, if_false, Bool.false_and, Bool.true_and, Bool.and_true, Bool.and_false, Bool.not_false, Bool.not_true, Bool.false_eq_true, beq_self_eq_true, BEq.rfl, zCat1, zCat2, zCat3, zKdI, zKdL, zKdR, true_and, and_true, zSI, zSL, zSR, zu_at, and_self, and_false, false_and, lv_args, zKdZ, zKdO, zB01, zB11, Option.toList_none, Option.toList_some, List.nil_append, List.cons_append, true_or, or_true, zRow_rd, zu_rd, zo_if_ne, zo_iconst, zo_ireturn, zo_iinc, zo_goto, zi_0, zi_1, zcl_0, zRt, zKn_s, zKn_0, zFind, zb1_t, zCat2, zN10, zN01, not_true_eq_false, not_false_eq_true, false_implies, true_implies, implies_true, eq_self, nI_1, nI_40, nI_7, vz0, vz1, zb1_e0, zb1_n0]
      exact ih (by omega) (fun j hj => by
        by_cases e : j = k
        · subst e; exact hb
        · exact hall j (by omega))
end ZU96
