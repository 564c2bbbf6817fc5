/-! ===== THE CLASS: rain, tide, a law's value ===== -/
section ZV66
variable {w : zP} {Q : Option Value → zMem → Prop} {μ : zMem} {I J V V' : Nat → Nat → Int32} {L : Nat → Nat → Int64} {p s W B T t : Nat} {r : Option Nat} {P : oPn} {m : oTm} {c i k q wh : Nat}
set_option maxRecDepth 20000 in
theorem cl_letRainFall (hC : zCw I W B T p P m t V) (hQ : ∀ I', zKpt (zFB B) I I' → zCw I' W B T p P m t (zIter (oRain (mNw m) (pR P 102 8)) (pCh P) V) → Q none (SH, I', L, RF p s r)) : zXM w mX8_letRainFall rX8_letRainFall [.ref W] (SH, I, L, RF p s r) Q := by
  unfold zXM
  have hW := hC.hW
  have hB := wB hW
  have hch := hC.ch
  refine zBlkR (M := mX8_letRainFall) (nL := 2) (rt := (Option.none : Option Jvm.ClassFile.FieldType)) (blk := bX8_letRainFall_0) (T := []) 0 hX8_letRainFall_0 zChks_nil rfl rfl rfl (Nat.le_of_ble_eq_true rfl) (Nat.le_of_ble_eq_true rfl) ?_
  simp only [bX8_letRainFall_0, zRun_cons, zRun_nil, zLk, zSto, zIns, zFil, zf0, zf1, zf2, zf3, List.filter_cons, List.filter_nil, Nat.reduceAdd, Nat.reduceEqDiff, Nat.reduceLT, Nat.reduceLeDiff, Nat.reduceBEq, Nat.reduceBNe, reduceIte, if_true, if_false, Bool.false_and, Bool.true_and, Bool.and_true, Bool.and_false, Bool.not_false, Bool.not_true, Bool.false_eq_true, beq_self_eq_true, BEq.rfl, zCat1, zCat2, zCat3, zKdI, zKdL, zKdR, true_and, and_true, zSI, zSL, zSR, zu_at, and_self, and_false, false_and, lv_args, zKdZ, zKdO, zB01, zB11, Option.toList_none, Option.toList_some, List.nil_append, List.cons_append, true_or, or_true, zRow_rd, zu_rd, zo_iconst, zo_istore_n, zi_0, zcl_0, zKn_0, zN10, zN01, not_true_eq_false, not_false_eq_true, false_implies, true_implies, implies_true, eq_self, nI_1, nI_40, nI_7, vz0, vz1, zb1_e0, zb1_n0]
  refine zLoop (n := pCh P) (P := fun c => ∀ J, zKpt (zFB B) I J → zCw J W B T p P m t (zIter (oRain (mNw m) (pR P 102 8)) c V) → zX w mX8_letRainFall rX8_letRainFall Q 0 0 2 [(0, Value.ref W), (1, Value.int (nI c))] [] (SH, J, L, RF p s r)) (fun c hc ih => ?_) 0 (Nat.zero_le _) I zKpt_rfl hC
  intro J hJ hCJ
  generalize hW' : zIter (oRain (mNw m) (pR P 102 8)) c V = U at *
  have ihW : zIter (oRain (mNw m) (pR P 102 8)) (c + 1) V = oRain (mNw m) (pR P 102 8) c U := by rw [zIter, hW']
  rw [ihW] at ih
  have h8 := hCJ.hF.2.1
  by_cases hcc : c = pCh P
  · refine zBlkR (M := mX8_letRainFall) (nL := 2) (rt := (Option.none : Option Jvm.ClassFile.FieldType)) (blk := bX8_letRainFall_2) (T := [(39, bX8_letRainFall_39), (62, bX8_letRainFall_62), (68, bX8_letRainFall_68)]) 1 hX8_letRainFall_2 (zChks_cons hX8_letRainFall_39 (zChks_cons hX8_letRainFall_62 (zChks_cons hX8_letRainFall_68 zChks_nil))) rfl rfl rfl (Nat.le_of_ble_eq_true rfl) (Nat.le_of_ble_eq_true rfl) ?_
    simp only [bX8_letRainFall_2, bX8_letRainFall_39, bX8_letRainFall_62, bX8_letRainFall_68, zRun_cons, zRun_nil, zLk, zSto, zIns, zFil, zf0, zf1, zf2, zf3, List.filter_cons, List.filter_nil, Nat.reduceAdd, Nat.reduceEqDiff, Nat.reduceLT, Nat.reduceLeDiff, Nat.reduceBEq, Nat.reduceBNe, reduceIte, if_true, if_false, Bool.false_and, Bool.true_and, Bool.and_true, Bool.and_false, Bool.not_false, Bool.not_true, Bool.false_eq_true, beq_self_eq_true, BEq.rfl, zCat1, zCat2, zCat3, zKdI, zKdL, zKdR, true_and, and_true, zSI, zSL, zSR, zu_at, and_self, and_false, false_and, lv_args, zKdZ, zKdO, zB01, zB11, Option.toList_none, Option.toList_some, List.nil_append, List.cons_append, true_or, or_true, zRow_rd, zu_rd, zo_iload_n, zo_aload_n, zo_getfield, zo_icmp_ge, zo_iaload, zo_iconst, zo_icmp_eq, zo_icmp_ne, zo_iinc, zo_goto, zo_return_, zi_1, zi_2, zKd_8_0, zKd_2_8, zKd_2_0, sh_37, rf_37_0, sh_10, sh_40, rf_40_0, sh_19, sh_28, rf_10_0, sh_11, rf_19_0, sh_20, rf_28_0, sh_29, zcl_1, zcl_2, zvi_1_40, zvi_2_40, zKn_s, zKn_0, zFind, (wsh_0 hW), (wsh_1 hW), (wsh_2 hW), (wsh_3 hW), (wrf_0 hW), (wrf_1 hW), (wrf_2 hW), (wrf_3 hW), (wrf_4 hW), Nat.add_left_cancel_iff, Nat.left_eq_add, Nat.add_eq_left, (fsh_0 hB), (fsh_1 hB), (fsh_2 hB), (fsh_3 hB), (fsh_4 hB), (fsh_5 hB), (fsh_6 hB), (fsh_7 hB), (fsh_8 hB), (frf_0 hB), (frf_1 hB), (frf_2 hB), (frf_3 hB), (frf_4 hB), (frf_5 hB), (frf_6 hB), (frf_7 hB), Nat.add_left_cancel_iff, Nat.left_eq_add, Nat.add_eq_left, h8, zle_nat (a := pCh P) (b := c) (by omega) (by omega), zN10, zN01, not_true_eq_false, not_false_eq_true, false_implies, true_implies, implies_true, eq_self, nI_1, nI_40, nI_7, vz0, vz1, zb1_e0, zb1_n0]
    exact ⟨fun _ => hQ J hJ (by rw [← hcc, hW']; exact hCJ), fun h => absurd (by omega) h⟩
  have hc4 : c < 40 := by omega
  have hv : vp_in (nI c) 40 := zvn (by omega) (by omega)
  have key : (U 1 c = 1 ∨ U 1 c = 2) → zX w mX8_letRainFall rX8_letRainFall Q 0 0 44 [(0, Value.ref W), (1, Value.int (nI c))] [Value.int (nI c), Value.ref B] (SH, J, L, RF p s r) := by
    intro hf
    have hU1 : oUn c U 1 c = 1 := by
      unfold oUn
      split
      · simp [zu_at]
      · rename_i g; exact hf.resolve_right g
    refine z_cV0 (M' := mX2_unseat) (R' := rX2_unseat) (i := B) [.int (nI c)] [] eX2_unseat k8_99 (by decide +kernel : decode cX8_letRainFall 44 = .ok (.invokevirtual 99, 3)) (Nat.le_of_ble_eq_true rfl) ⟨Nat.le_of_ble_eq_true rfl, Nat.le_of_ble_eq_true rfl, Nat.le_of_ble_eq_true rfl, Nat.le_of_ble_eq_true rfl, Nat.le_of_ble_eq_true rfl⟩ rfl rfl rfl (fsh_0 hB) ?_
    refine cl_unseat hB (by omega) hch hCJ.np hCJ.hF hCJ.ok (fun I1 k1 f1 => ?_)
    have hC1 := zCw_u hCJ k1 f1 (oOk_un hCJ.ok)
    have hM6 := hC1.hM.2.2.2.2.2.1
    refine zBlkR (M := mX8_letRainFall) (nL := 2) (rt := (Option.none : Option Jvm.ClassFile.FieldType)) (blk := bX8_letRainFall_47) (T := [(62, bX8_letRainFall_62)]) 1 hX8_letRainFall_47 (zChks_cons hX8_letRainFall_62 zChks_nil) rfl rfl rfl (Nat.le_of_ble_eq_true rfl) (Nat.le_of_ble_eq_true rfl) ?_
    simp only [bX8_letRainFall_47, bX8_letRainFall_62, zRun_cons, zRun_nil, zLk, zSto, zIns, zFil, zf0, zf1, zf2, zf3, List.filter_cons, List.filter_nil, Nat.reduceAdd, Nat.reduceEqDiff, Nat.reduceLT, Nat.reduceLeDiff, Nat.reduceBEq, Nat.reduceBNe, reduceIte, if_true, if_false, Bool.false_and, Bool.true_and, Bool.and_true, Bool.and_false, Bool.not_false, Bool.not_true, Bool.false_eq_true, beq_self_eq_true, BEq.rfl, zCat1, zCat2, zCat3, zKdI, zKdL, zKdR, true_and, and_true, zSI, zSL, zSR, zu_at, and_self, and_false, false_and, lv_args, zKdZ, zKdO, zB01, zB11, Option.toList_none, Option.toList_some, List.nil_append, List.cons_append, true_or, or_true, zRow_rd, zu_rd, zo_aload_n, zo_getfield, zo_if_ne, zo_iload_n, zo_iinc, zo_goto, zi_1, zKd_8_1, zKd_6_6, sh_37, rf_37_1, sh_8, sh_40, rf_40_1, sh_9, zKn_s, zKn_0, zFind, (wsh_0 hW), (wsh_1 hW), (wsh_2 hW), (wsh_3 hW), (wrf_0 hW), (wrf_1 hW), (wrf_2 hW), (wrf_3 hW), (wrf_4 hW), Nat.add_left_cancel_iff, Nat.left_eq_add, Nat.add_eq_left, hM6, zN10, zN01, not_true_eq_false, not_false_eq_true, false_implies, true_implies, implies_true, eq_self, nI_1, nI_40, nI_7, vz0, vz1, zb1_e0, zb1_n0]
    refine ⟨fun h => ?_, fun h => ?_⟩
    · have hn : mNw m = true := by simpa using h
      have e : oRain (mNw m) (pR P 102 8) c U = oUn c U := by
        have hw := (oOk_front hCJ.ok hc4 hf).2.2
        rw [oRain, if_pos hf, hn, show zb1 (!true) = 0 from rfl, Int32.add_zero, if_pos hw, oUn]
        funext i d
        rcases hf with g | g
        · have ho := oOk_1 hCJ.ok hc4 g
          simp only [zu_at, oOff_at, oWet_at, g, show zb1 (!true) = 0 from rfl, Int32.add_zero]
          grind
        · simp only [zu_at, oOff_at, oWet_at, g, if_true, show zb1 (!true) = 0 from rfl, Int32.add_zero]
          grind
      rw [e] at ih
      exact ih (by omega) I1 (hJ.trans k1) hC1
    · refine z_cV0 (M' := mX8_wet) (R' := rX8_wet) (i := W) [.int (nI c)] [] eX8_wet k8_105 (by decide +kernel : decode cX8_letRainFall 59 = .ok (.invokevirtual 105, 3)) (Nat.le_of_ble_eq_true rfl) ⟨Nat.le_of_ble_eq_true rfl, Nat.le_of_ble_eq_true rfl, Nat.le_of_ble_eq_true rfl, Nat.le_of_ble_eq_true rfl, Nat.le_of_ble_eq_true rfl⟩ rfl rfl rfl (wsh_0 hW) ?_
      refine cl_wet hC1 (by omega) hU1 (fun I2 k2 c2 => ?_)
      refine zBlkR (M := mX8_letRainFall) (nL := 2) (rt := (Option.none : Option Jvm.ClassFile.FieldType)) (blk := bX8_letRainFall_62) (T := []) 0 hX8_letRainFall_62 zChks_nil rfl rfl rfl (Nat.le_of_ble_eq_true rfl) (Nat.le_of_ble_eq_true rfl) ?_
      simp only [bX8_letRainFall_62, zRun_cons, zRun_nil, zLk, zSto, zIns, zFil, zf0, zf1, zf2, zf3, List.filter_cons, List.filter_nil, Nat.reduceAdd, Nat.reduceEqDiff, Nat.reduceLT, Nat.reduceLeDiff, Nat.reduceBEq, Nat.reduceBNe, reduceIte, if_true, if_false, Bool.false_and, Bool.true_and, Bool.and_true, Bool.and_false, Bool.not_false, Bool.not_true, Bool.false_eq_true, beq_self_eq_true, BEq.rfl, zCat1, zCat2, zCat3, zKdI, zKdL, zKdR, true_and, and_true, zSI, zSL, zSR, zu_at, and_self, and_false, false_and, lv_args, zKdZ, zKdO, zB01, zB11, Option.toList_none, Option.toList_some, List.nil_append, List.cons_append, true_or, or_true, zRow_rd, zu_rd, zo_iinc, zo_goto, zi_1, zKn_0, zN10, zN01, not_true_eq_false, not_false_eq_true, false_implies, true_implies, implies_true, eq_self, nI_1, nI_40, nI_7, vz0, vz1, zb1_e0, zb1_n0]
      have e : oRain (mNw m) (pR P 102 8) c U = oRain false (pR P 102 8) c (oUn c U) := by
        have e3 : oUn c U 3 c = U 3 c := by unfold oUn; split <;> simp [zu_at, oOff_at]
        have e86 : oUn c U 8 6 = U 8 6 := by unfold oUn; split <;> simp [zu_at, oOff_at]
        rw [h, oRain, oRain, if_pos hf, if_pos (Or.inl hU1), e3, e86]
        rcases hf with g | g
        · rw [show oUn c U = U from by rw [oUn, if_neg (by rw [g]; decide)]]
        · rw [oUn, if_pos g]
          split
          · funext i d
            simp only [zu_at, oOff_at, oWet_at, g]
            grind
          · congr 1
            funext i d
            simp only [zu_at, oLose_at, oOff_at, oWet_at, g]
            grind
      rw [e] at ih
      exact ih (by omega) I2 ((hJ.trans k1).trans k2) c2
  refine zBlkR (M := mX8_letRainFall) (nL := 2) (rt := (Option.none : Option Jvm.ClassFile.FieldType)) (blk := bX8_letRainFall_2) (T := [(39, bX8_letRainFall_39), (62, bX8_letRainFall_62), (68, bX8_letRainFall_68)]) 1 hX8_letRainFall_2 (zChks_cons hX8_letRainFall_39 (zChks_cons hX8_letRainFall_62 (zChks_cons hX8_letRainFall_68 zChks_nil))) rfl rfl rfl (Nat.le_of_ble_eq_true rfl) (Nat.le_of_ble_eq_true rfl) ?_
  simp only [bX8_letRainFall_2, bX8_letRainFall_39, bX8_letRainFall_62, bX8_letRainFall_68, zRun_cons, zRun_nil, zLk, zSto, zIns, zFil, zf0, zf1, zf2, zf3, List.filter_cons, List.filter_nil, Nat.reduceAdd, Nat.reduceEqDiff, Nat.reduceLT, Nat.reduceLeDiff, Nat.reduceBEq, Nat.reduceBNe, reduceIte, if_true, if_false, Bool.false_and, Bool.true_and, Bool.and_true, Bool.and_false, Bool.not_false, Bool.not_true, Bool.false_eq_true, beq_self_eq_true, BEq.rfl, zCat1, zCat2, zCat3, zKdI, zKdL, zKdR, true_and, and_true, zSI, zSL, zSR, zu_at, and_self, and_false, false_and, lv_args, zKdZ, zKdO, zB01, zB11, Option.toList_none, Option.toList_some, List.nil_append, List.cons_append, true_or, or_true, zRow_rd, zu_rd, zo_iload_n, zo_aload_n, zo_getfield, zo_icmp_ge, zo_iaload, zo_iconst, zo_icmp_eq, zo_icmp_ne, zo_iinc, zo_goto, zo_return_, zi_1, zi_2, zKd_8_0, zKd_2_8, zKd_2_0, sh_37, rf_37_0, sh_10, sh_40, rf_40_0, sh_19, sh_28, rf_10_0, sh_11, rf_19_0, sh_20, rf_28_0, sh_29, zcl_1, zcl_2, zvi_1_40, zvi_2_40, zKn_s, zKn_0, zFind, (wsh_0 hW), (wsh_1 hW), (wsh_2 hW), (wsh_3 hW), (wrf_0 hW), (wrf_1 hW), (wrf_2 hW), (wrf_3 hW), (wrf_4 hW), Nat.add_left_cancel_iff, Nat.left_eq_add, Nat.add_eq_left, (fsh_0 hB), (fsh_1 hB), (fsh_2 hB), (fsh_3 hB), (fsh_4 hB), (fsh_5 hB), (fsh_6 hB), (fsh_7 hB), (fsh_8 hB), (frf_0 hB), (frf_1 hB), (frf_2 hB), (frf_3 hB), (frf_4 hB), (frf_5 hB), (frf_6 hB), (frf_7 hB), Nat.add_left_cancel_iff, Nat.left_eq_add, Nat.add_eq_left, h8, hv, zle_nat (a := pCh P) (b := c) (by omega) (by omega), nI_clamp (n := c) (by omega), hCJ.hF.v1 hc4, zN10, zN01, not_true_eq_false, not_false_eq_true, false_implies, true_implies, implies_true, eq_self, nI_1, nI_40, nI_7, vz0, vz1, zb1_e0, zb1_n0]
  refine ⟨fun h => absurd h (by omega), fun _ => ⟨fun h1 => key (Or.inl h1), fun h1 => ⟨fun h2 => ?_, fun h2 => key (Or.inr h2)⟩⟩⟩
  rw [oRain, if_neg (fun q => q.elim h1 h2)] at ih
  exact ih (by omega) J hJ hCJ
/-- places told of first that are flooded -/
def oHitK (P : oPn) (t n : Nat) (x : Int32) : Bool := zAny (fun q => pHit P t (nI q) && x == nI q) n
theorem oHitK_at {n : Nat} (hq : q < n) (hn : n ≤ 5) : oHitK P t n (nI q) = pHit P t (nI q) := by
  unfold oHitK
  cases h : pHit P t (nI q) with
  | true => exact zAny_t (c := q) (by simp [h]) n hq
  | false =>
    have key : ∀ j, j ≤ n → zAny (fun k => pHit P t (nI k) && nI q == nI k) j = false := by
      intro j
      induction j with
      | zero => intro _; rfl
      | succ j ih =>
        intro hj
        rw [zAny, ih (by omega), Bool.false_or]
        by_cases e : q = j
        · subst e; simp [h]
        · have : (nI q == nI j) = false := by rw [beq_eq_false_iff_ne]; intro g; exact e ((nI_eq (by omega) (by omega)).mp g)
          rw [this, Bool.and_false]
    exact key n (Nat.le_refl _)
theorem pHit_cls (h2 : POk2 P) (hq : q < pNp P) (hnp : pNp P ≤ 5) : pHit P t (nI q) = (!decide (pR P 93 q = -1) && !decide (nI t < pR P 93 q)) := by
  rw [pHit, nI_clamp (by omega)]
  rcases h2.2.1 q hq with h | ⟨n, hn, h⟩
  · rw [h]; rfl
  · have e1 : decide (pR P 93 q < 0) = false := by rw [h]; exact decide_eq_false (nI_nn (by omega))
    have e2 : decide (pR P 93 q = -1) = false := by
      rw [h]; refine decide_eq_false (fun g => ?_)
      have h0 : ¬ nI n < 0 := nI_nn (by omega)
      rw [g] at h0; exact h0 (by decide)
    rw [e1, e2]
set_option maxRecDepth 20000 in
theorem cl_letTideCome (hC : zCw I W B T p P m t V) (hQ : ∀ I', zKpt (zFB B) I I' → zCw I' W B T p P m t (oV1 P t V) → Q none (SH, I', L, RF p s r)) : zXM w mX8_letTideCome rX8_letTideCome [.ref W] (SH, I, L, RF p s r) Q := by
  unfold zXM
  have hW := hC.hW
  have hB := wB hW
  have hp := hC.hp
  have hch := hC.ch
  have hnp := hC.np
  have e0 : oGone (oHitK P t 0) (pCh P) V = V := by
    rw [← oGone_ok]
    have : ∀ n, zIter (oTide (oHitK P t 0)) n V = V := by
      intro n
      induction n with
      | zero => rfl
      | succ n ih => rw [zIter, ih, oTide, if_neg (by simp [oHitK, zAny])]
    exact this _
  have eN : oGone (oHitK P t (pNp P)) (pCh P) V = oV1 P t V := by
    rw [oV1, oGone_ok]
    refine oGone_congr (fun c hc hf => ?_)
    obtain ⟨-, ⟨q, hq, e2⟩, -⟩ := oOk_front hC.ok (by omega) hf
    rw [e2]
    exact oHitK_at hq hnp
  refine zBlkR (M := mX8_letTideCome) (nL := 2) (rt := (Option.none : Option Jvm.ClassFile.FieldType)) (blk := bX8_letTideCome_0) (T := []) 0 hX8_letTideCome_0 zChks_nil rfl rfl rfl (Nat.le_of_ble_eq_true rfl) (Nat.le_of_ble_eq_true rfl) ?_
  simp only [bX8_letTideCome_0, zRun_cons, zRun_nil, zLk, zSto, zIns, zFil, zf0, zf1, zf2, zf3, List.filter_cons, List.filter_nil, Nat.reduceAdd, Nat.reduceEqDiff, Nat.reduceLT, Nat.reduceLeDiff, Nat.reduceBEq, Nat.reduceBNe, reduceIte, if_true, if_false, Bool.false_and, Bool.true_and, Bool.and_true, Bool.and_false, Bool.not_false, Bool.not_true, Bool.false_eq_true, beq_self_eq_true, BEq.rfl, zCat1, zCat2, zCat3, zKdI, zKdL, zKdR, true_and, and_true, zSI, zSL, zSR, zu_at, and_self, and_false, false_and, lv_args, zKdZ, zKdO, zB01, zB11, Option.toList_none, Option.toList_some, List.nil_append, List.cons_append, true_or, or_true, zRow_rd, zu_rd, zo_iconst, zo_istore_n, zi_0, zcl_0, zKn_0, zN10, zN01, not_true_eq_false, not_false_eq_true, false_implies, true_implies, implies_true, eq_self, nI_1, nI_40, nI_7, vz0, vz1, zb1_e0, zb1_n0]
  refine zLoop (n := pNp P) (P := fun q => ∀ J, zKpt (zFB B) I J → zCw J W B T p P m t (oGone (oHitK P t q) (pCh P) V) → zX w mX8_letTideCome rX8_letTideCome Q 0 0 2 [(0, Value.ref W), (1, Value.int (nI q))] [] (SH, J, L, RF p s r)) (fun q hq ih => ?_) 0 (Nat.zero_le _) I zKpt_rfl (by rw [e0]; exact hC)
  intro J hJ hCJ
  have i0 := hCJ.i0
  by_cases hcc : q = pNp P
  · refine zBlkR (M := mX8_letTideCome) (nL := 2) (rt := (Option.none : Option Jvm.ClassFile.FieldType)) (blk := bX8_letTideCome_2) (T := [(61, bX8_letTideCome_61), (67, bX8_letTideCome_67)]) 1 hX8_letTideCome_2 (zChks_cons hX8_letTideCome_61 (zChks_cons hX8_letTideCome_67 zChks_nil)) rfl rfl rfl (Nat.le_of_ble_eq_true rfl) (Nat.le_of_ble_eq_true rfl) ?_
    simp only [bX8_letTideCome_2, bX8_letTideCome_61, bX8_letTideCome_67, zRun_cons, zRun_nil, zLk, zSto, zIns, zFil, zf0, zf1, zf2, zf3, List.filter_cons, List.filter_nil, Nat.reduceAdd, Nat.reduceEqDiff, Nat.reduceLT, Nat.reduceLeDiff, Nat.reduceBEq, Nat.reduceBNe, reduceIte, if_true, if_false, Bool.false_and, Bool.true_and, Bool.and_true, Bool.and_false, Bool.not_false, Bool.not_true, Bool.false_eq_true, beq_self_eq_true, BEq.rfl, zCat1, zCat2, zCat3, zKdI, zKdL, zKdR, true_and, and_true, zSI, zSL, zSR, zu_at, and_self, and_false, false_and, lv_args, zKdZ, zKdO, zB01, zB11, Option.toList_none, Option.toList_some, List.nil_append, List.cons_append, true_or, or_true, zRow_rd, zu_rd, zo_iload_n, zo_aload_n, zo_getfield, zo_icmp_ge, zo_iaload, zo_iadd, zo_if_le, zo_iinc, zo_goto, zo_return_, zi_1, zKd_8_4, zKd_4_0, zKd_8_0, zKd_2_5, zKd_2_6, zKd_2_10, sh_37, rf_37_4, sh_40, rf_40_4, sh_55, sh_71, rf_37_0, sh_10, rf_40_0, sh_19, rf_10_5, sh_16, rf_19_5, sh_25, sh_28, rf_28_5, sh_34, rf_10_6, sh_17, rf_19_6, sh_26, rf_28_6, sh_35, zKn_s, zKn_0, zFind, (wsh_0 hW), (wsh_1 hW), (wsh_2 hW), (wsh_3 hW), (wrf_0 hW), (wrf_1 hW), (wrf_2 hW), (wrf_3 hW), (wrf_4 hW), Nat.add_left_cancel_iff, Nat.left_eq_add, Nat.add_eq_left, (psh_0 hp), (psh_1 hp), (psh_2 hp), (psh_3 hp), (psh_4 hp), (psh_5 hp), (psh_6 hp), (psh_7 hp), (psh_8 hp), (psh_9 hp), (psh_10 hp), (psh_11 hp), (psh_12 hp), (psh_13 hp), (psh_14 hp), (psh_15 hp), (prf_1 hp), (prf_2 hp), (prf_3 hp), (prf_4 hp), (prf_6 hp), (prf_7 hp), (prf_8 hp), (prf_10 hp), (prf_11 hp), (prf_12 hp), (prf_13 hp), (prf_15 hp), (prf_17 hp), (prf_18 hp), (prf_19 hp), Nat.add_left_cancel_iff, Nat.left_eq_add, Nat.add_eq_left, i0, zle_nat (a := pNp P) (b := q) (by omega) (by omega), zN10, zN01, not_true_eq_false, not_false_eq_true, false_implies, true_implies, implies_true, eq_self, nI_1, nI_40, nI_7, vz0, vz1, zb1_e0, zb1_n0]
    exact ⟨fun _ => hQ J hJ (by rw [← eN, ← hcc]; exact hCJ), fun h => absurd (by omega) h⟩
  have hq5 : q < 5 := by omega
  have hv : vp_in (nI q) 5 := zvn (by omega) (by omega)
  have o6 := hCJ.hF.2.2.1 q hq5
  have o7 := hCJ.hF.2.2.2.1 q hq5
  have ht := hCJ.ht
  generalize hU : oGone (oHitK P t q) (pCh P) V = U at *
  have c1 : oCnt U (nI q) 1 (pCh P) ≤ pCh P := zCnt_le _ _
  have c2 : oCnt U (nI q) 2 (pCh P) ≤ pCh P := zCnt_le _ _
  have two : oGone (oHitK P t (q + 1)) (pCh P) V = oGone (fun y => pHit P t (nI q) && y == nI q) (pCh P) U := by
    rw [← hU, oGone_two]
    rfl
  have skip : (∀ c, c < pCh P → (U 1 c = 1 ∨ U 1 c = 2) → (pHit P t (nI q) && U 2 c == nI q) = false) → oGone (oHitK P t (q + 1)) (pCh P) V = U := by
    intro h
    rw [two, oGone_congr (h2 := fun _ => false) h, ← oGone_ok]
    have : ∀ n, zIter (oTide (fun _ => false)) n U = U := by
      intro n
      induction n with
      | zero => rfl
      | succ n ih => rw [zIter, ih, oTide, if_neg (by simp)]
    exact this _
  have ih := ih (by omega)
  refine zBlkR (M := mX8_letTideCome) (nL := 2) (rt := (Option.none : Option Jvm.ClassFile.FieldType)) (blk := bX8_letTideCome_2) (T := [(61, bX8_letTideCome_61), (67, bX8_letTideCome_67)]) 1 hX8_letTideCome_2 (zChks_cons hX8_letTideCome_61 (zChks_cons hX8_letTideCome_67 zChks_nil)) rfl rfl rfl (Nat.le_of_ble_eq_true rfl) (Nat.le_of_ble_eq_true rfl) ?_
  simp only [bX8_letTideCome_2, bX8_letTideCome_61, bX8_letTideCome_67, zRun_cons, zRun_nil, zLk, zSto, zIns, zFil, zf0, zf1, zf2, zf3, List.filter_cons, List.filter_nil, Nat.reduceAdd, Nat.reduceEqDiff, Nat.reduceLT, Nat.reduceLeDiff, Nat.reduceBEq, Nat.reduceBNe, reduceIte, if_true, if_false, Bool.false_and, Bool.true_and, Bool.and_true, Bool.and_false, Bool.not_false, Bool.not_true, Bool.false_eq_true, beq_self_eq_true, BEq.rfl, zCat1, zCat2, zCat3, zKdI, zKdL, zKdR, true_and, and_true, zSI, zSL, zSR, zu_at, and_self, and_false, false_and, lv_args, zKdZ, zKdO, zB01, zB11, Option.toList_none, Option.toList_some, List.nil_append, List.cons_append, true_or, or_true, zRow_rd, zu_rd, zo_iload_n, zo_aload_n, zo_getfield, zo_icmp_ge, zo_iaload, zo_iadd, zo_if_le, zo_iinc, zo_goto, zo_return_, zi_1, zKd_8_4, zKd_4_0, zKd_8_0, zKd_2_5, zKd_2_6, zKd_2_10, sh_37, rf_37_4, sh_40, rf_40_4, sh_55, sh_71, rf_37_0, sh_10, rf_40_0, sh_19, rf_10_5, sh_16, rf_19_5, sh_25, sh_28, rf_28_5, sh_34, rf_10_6, sh_17, rf_19_6, sh_26, rf_28_6, sh_35, zKn_s, zKn_0, zFind, (wsh_0 hW), (wsh_1 hW), (wsh_2 hW), (wsh_3 hW), (wrf_0 hW), (wrf_1 hW), (wrf_2 hW), (wrf_3 hW), (wrf_4 hW), Nat.add_left_cancel_iff, Nat.left_eq_add, Nat.add_eq_left, (fsh_0 hB), (fsh_1 hB), (fsh_2 hB), (fsh_3 hB), (fsh_4 hB), (fsh_5 hB), (fsh_6 hB), (fsh_7 hB), (fsh_8 hB), (frf_0 hB), (frf_1 hB), (frf_2 hB), (frf_3 hB), (frf_4 hB), (frf_5 hB), (frf_6 hB), (frf_7 hB), Nat.add_left_cancel_iff, Nat.left_eq_add, Nat.add_eq_left, (psh_0 hp), (psh_1 hp), (psh_2 hp), (psh_3 hp), (psh_4 hp), (psh_5 hp), (psh_6 hp), (psh_7 hp), (psh_8 hp), (psh_9 hp), (psh_10 hp), (psh_11 hp), (psh_12 hp), (psh_13 hp), (psh_14 hp), (psh_15 hp), (prf_1 hp), (prf_2 hp), (prf_3 hp), (prf_4 hp), (prf_6 hp), (prf_7 hp), (prf_8 hp), (prf_10 hp), (prf_11 hp), (prf_12 hp), (prf_13 hp), (prf_15 hp), (prf_17 hp), (prf_18 hp), (prf_19 hp), Nat.add_left_cancel_iff, Nat.left_eq_add, Nat.add_eq_left, hv, i0, o6, o7, ht, nI_add, zle_nat (a := pNp P) (b := q) (by omega) (by omega), nI_clamp (n := q) (by omega), zN10, zN01, not_true_eq_false, not_false_eq_true, false_implies, true_implies, implies_true, eq_self, nI_1, nI_40, nI_7, vz0, vz1, zb1_e0, zb1_n0]
  refine ⟨fun h => absurd h (by omega), fun _ => ⟨fun h => ?_, fun h => ?_⟩⟩
  · have hz : oCnt U (nI q) 1 (pCh P) + oCnt U (nI q) 2 (pCh P) = 0 := by
      rw [show (0 : Int32) = nI 0 from rfl, zle_nat (by omega) (by omega)] at h
      omega
    have z1 := zCnt_0n (n := pCh P) (show oCnt U (nI q) 1 (pCh P) = 0 by omega)
    have z2 := zCnt_0n (n := pCh P) (show oCnt U (nI q) 2 (pCh P) = 0 by omega)
    rw [skip (fun c hc hf => by
      have a1 := z1 c hc
      have a2 := z2 c hc
      rcases hf with g | g
      · rw [g] at a1; simp at a1; simp [a1]
      · rw [g] at a2; simp at a2; simp [a2])] at ih
    exact ih J hJ hCJ
  · refine z_cV0 (M' := mX4_isFlooded) (R' := rX4_isFlooded) (i := p) [.int (nI q), .int (nI t)] [] eX4_isFlooded k8_85 (by decide +kernel : decode cX8_letTideCome 47 = .ok (.invokevirtual 85, 3)) (Nat.le_of_ble_eq_true rfl) ⟨Nat.le_of_ble_eq_true rfl, Nat.le_of_ble_eq_true rfl, Nat.le_of_ble_eq_true rfl, Nat.le_of_ble_eq_true rfl, Nat.le_of_ble_eq_true rfl⟩ rfl rfl rfl (psh_0 hp) ?_
    refine cl_isFlooded hp i0 hnp (by omega) ?_
    rw [hCJ.td (k := q) (by omega), ← pHit_cls (t := t) hC.hO2 (by omega) hnp]
    refine zBlkR (M := mX8_letTideCome) (nL := 2) (rt := (Option.none : Option Jvm.ClassFile.FieldType)) (blk := bX8_letTideCome_50) (T := [(61, bX8_letTideCome_61)]) 1 hX8_letTideCome_50 (zChks_cons hX8_letTideCome_61 zChks_nil) rfl rfl rfl (Nat.le_of_ble_eq_true rfl) (Nat.le_of_ble_eq_true rfl) ?_
    simp only [bX8_letTideCome_50, bX8_letTideCome_61, zRun_cons, zRun_nil, zLk, zSto, zIns, zFil, zf0, zf1, zf2, zf3, List.filter_cons, List.filter_nil, Nat.reduceAdd, Nat.reduceEqDiff, Nat.reduceLT, Nat.reduceLeDiff, Nat.reduceBEq, Nat.reduceBNe, reduceIte, if_true, if_false, Bool.false_and, Bool.true_and, Bool.and_true, Bool.and_false, Bool.not_false, Bool.not_true, Bool.false_eq_true, beq_self_eq_true, BEq.rfl, zCat1, zCat2, zCat3, zKdI, zKdL, zKdR, true_and, and_true, zSI, zSL, zSR, zu_at, and_self, and_false, false_and, lv_args, zKdZ, zKdO, zB01, zB11, Option.toList_none, Option.toList_some, List.nil_append, List.cons_append, true_or, or_true, zRow_rd, zu_rd, zo_if_eq, zo_aload_n, zo_getfield, zo_iload_n, zo_iinc, zo_goto, zi_1, zKd_8_0, sh_37, rf_37_0, sh_10, sh_40, rf_40_0, sh_19, zKn_s, zKn_0, zFind, (wsh_0 hW), (wsh_1 hW), (wsh_2 hW), (wsh_3 hW), (wrf_0 hW), (wrf_1 hW), (wrf_2 hW), (wrf_3 hW), (wrf_4 hW), Nat.add_left_cancel_iff, Nat.left_eq_add, Nat.add_eq_left, zN10, zN01, not_true_eq_false, not_false_eq_true, false_implies, true_implies, implies_true, eq_self, nI_1, nI_40, nI_7, vz0, vz1, zb1_e0, zb1_n0]
    refine ⟨fun hf => ?_, fun hf => ?_⟩
    · rw [skip (fun c hc _ => by rw [hf, Bool.false_and])] at ih
      exact ih J hJ hCJ
    · have hf : pHit P t (nI q) = true := by simpa using hf
      refine z_cV0 (M' := mX2_loseAll) (R' := rX2_loseAll) (i := B) [.int (nI q)] [] eX2_loseAll k8_89 (by decide +kernel : decode cX8_letTideCome 58 = .ok (.invokevirtual 89, 3)) (Nat.le_of_ble_eq_true rfl) ⟨Nat.le_of_ble_eq_true rfl, Nat.le_of_ble_eq_true rfl, Nat.le_of_ble_eq_true rfl, Nat.le_of_ble_eq_true rfl, Nat.le_of_ble_eq_true rfl⟩ rfl rfl rfl (fsh_0 hB) ?_
      refine cl_loseAll hB hch hnp hCJ.hF hCJ.ok (fun I1 k1 f1 => ?_)
      refine zBlkR (M := mX8_letTideCome) (nL := 2) (rt := (Option.none : Option Jvm.ClassFile.FieldType)) (blk := bX8_letTideCome_61) (T := []) 0 hX8_letTideCome_61 zChks_nil rfl rfl rfl (Nat.le_of_ble_eq_true rfl) (Nat.le_of_ble_eq_true rfl) ?_
      simp only [bX8_letTideCome_61, zRun_cons, zRun_nil, zLk, zSto, zIns, zFil, zf0, zf1, zf2, zf3, List.filter_cons, List.filter_nil, Nat.reduceAdd, Nat.reduceEqDiff, Nat.reduceLT, Nat.reduceLeDiff, Nat.reduceBEq, Nat.reduceBNe, reduceIte, if_true, if_false, Bool.false_and, Bool.true_and, Bool.and_true, Bool.and_false, Bool.not_false, Bool.not_true, Bool.false_eq_true, beq_self_eq_true, BEq.rfl, zCat1, zCat2, zCat3, zKdI, zKdL, zKdR, true_and, and_true, zSI, zSL, zSR, zu_at, and_self, and_false, false_and, lv_args, zKdZ, zKdO, zB01, zB11, Option.toList_none, Option.toList_some, List.nil_append, List.cons_append, true_or, or_true, zRow_rd, zu_rd, zo_iinc, zo_goto, zi_1, zKn_0, zN10, zN01, not_true_eq_false, not_false_eq_true, false_implies, true_implies, implies_true, eq_self, nI_1, nI_40, nI_7, vz0, vz1, zb1_e0, zb1_n0]
      rw [two, show (fun y => pHit P t (nI q) && y == nI q) = (fun y => y == nI q) from by funext y; rw [hf, Bool.true_and], ← oGone_ok] at ih
      exact ih I1 (hJ.trans k1) (zCw_u hCJ k1 f1 (zIter_lt (N := pCh P) (fun c a h1 h => oOk_tide (by omega) h) (pCh P) U (Nat.le_refl _) hCJ.ok))
/-- the kind of a name -/
def jNk (j : Nat) : Int32 := if j = 6 then 27 else if j = 7 then 26 else nI (20 + j)
/-- what names stand for, at a place -/
def pNm (P : oPn) (m : oTm) (t : Nat) (V : Nat → Nat → Int32) (q : Nat) : Nat → Int64 := jNm (pR P 91 q) (pR P 92 q) (decide (oSky (pR P 96) (pR P 97) (nI t) (pNs P) (mNr m) = 0)) (!mNb m && zAny (oMusP (pR P 98) (pR P 99) (pR P 100) (nI q) (nI t)) (pNb P)) (oCnt V (nI q) 2 (pCh P)) (oCnt V (nI q) 1 (pCh P)) (mPr m) (nI t)
theorem zAny_congr {P1 P2 : Nat → Bool} : ∀ {n : Nat}, (∀ c, c < n → P1 c = P2 c) → zAny P1 n = zAny P2 n
  | 0, _ => rfl
  | n + 1, h => by rw [zAny, zAny, zAny_congr (fun c hc => h c (by omega)), h n (by omega)]
set_option maxRecDepth 20000 in
theorem cl_nameValue {j : Nat} (hC : zCw I W B T p P m t V) (hq : q < pNp P) (hj : j < 8) (hQ : Q (some (.long (pNm P m t V q j))) (SH, I, L, RF p s r)) : zXM w mX8_nameValue rX8_nameValue [.ref W, .int (jNk j), .int (nI q)] (SH, I, L, RF p s r) Q := by
  unfold zXM
  have hW := hC.hW
  have hB := wB hW
  have hp := hC.hp
  have hnp := hC.np
  have hv : vp_in (nI q) 5 := zvn (by omega) (by omega)
  have vw := hC.vw hq
  have fr := hC.fr hq
  have o6 := hC.hF.2.2.1 q (by omega)
  have o7 := hC.hF.2.2.2.1 q (by omega)
  have ht := hC.ht
  have m0 := hC.hM.1
  have m4 := hC.hM.2.2.2.1
  match j, hj with
  | 0, _ =>
    refine zBlkR (M := mX8_nameValue) (nL := 3) (rt := (Option.some .long)) (blk := bX8_nameValue_0) (T := []) 0 hX8_nameValue_0 zChks_nil rfl rfl rfl (Nat.le_of_ble_eq_true rfl) (Nat.le_of_ble_eq_true rfl) ?_
    simp only [bX8_nameValue_0, zRun_cons, zRun_nil, zLk, zSto, zIns, zFil, zf0, zf1, zf2, zf3, List.filter_cons, List.filter_nil, Nat.reduceAdd, Nat.reduceEqDiff, Nat.reduceLT, Nat.reduceLeDiff, Nat.reduceBEq, Nat.reduceBNe, reduceIte, if_true, if_false, Bool.false_and, Bool.true_and, Bool.and_true, Bool.and_false, Bool.not_false, Bool.not_true, Bool.false_eq_true, beq_self_eq_true, BEq.rfl, zCat1, zCat2, zCat3, zKdI, zKdL, zKdR, true_and, and_true, zSI, zSL, zSR, zu_at, and_self, and_false, false_and, lv_args, zKdZ, zKdO, zB01, zB11, Option.toList_none, Option.toList_some, List.nil_append, List.cons_append, true_or, or_true, zRow_rd, zu_rd, zo_iload_n, zKn_0, zN10, zN01, not_true_eq_false, not_false_eq_true, false_implies, true_implies, implies_true, eq_self, nI_1, nI_40, nI_7, vz0, vz1, zb1_e0, zb1_n0]
    refine z_tsw (dt := 144) [(20, 44), (21, 55), (22, 66), (23, 79), (24, 113), (25, 124), (26, 135)] (by decide +kernel : decode cX8_nameValue 1 = .ok (.tableswitch 143 20 26 #[43, 54, 65, 78, 112, 123, 134], 43)) (by decide) (by decide) (by decide) (zSw_of (t := 44) (by decide) ?_)
    refine zBlkR (M := mX8_nameValue) (nL := 3) (rt := (Option.some .long)) (blk := bX8_nameValue_44) (T := []) 0 hX8_nameValue_44 zChks_nil rfl rfl rfl (Nat.le_of_ble_eq_true rfl) (Nat.le_of_ble_eq_true rfl) ?_
    simp only [bX8_nameValue_44, zRun_cons, zRun_nil, zLk, zSto, zIns, zFil, zf0, zf1, zf2, zf3, List.filter_cons, List.filter_nil, Nat.reduceAdd, Nat.reduceEqDiff, Nat.reduceLT, Nat.reduceLeDiff, Nat.reduceBEq, Nat.reduceBNe, reduceIte, if_true, if_false, Bool.false_and, Bool.true_and, Bool.and_true, Bool.and_false, Bool.not_false, Bool.not_true, Bool.false_eq_true, beq_self_eq_true, BEq.rfl, zCat1, zCat2, zCat3, zKdI, zKdL, zKdR, true_and, and_true, zSI, zSL, zSR, zu_at, and_self, and_false, false_and, lv_args, zKdZ, zKdO, zB01, zB11, Option.toList_none, Option.toList_some, List.nil_append, List.cons_append, true_or, or_true, zRow_rd, zu_rd, zo_aload_n, zo_getfield, zo_iload_n, zo_iaload, zo_i2l, zo_lreturn, zKd_8_4, zKd_4_2, sh_37, rf_37_4, sh_40, rf_40_4, sh_55, rf_55_2, sh_57, sh_71, rf_71_2, sh_73, zKn_0, (wsh_0 hW), (wsh_1 hW), (wsh_2 hW), (wsh_3 hW), (wrf_0 hW), (wrf_1 hW), (wrf_2 hW), (wrf_3 hW), (wrf_4 hW), Nat.add_left_cancel_iff, Nat.left_eq_add, Nat.add_eq_left, (psh_0 hp), (psh_1 hp), (psh_2 hp), (psh_3 hp), (psh_4 hp), (psh_5 hp), (psh_6 hp), (psh_7 hp), (psh_8 hp), (psh_9 hp), (psh_10 hp), (psh_11 hp), (psh_12 hp), (psh_13 hp), (psh_14 hp), (psh_15 hp), (prf_1 hp), (prf_2 hp), (prf_3 hp), (prf_4 hp), (prf_6 hp), (prf_7 hp), (prf_8 hp), (prf_10 hp), (prf_11 hp), (prf_12 hp), (prf_13 hp), (prf_15 hp), (prf_17 hp), (prf_18 hp), (prf_19 hp), Nat.add_left_cancel_iff, Nat.left_eq_add, Nat.add_eq_left, hv, vw, zCat2, nI_clamp (n := q) (by omega), zN10, zN01, not_true_eq_false, not_false_eq_true, false_implies, true_implies, implies_true, eq_self, nI_1, nI_40, nI_7, vz0, vz1, zb1_e0, zb1_n0]
    exact hQ
  | 1, _ =>
    refine zBlkR (M := mX8_nameValue) (nL := 3) (rt := (Option.some .long)) (blk := bX8_nameValue_0) (T := []) 0 hX8_nameValue_0 zChks_nil rfl rfl rfl (Nat.le_of_ble_eq_true rfl) (Nat.le_of_ble_eq_true rfl) ?_
    simp only [bX8_nameValue_0, zRun_cons, zRun_nil, zLk, zSto, zIns, zFil, zf0, zf1, zf2, zf3, List.filter_cons, List.filter_nil, Nat.reduceAdd, Nat.reduceEqDiff, Nat.reduceLT, Nat.reduceLeDiff, Nat.reduceBEq, Nat.reduceBNe, reduceIte, if_true, if_false, Bool.false_and, Bool.true_and, Bool.and_true, Bool.and_false, Bool.not_false, Bool.not_true, Bool.false_eq_true, beq_self_eq_true, BEq.rfl, zCat1, zCat2, zCat3, zKdI, zKdL, zKdR, true_and, and_true, zSI, zSL, zSR, zu_at, and_self, and_false, false_and, lv_args, zKdZ, zKdO, zB01, zB11, Option.toList_none, Option.toList_some, List.nil_append, List.cons_append, true_or, or_true, zRow_rd, zu_rd, zo_iload_n, zKn_0, zN10, zN01, not_true_eq_false, not_false_eq_true, false_implies, true_implies, implies_true, eq_self, nI_1, nI_40, nI_7, vz0, vz1, zb1_e0, zb1_n0]
    refine z_tsw (dt := 144) [(20, 44), (21, 55), (22, 66), (23, 79), (24, 113), (25, 124), (26, 135)] (by decide +kernel : decode cX8_nameValue 1 = .ok (.tableswitch 143 20 26 #[43, 54, 65, 78, 112, 123, 134], 43)) (by decide) (by decide) (by decide) (zSw_of (t := 55) (by decide) ?_)
    refine zBlkR (M := mX8_nameValue) (nL := 3) (rt := (Option.some .long)) (blk := bX8_nameValue_55) (T := []) 0 hX8_nameValue_55 zChks_nil rfl rfl rfl (Nat.le_of_ble_eq_true rfl) (Nat.le_of_ble_eq_true rfl) ?_
    simp only [bX8_nameValue_55, zRun_cons, zRun_nil, zLk, zSto, zIns, zFil, zf0, zf1, zf2, zf3, List.filter_cons, List.filter_nil, Nat.reduceAdd, Nat.reduceEqDiff, Nat.reduceLT, Nat.reduceLeDiff, Nat.reduceBEq, Nat.reduceBNe, reduceIte, if_true, if_false, Bool.false_and, Bool.true_and, Bool.and_true, Bool.and_false, Bool.not_false, Bool.not_true, Bool.false_eq_true, beq_self_eq_true, BEq.rfl, zCat1, zCat2, zCat3, zKdI, zKdL, zKdR, true_and, and_true, zSI, zSL, zSR, zu_at, and_self, and_false, false_and, lv_args, zKdZ, zKdO, zB01, zB11, Option.toList_none, Option.toList_some, List.nil_append, List.cons_append, true_or, or_true, zRow_rd, zu_rd, zo_aload_n, zo_getfield, zo_iload_n, zo_iaload, zo_i2l, zo_lreturn, zKd_8_4, zKd_4_3, sh_37, rf_37_4, sh_40, rf_40_4, sh_55, rf_55_3, sh_58, sh_71, rf_71_3, sh_74, zKn_0, (wsh_0 hW), (wsh_1 hW), (wsh_2 hW), (wsh_3 hW), (wrf_0 hW), (wrf_1 hW), (wrf_2 hW), (wrf_3 hW), (wrf_4 hW), Nat.add_left_cancel_iff, Nat.left_eq_add, Nat.add_eq_left, (psh_0 hp), (psh_1 hp), (psh_2 hp), (psh_3 hp), (psh_4 hp), (psh_5 hp), (psh_6 hp), (psh_7 hp), (psh_8 hp), (psh_9 hp), (psh_10 hp), (psh_11 hp), (psh_12 hp), (psh_13 hp), (psh_14 hp), (psh_15 hp), (prf_1 hp), (prf_2 hp), (prf_3 hp), (prf_4 hp), (prf_6 hp), (prf_7 hp), (prf_8 hp), (prf_10 hp), (prf_11 hp), (prf_12 hp), (prf_13 hp), (prf_15 hp), (prf_17 hp), (prf_18 hp), (prf_19 hp), Nat.add_left_cancel_iff, Nat.left_eq_add, Nat.add_eq_left, hv, fr, zCat2, nI_clamp (n := q) (by omega), zN10, zN01, not_true_eq_false, not_false_eq_true, false_implies, true_implies, implies_true, eq_self, nI_1, nI_40, nI_7, vz0, vz1, zb1_e0, zb1_n0]
    exact hQ
  | 2, _ =>
    refine zBlkR (M := mX8_nameValue) (nL := 3) (rt := (Option.some .long)) (blk := bX8_nameValue_0) (T := []) 0 hX8_nameValue_0 zChks_nil rfl rfl rfl (Nat.le_of_ble_eq_true rfl) (Nat.le_of_ble_eq_true rfl) ?_
    simp only [bX8_nameValue_0, zRun_cons, zRun_nil, zLk, zSto, zIns, zFil, zf0, zf1, zf2, zf3, List.filter_cons, List.filter_nil, Nat.reduceAdd, Nat.reduceEqDiff, Nat.reduceLT, Nat.reduceLeDiff, Nat.reduceBEq, Nat.reduceBNe, reduceIte, if_true, if_false, Bool.false_and, Bool.true_and, Bool.and_true, Bool.and_false, Bool.not_false, Bool.not_true, Bool.false_eq_true, beq_self_eq_true, BEq.rfl, zCat1, zCat2, zCat3, zKdI, zKdL, zKdR, true_and, and_true, zSI, zSL, zSR, zu_at, and_self, and_false, false_and, lv_args, zKdZ, zKdO, zB01, zB11, Option.toList_none, Option.toList_some, List.nil_append, List.cons_append, true_or, or_true, zRow_rd, zu_rd, zo_iload_n, zKn_0, zN10, zN01, not_true_eq_false, not_false_eq_true, false_implies, true_implies, implies_true, eq_self, nI_1, nI_40, nI_7, vz0, vz1, zb1_e0, zb1_n0]
    refine z_tsw (dt := 144) [(20, 44), (21, 55), (22, 66), (23, 79), (24, 113), (25, 124), (26, 135)] (by decide +kernel : decode cX8_nameValue 1 = .ok (.tableswitch 143 20 26 #[43, 54, 65, 78, 112, 123, 134], 43)) (by decide) (by decide) (by decide) (zSw_of (t := 66) (by decide) ?_)
    refine zBlkR (M := mX8_nameValue) (nL := 3) (rt := (Option.some .long)) (blk := bX8_nameValue_66) (T := []) 0 hX8_nameValue_66 zChks_nil rfl rfl rfl (Nat.le_of_ble_eq_true rfl) (Nat.le_of_ble_eq_true rfl) ?_
    simp only [bX8_nameValue_66, zRun_cons, zRun_nil, zLk, zSto, zIns, zFil, zf0, zf1, zf2, zf3, List.filter_cons, List.filter_nil, Nat.reduceAdd, Nat.reduceEqDiff, Nat.reduceLT, Nat.reduceLeDiff, Nat.reduceBEq, Nat.reduceBNe, reduceIte, if_true, if_false, Bool.false_and, Bool.true_and, Bool.and_true, Bool.and_false, Bool.not_false, Bool.not_true, Bool.false_eq_true, beq_self_eq_true, BEq.rfl, zCat1, zCat2, zCat3, zKdI, zKdL, zKdR, true_and, and_true, zSI, zSL, zSR, zu_at, and_self, and_false, false_and, lv_args, zKdZ, zKdO, zB01, zB11, Option.toList_none, Option.toList_some, List.nil_append, List.cons_append, true_or, or_true, zRow_rd, zu_rd, zo_aload_n, zKn_0, zN10, zN01, not_true_eq_false, not_false_eq_true, false_implies, true_implies, implies_true, eq_self, nI_1, nI_40, nI_7, vz0, vz1, zb1_e0, zb1_n0]
    refine z_cV0 (M' := mX8_skyNow) (R' := rX8_skyNow) (i := W) [] [] eX8_skyNow k8_43 (by decide +kernel : decode cX8_nameValue 67 = .ok (.invokevirtual 43, 3)) (Nat.le_of_ble_eq_true rfl) ⟨Nat.le_of_ble_eq_true rfl, Nat.le_of_ble_eq_true rfl, Nat.le_of_ble_eq_true rfl, Nat.le_of_ble_eq_true rfl, Nat.le_of_ble_eq_true rfl⟩ rfl rfl rfl (wsh_0 hW) ?_
    refine cl_skyNow hC ?_
    refine zBlkR (M := mX8_nameValue) (nL := 3) (rt := (Option.some .long)) (blk := bX8_nameValue_70) (T := [(77, bX8_nameValue_77), (78, bX8_nameValue_78)]) 1 hX8_nameValue_70 (zChks_cons hX8_nameValue_77 (zChks_cons hX8_nameValue_78 zChks_nil)) rfl rfl rfl (Nat.le_of_ble_eq_true rfl) (Nat.le_of_ble_eq_true rfl) ?_
    simp only [bX8_nameValue_70, bX8_nameValue_77, bX8_nameValue_78, zRun_cons, zRun_nil, zLk, zSto, zIns, zFil, zf0, zf1, zf2, zf3, List.filter_cons, List.filter_nil, Nat.reduceAdd, Nat.reduceEqDiff, Nat.reduceLT, Nat.reduceLeDiff, Nat.reduceBEq, Nat.reduceBNe, reduceIte, if_true, if_false, Bool.false_and, Bool.true_and, Bool.and_true, Bool.and_false, Bool.not_false, Bool.not_true, Bool.false_eq_true, beq_self_eq_true, BEq.rfl, zCat1, zCat2, zCat3, zKdI, zKdL, zKdR, true_and, and_true, zSI, zSL, zSR, zu_at, and_self, and_false, false_and, lv_args, zKdZ, zKdO, zB01, zB11, Option.toList_none, Option.toList_some, List.nil_append, List.cons_append, true_or, or_true, zRow_rd, zu_rd, zo_if_ne, zo_lconst, zo_goto, zo_lreturn, zl_1, zl_0, zKn_s, zKn_0, zFind, zCat2, zN10, zN01, not_true_eq_false, not_false_eq_true, false_implies, true_implies, implies_true, eq_self, nI_1, nI_40, nI_7, vz0, vz1, zb1_e0, zb1_n0]
    refine ⟨fun h => ?_, fun h => ?_⟩
    · have e : pNm P m t V q 2 = 0 := by simp [pNm, jNm, decide_eq_false h, zl1]
      rw [e] at hQ; exact hQ
    · have e : pNm P m t V q 2 = 1 := by simp [pNm, jNm, decide_eq_true h, zl1]
      rw [e] at hQ; exact hQ
  | 3, _ =>
    refine zBlkR (M := mX8_nameValue) (nL := 3) (rt := (Option.some .long)) (blk := bX8_nameValue_0) (T := []) 0 hX8_nameValue_0 zChks_nil rfl rfl rfl (Nat.le_of_ble_eq_true rfl) (Nat.le_of_ble_eq_true rfl) ?_
    simp only [bX8_nameValue_0, zRun_cons, zRun_nil, zLk, zSto, zIns, zFil, zf0, zf1, zf2, zf3, List.filter_cons, List.filter_nil, Nat.reduceAdd, Nat.reduceEqDiff, Nat.reduceLT, Nat.reduceLeDiff, Nat.reduceBEq, Nat.reduceBNe, reduceIte, if_true, if_false, Bool.false_and, Bool.true_and, Bool.and_true, Bool.and_false, Bool.not_false, Bool.not_true, Bool.false_eq_true, beq_self_eq_true, BEq.rfl, zCat1, zCat2, zCat3, zKdI, zKdL, zKdR, true_and, and_true, zSI, zSL, zSR, zu_at, and_self, and_false, false_and, lv_args, zKdZ, zKdO, zB01, zB11, Option.toList_none, Option.toList_some, List.nil_append, List.cons_append, true_or, or_true, zRow_rd, zu_rd, zo_iload_n, zKn_0, zN10, zN01, not_true_eq_false, not_false_eq_true, false_implies, true_implies, implies_true, eq_self, nI_1, nI_40, nI_7, vz0, vz1, zb1_e0, zb1_n0]
    refine z_tsw (dt := 144) [(20, 44), (21, 55), (22, 66), (23, 79), (24, 113), (25, 124), (26, 135)] (by decide +kernel : decode cX8_nameValue 1 = .ok (.tableswitch 143 20 26 #[43, 54, 65, 78, 112, 123, 134], 43)) (by decide) (by decide) (by decide) (zSw_of (t := 79) (by decide) ?_)
    refine zBlkR (M := mX8_nameValue) (nL := 3) (rt := (Option.some .long)) (blk := bX8_nameValue_79) (T := [(111, bX8_nameValue_111)]) 1 hX8_nameValue_79 (zChks_cons hX8_nameValue_111 zChks_nil) rfl rfl rfl (Nat.le_of_ble_eq_true rfl) (Nat.le_of_ble_eq_true rfl) ?_
    simp only [bX8_nameValue_79, bX8_nameValue_111, zRun_cons, zRun_nil, zLk, zSto, zIns, zFil, zf0, zf1, zf2, zf3, List.filter_cons, List.filter_nil, Nat.reduceAdd, Nat.reduceEqDiff, Nat.reduceLT, Nat.reduceLeDiff, Nat.reduceBEq, Nat.reduceBNe, reduceIte, if_true, if_false, Bool.false_and, Bool.true_and, Bool.and_true, Bool.and_false, Bool.not_false, Bool.not_true, Bool.false_eq_true, beq_self_eq_true, BEq.rfl, zCat1, zCat2, zCat3, zKdI, zKdL, zKdR, true_and, and_true, zSI, zSL, zSR, zu_at, and_self, and_false, false_and, lv_args, zKdZ, zKdO, zB01, zB11, Option.toList_none, Option.toList_some, List.nil_append, List.cons_append, true_or, or_true, zRow_rd, zu_rd, zo_aload_n, zo_getfield, zo_if_ne, zo_iload_n, zo_lconst, zo_lreturn, zl_0, zKd_8_1, zKd_6_4, zKd_8_4, zKd_8_0, zKd_2_10, sh_37, rf_37_1, sh_8, sh_40, rf_40_1, sh_9, rf_37_4, rf_40_4, rf_37_0, sh_10, rf_40_0, sh_19, sh_28, zKn_s, zKn_0, zFind, (wsh_0 hW), (wsh_1 hW), (wsh_2 hW), (wsh_3 hW), (wrf_0 hW), (wrf_1 hW), (wrf_2 hW), (wrf_3 hW), (wrf_4 hW), Nat.add_left_cancel_iff, Nat.left_eq_add, Nat.add_eq_left, (fsh_0 hB), (fsh_1 hB), (fsh_2 hB), (fsh_3 hB), (fsh_4 hB), (fsh_5 hB), (fsh_6 hB), (fsh_7 hB), (fsh_8 hB), (frf_0 hB), (frf_1 hB), (frf_2 hB), (frf_3 hB), (frf_4 hB), (frf_5 hB), (frf_6 hB), (frf_7 hB), Nat.add_left_cancel_iff, Nat.left_eq_add, Nat.add_eq_left, ht, m4, zCat2, zN10, zN01, not_true_eq_false, not_false_eq_true, false_implies, true_implies, implies_true, eq_self, nI_1, nI_40, nI_7, vz0, vz1, zb1_e0, zb1_n0]
    refine ⟨fun h => ?_, fun h => ?_⟩
    · have e : pNm P m t V q 3 = 0 := by simp [pNm, jNm, show mNb m = true by simpa using h, zl1]
      rw [e] at hQ; exact hQ
    · refine z_cV0 (M' := mX4_hasBand) (R' := rX4_hasBand) (i := p) [.int (nI q), .int (nI t)] [] eX4_hasBand k8_242 (by decide +kernel : decode cX8_nameValue 101 = .ok (.invokevirtual 242, 3)) (Nat.le_of_ble_eq_true rfl) ⟨Nat.le_of_ble_eq_true rfl, Nat.le_of_ble_eq_true rfl, Nat.le_of_ble_eq_true rfl, Nat.le_of_ble_eq_true rfl, Nat.le_of_ble_eq_true rfl⟩ rfl rfl rfl (psh_0 hp) ?_
      refine cl_hasBand hp hC.i9 hC.hO.2.2.2.2.1 ?_
      have e2 : zAny (oMusP (I (p + 8)) (I (p + 9)) (I (p + 10)) (nI q) (nI t)) (pNb P) = zAny (oMusP (pR P 98) (pR P 99) (pR P 100) (nI q) (nI t)) (pNb P) := by
        refine zAny_congr (fun c hc => ?_)
        obtain ⟨b1, b2, b3⟩ := hC.hP.2.2.2.2.1 c hc
        simp only [oMusP]
        rw [show I (p + 8) c = pR P 98 c from b1, show I (p + 9) c = pR P 99 c from b2, show I (p + 10) c = pR P 100 c from b3]
      rw [e2]
      refine zBlkR (M := mX8_nameValue) (nL := 3) (rt := (Option.some .long)) (blk := bX8_nameValue_104) (T := [(111, bX8_nameValue_111), (112, bX8_nameValue_112)]) 1 hX8_nameValue_104 (zChks_cons hX8_nameValue_111 (zChks_cons hX8_nameValue_112 zChks_nil)) rfl rfl rfl (Nat.le_of_ble_eq_true rfl) (Nat.le_of_ble_eq_true rfl) ?_
      simp only [bX8_nameValue_104, bX8_nameValue_111, bX8_nameValue_112, zRun_cons, zRun_nil, zLk, zSto, zIns, zFil, zf0, zf1, zf2, zf3, List.filter_cons, List.filter_nil, Nat.reduceAdd, Nat.reduceEqDiff, Nat.reduceLT, Nat.reduceLeDiff, Nat.reduceBEq, Nat.reduceBNe, reduceIte, if_true, if_false, Bool.false_and, Bool.true_and, Bool.and_true, Bool.and_false, Bool.not_false, Bool.not_true, Bool.false_eq_true, beq_self_eq_true, BEq.rfl, zCat1, zCat2, zCat3, zKdI, zKdL, zKdR, true_and, and_true, zSI, zSL, zSR, zu_at, and_self, and_false, false_and, lv_args, zKdZ, zKdO, zB01, zB11, Option.toList_none, Option.toList_some, List.nil_append, List.cons_append, true_or, or_true, zRow_rd, zu_rd, zo_if_eq, zo_lconst, zo_goto, zo_lreturn, zl_1, zl_0, zKn_s, zKn_0, zFind, zCat2, zN10, zN01, not_true_eq_false, not_false_eq_true, false_implies, true_implies, implies_true, eq_self, nI_1, nI_40, nI_7, vz0, vz1, zb1_e0, zb1_n0]
      refine ⟨fun g => ?_, fun g => ?_⟩
      · have e : pNm P m t V q 3 = 0 := by simp [pNm, jNm, h, g, zl1]
        rw [e] at hQ; exact hQ
      · have e : pNm P m t V q 3 = 1 := by simp [pNm, jNm, h, show zAny (oMusP (pR P 98) (pR P 99) (pR P 100) (nI q) (nI t)) (pNb P) = true by simpa using g, zl1]
        rw [e] at hQ; exact hQ
  | 4, _ =>
    refine zBlkR (M := mX8_nameValue) (nL := 3) (rt := (Option.some .long)) (blk := bX8_nameValue_0) (T := []) 0 hX8_nameValue_0 zChks_nil rfl rfl rfl (Nat.le_of_ble_eq_true rfl) (Nat.le_of_ble_eq_true rfl) ?_
    simp only [bX8_nameValue_0, zRun_cons, zRun_nil, zLk, zSto, zIns, zFil, zf0, zf1, zf2, zf3, List.filter_cons, List.filter_nil, Nat.reduceAdd, Nat.reduceEqDiff, Nat.reduceLT, Nat.reduceLeDiff, Nat.reduceBEq, Nat.reduceBNe, reduceIte, if_true, if_false, Bool.false_and, Bool.true_and, Bool.and_true, Bool.and_false, Bool.not_false, Bool.not_true, Bool.false_eq_true, beq_self_eq_true, BEq.rfl, zCat1, zCat2, zCat3, zKdI, zKdL, zKdR, true_and, and_true, zSI, zSL, zSR, zu_at, and_self, and_false, false_and, lv_args, zKdZ, zKdO, zB01, zB11, Option.toList_none, Option.toList_some, List.nil_append, List.cons_append, true_or, or_true, zRow_rd, zu_rd, zo_iload_n, zKn_0, zN10, zN01, not_true_eq_false, not_false_eq_true, false_implies, true_implies, implies_true, eq_self, nI_1, nI_40, nI_7, vz0, vz1, zb1_e0, zb1_n0]
    refine z_tsw (dt := 144) [(20, 44), (21, 55), (22, 66), (23, 79), (24, 113), (25, 124), (26, 135)] (by decide +kernel : decode cX8_nameValue 1 = .ok (.tableswitch 143 20 26 #[43, 54, 65, 78, 112, 123, 134], 43)) (by decide) (by decide) (by decide) (zSw_of (t := 113) (by decide) ?_)
    refine zBlkR (M := mX8_nameValue) (nL := 3) (rt := (Option.some .long)) (blk := bX8_nameValue_113) (T := []) 0 hX8_nameValue_113 zChks_nil rfl rfl rfl (Nat.le_of_ble_eq_true rfl) (Nat.le_of_ble_eq_true rfl) ?_
    simp only [bX8_nameValue_113, zRun_cons, zRun_nil, zLk, zSto, zIns, zFil, zf0, zf1, zf2, zf3, List.filter_cons, List.filter_nil, Nat.reduceAdd, Nat.reduceEqDiff, Nat.reduceLT, Nat.reduceLeDiff, Nat.reduceBEq, Nat.reduceBNe, reduceIte, if_true, if_false, Bool.false_and, Bool.true_and, Bool.and_true, Bool.and_false, Bool.not_false, Bool.not_true, Bool.false_eq_true, beq_self_eq_true, BEq.rfl, zCat1, zCat2, zCat3, zKdI, zKdL, zKdR, true_and, and_true, zSI, zSL, zSR, zu_at, and_self, and_false, false_and, lv_args, zKdZ, zKdO, zB01, zB11, Option.toList_none, Option.toList_some, List.nil_append, List.cons_append, true_or, or_true, zRow_rd, zu_rd, zo_aload_n, zo_getfield, zo_iload_n, zo_iaload, zo_i2l, zo_lreturn, zKd_8_0, zKd_2_6, sh_37, rf_37_0, sh_10, sh_40, rf_40_0, sh_19, rf_10_6, sh_17, rf_19_6, sh_26, sh_28, rf_28_6, sh_35, zKn_0, (wsh_0 hW), (wsh_1 hW), (wsh_2 hW), (wsh_3 hW), (wrf_0 hW), (wrf_1 hW), (wrf_2 hW), (wrf_3 hW), (wrf_4 hW), Nat.add_left_cancel_iff, Nat.left_eq_add, Nat.add_eq_left, (fsh_0 hB), (fsh_1 hB), (fsh_2 hB), (fsh_3 hB), (fsh_4 hB), (fsh_5 hB), (fsh_6 hB), (fsh_7 hB), (fsh_8 hB), (frf_0 hB), (frf_1 hB), (frf_2 hB), (frf_3 hB), (frf_4 hB), (frf_5 hB), (frf_6 hB), (frf_7 hB), Nat.add_left_cancel_iff, Nat.left_eq_add, Nat.add_eq_left, hv, o7, zCat2, nI_clamp (n := q) (by omega), zN10, zN01, not_true_eq_false, not_false_eq_true, false_implies, true_implies, implies_true, eq_self, nI_1, nI_40, nI_7, vz0, vz1, zb1_e0, zb1_n0]
    exact hQ
  | 5, _ =>
    refine zBlkR (M := mX8_nameValue) (nL := 3) (rt := (Option.some .long)) (blk := bX8_nameValue_0) (T := []) 0 hX8_nameValue_0 zChks_nil rfl rfl rfl (Nat.le_of_ble_eq_true rfl) (Nat.le_of_ble_eq_true rfl) ?_
    simp only [bX8_nameValue_0, zRun_cons, zRun_nil, zLk, zSto, zIns, zFil, zf0, zf1, zf2, zf3, List.filter_cons, List.filter_nil, Nat.reduceAdd, Nat.reduceEqDiff, Nat.reduceLT, Nat.reduceLeDiff, Nat.reduceBEq, Nat.reduceBNe, reduceIte, if_true, if_false, Bool.false_and, Bool.true_and, Bool.and_true, Bool.and_false, Bool.not_false, Bool.not_true, Bool.false_eq_true, beq_self_eq_true, BEq.rfl, zCat1, zCat2, zCat3, zKdI, zKdL, zKdR, true_and, and_true, zSI, zSL, zSR, zu_at, and_self, and_false, false_and, lv_args, zKdZ, zKdO, zB01, zB11, Option.toList_none, Option.toList_some, List.nil_append, List.cons_append, true_or, or_true, zRow_rd, zu_rd, zo_iload_n, zKn_0, zN10, zN01, not_true_eq_false, not_false_eq_true, false_implies, true_implies, implies_true, eq_self, nI_1, nI_40, nI_7, vz0, vz1, zb1_e0, zb1_n0]
    refine z_tsw (dt := 144) [(20, 44), (21, 55), (22, 66), (23, 79), (24, 113), (25, 124), (26, 135)] (by decide +kernel : decode cX8_nameValue 1 = .ok (.tableswitch 143 20 26 #[43, 54, 65, 78, 112, 123, 134], 43)) (by decide) (by decide) (by decide) (zSw_of (t := 124) (by decide) ?_)
    refine zBlkR (M := mX8_nameValue) (nL := 3) (rt := (Option.some .long)) (blk := bX8_nameValue_124) (T := []) 0 hX8_nameValue_124 zChks_nil rfl rfl rfl (Nat.le_of_ble_eq_true rfl) (Nat.le_of_ble_eq_true rfl) ?_
    simp only [bX8_nameValue_124, zRun_cons, zRun_nil, zLk, zSto, zIns, zFil, zf0, zf1, zf2, zf3, List.filter_cons, List.filter_nil, Nat.reduceAdd, Nat.reduceEqDiff, Nat.reduceLT, Nat.reduceLeDiff, Nat.reduceBEq, Nat.reduceBNe, reduceIte, if_true, if_false, Bool.false_and, Bool.true_and, Bool.and_true, Bool.and_false, Bool.not_false, Bool.not_true, Bool.false_eq_true, beq_self_eq_true, BEq.rfl, zCat1, zCat2, zCat3, zKdI, zKdL, zKdR, true_and, and_true, zSI, zSL, zSR, zu_at, and_self, and_false, false_and, lv_args, zKdZ, zKdO, zB01, zB11, Option.toList_none, Option.toList_some, List.nil_append, List.cons_append, true_or, or_true, zRow_rd, zu_rd, zo_aload_n, zo_getfield, zo_iload_n, zo_iaload, zo_i2l, zo_lreturn, zKd_8_0, zKd_2_5, sh_37, rf_37_0, sh_10, sh_40, rf_40_0, sh_19, rf_10_5, sh_16, rf_19_5, sh_25, sh_28, rf_28_5, sh_34, zKn_0, (wsh_0 hW), (wsh_1 hW), (wsh_2 hW), (wsh_3 hW), (wrf_0 hW), (wrf_1 hW), (wrf_2 hW), (wrf_3 hW), (wrf_4 hW), Nat.add_left_cancel_iff, Nat.left_eq_add, Nat.add_eq_left, (fsh_0 hB), (fsh_1 hB), (fsh_2 hB), (fsh_3 hB), (fsh_4 hB), (fsh_5 hB), (fsh_6 hB), (fsh_7 hB), (fsh_8 hB), (frf_0 hB), (frf_1 hB), (frf_2 hB), (frf_3 hB), (frf_4 hB), (frf_5 hB), (frf_6 hB), (frf_7 hB), Nat.add_left_cancel_iff, Nat.left_eq_add, Nat.add_eq_left, hv, o6, zCat2, nI_clamp (n := q) (by omega), zN10, zN01, not_true_eq_false, not_false_eq_true, false_implies, true_implies, implies_true, eq_self, nI_1, nI_40, nI_7, vz0, vz1, zb1_e0, zb1_n0]
    exact hQ
  | 6, _ =>
    refine zBlkR (M := mX8_nameValue) (nL := 3) (rt := (Option.some .long)) (blk := bX8_nameValue_0) (T := []) 0 hX8_nameValue_0 zChks_nil rfl rfl rfl (Nat.le_of_ble_eq_true rfl) (Nat.le_of_ble_eq_true rfl) ?_
    simp only [bX8_nameValue_0, zRun_cons, zRun_nil, zLk, zSto, zIns, zFil, zf0, zf1, zf2, zf3, List.filter_cons, List.filter_nil, Nat.reduceAdd, Nat.reduceEqDiff, Nat.reduceLT, Nat.reduceLeDiff, Nat.reduceBEq, Nat.reduceBNe, reduceIte, if_true, if_false, Bool.false_and, Bool.true_and, Bool.and_true, Bool.and_false, Bool.not_false, Bool.not_true, Bool.false_eq_true, beq_self_eq_true, BEq.rfl, zCat1, zCat2, zCat3, zKdI, zKdL, zKdR, true_and, and_true, zSI, zSL, zSR, zu_at, and_self, and_false, false_and, lv_args, zKdZ, zKdO, zB01, zB11, Option.toList_none, Option.toList_some, List.nil_append, List.cons_append, true_or, or_true, zRow_rd, zu_rd, zo_iload_n, zKn_0, zN10, zN01, not_true_eq_false, not_false_eq_true, false_implies, true_implies, implies_true, eq_self, nI_1, nI_40, nI_7, vz0, vz1, zb1_e0, zb1_n0]
    refine z_tsw (dt := 144) [(20, 44), (21, 55), (22, 66), (23, 79), (24, 113), (25, 124), (26, 135)] (by decide +kernel : decode cX8_nameValue 1 = .ok (.tableswitch 143 20 26 #[43, 54, 65, 78, 112, 123, 134], 43)) (by decide) (by decide) (by decide) (zSw_of (t := 144) (by decide) ?_)
    refine zBlkR (M := mX8_nameValue) (nL := 3) (rt := (Option.some .long)) (blk := bX8_nameValue_144) (T := []) 0 hX8_nameValue_144 zChks_nil rfl rfl rfl (Nat.le_of_ble_eq_true rfl) (Nat.le_of_ble_eq_true rfl) ?_
    simp only [bX8_nameValue_144, zRun_cons, zRun_nil, zLk, zSto, zIns, zFil, zf0, zf1, zf2, zf3, List.filter_cons, List.filter_nil, Nat.reduceAdd, Nat.reduceEqDiff, Nat.reduceLT, Nat.reduceLeDiff, Nat.reduceBEq, Nat.reduceBNe, reduceIte, if_true, if_false, Bool.false_and, Bool.true_and, Bool.and_true, Bool.and_false, Bool.not_false, Bool.not_true, Bool.false_eq_true, beq_self_eq_true, BEq.rfl, zCat1, zCat2, zCat3, zKdI, zKdL, zKdR, true_and, and_true, zSI, zSL, zSR, zu_at, and_self, and_false, false_and, lv_args, zKdZ, zKdO, zB01, zB11, Option.toList_none, Option.toList_some, List.nil_append, List.cons_append, true_or, or_true, zRow_rd, zu_rd, zo_aload_n, zo_getfield, zo_i2l, zo_lreturn, zKd_8_1, zKd_6_0, sh_37, rf_37_1, sh_8, sh_40, rf_40_1, sh_9, zKn_0, (wsh_0 hW), (wsh_1 hW), (wsh_2 hW), (wsh_3 hW), (wrf_0 hW), (wrf_1 hW), (wrf_2 hW), (wrf_3 hW), (wrf_4 hW), Nat.add_left_cancel_iff, Nat.left_eq_add, Nat.add_eq_left, m0, zCat2, zN10, zN01, not_true_eq_false, not_false_eq_true, false_implies, true_implies, implies_true, eq_self, nI_1, nI_40, nI_7, vz0, vz1, zb1_e0, zb1_n0]
    exact hQ
  | 7, _ =>
    refine zBlkR (M := mX8_nameValue) (nL := 3) (rt := (Option.some .long)) (blk := bX8_nameValue_0) (T := []) 0 hX8_nameValue_0 zChks_nil rfl rfl rfl (Nat.le_of_ble_eq_true rfl) (Nat.le_of_ble_eq_true rfl) ?_
    simp only [bX8_nameValue_0, zRun_cons, zRun_nil, zLk, zSto, zIns, zFil, zf0, zf1, zf2, zf3, List.filter_cons, List.filter_nil, Nat.reduceAdd, Nat.reduceEqDiff, Nat.reduceLT, Nat.reduceLeDiff, Nat.reduceBEq, Nat.reduceBNe, reduceIte, if_true, if_false, Bool.false_and, Bool.true_and, Bool.and_true, Bool.and_false, Bool.not_false, Bool.not_true, Bool.false_eq_true, beq_self_eq_true, BEq.rfl, zCat1, zCat2, zCat3, zKdI, zKdL, zKdR, true_and, and_true, zSI, zSL, zSR, zu_at, and_self, and_false, false_and, lv_args, zKdZ, zKdO, zB01, zB11, Option.toList_none, Option.toList_some, List.nil_append, List.cons_append, true_or, or_true, zRow_rd, zu_rd, zo_iload_n, zKn_0, zN10, zN01, not_true_eq_false, not_false_eq_true, false_implies, true_implies, implies_true, eq_self, nI_1, nI_40, nI_7, vz0, vz1, zb1_e0, zb1_n0]
    refine z_tsw (dt := 144) [(20, 44), (21, 55), (22, 66), (23, 79), (24, 113), (25, 124), (26, 135)] (by decide +kernel : decode cX8_nameValue 1 = .ok (.tableswitch 143 20 26 #[43, 54, 65, 78, 112, 123, 134], 43)) (by decide) (by decide) (by decide) (zSw_of (t := 135) (by decide) ?_)
    refine zBlkR (M := mX8_nameValue) (nL := 3) (rt := (Option.some .long)) (blk := bX8_nameValue_135) (T := []) 0 hX8_nameValue_135 zChks_nil rfl rfl rfl (Nat.le_of_ble_eq_true rfl) (Nat.le_of_ble_eq_true rfl) ?_
    simp only [bX8_nameValue_135, zRun_cons, zRun_nil, zLk, zSto, zIns, zFil, zf0, zf1, zf2, zf3, List.filter_cons, List.filter_nil, Nat.reduceAdd, Nat.reduceEqDiff, Nat.reduceLT, Nat.reduceLeDiff, Nat.reduceBEq, Nat.reduceBNe, reduceIte, if_true, if_false, Bool.false_and, Bool.true_and, Bool.and_true, Bool.and_false, Bool.not_false, Bool.not_true, Bool.false_eq_true, beq_self_eq_true, BEq.rfl, zCat1, zCat2, zCat3, zKdI, zKdL, zKdR, true_and, and_true, zSI, zSL, zSR, zu_at, and_self, and_false, false_and, lv_args, zKdZ, zKdO, zB01, zB11, Option.toList_none, Option.toList_some, List.nil_append, List.cons_append, true_or, or_true, zRow_rd, zu_rd, zo_aload_n, zo_getfield, zo_i2l, zo_lreturn, zKd_8_0, zKd_2_10, sh_37, rf_37_0, sh_10, sh_40, rf_40_0, sh_19, sh_28, zKn_0, (wsh_0 hW), (wsh_1 hW), (wsh_2 hW), (wsh_3 hW), (wrf_0 hW), (wrf_1 hW), (wrf_2 hW), (wrf_3 hW), (wrf_4 hW), Nat.add_left_cancel_iff, Nat.left_eq_add, Nat.add_eq_left, (fsh_0 hB), (fsh_1 hB), (fsh_2 hB), (fsh_3 hB), (fsh_4 hB), (fsh_5 hB), (fsh_6 hB), (fsh_7 hB), (fsh_8 hB), (frf_0 hB), (frf_1 hB), (frf_2 hB), (frf_3 hB), (frf_4 hB), (frf_5 hB), (frf_6 hB), (frf_7 hB), Nat.add_left_cancel_iff, Nat.left_eq_add, Nat.add_eq_left, ht, zCat2, zN10, zN01, not_true_eq_false, not_false_eq_true, false_implies, true_implies, implies_true, eq_self, nI_1, nI_40, nI_7, vz0, vz1, zb1_e0, zb1_n0]
    exact hQ
end ZV66
