/-! ===== THE CLASS: sitters come; the boy asks ===== -/
section ZC69
variable {w : zP} {Q : Option Value → zMem → Prop} {μ : zMem} {I J V V' : Nat → Nat → Int32} {L : Nat → Nat → Int64} {p s W B T t : Nat} {r : Option Nat} {P : oPn} {m : oTm} {c i k q wh ch : Nat} {x till : Int32}
theorem zFC_same (hF : zFC B I ch V) (hv : vC B J = V') (h1 : ∀ c, V' 1 c = V 1 c) (h2 : ∀ c, V' 2 c = V 2 c) (h8 : J B 8 = I B 8) (h9 : J B 9 = I B 9) (h6 : ∀ q, J (B + 6) q = I (B + 6) q) (h7 : ∀ q, J (B + 7) q = I (B + 7) q) : zFC B J ch V' := by
  have o1 : ∀ y x, oCnt V' y x ch = oCnt V y x ch := fun y x => by unfold oCnt; simp only [h1, h2]
  have o2 : oStk V' ch = oStk V ch := by unfold oStk; simp only [h1]
  obtain ⟨a1, a2, a3, a4, a5⟩ := hF
  refine ⟨hv, by rw [h8, a2], fun q hq => by rw [h6, o1, a3 q hq], fun q hq => by rw [h7, o1, a4 q hq], by rw [h9, o2, a5]⟩
theorem oComers_congr {f g f' g' : Nat → Int32} {ab t : Int32} : ∀ {n : Nat}, (∀ k, k < n → f k = f' k ∧ g k = g' k) → oComers f g ab t n = oComers f' g' ab t n
  | 0, _ => rfl
  | n + 1, h => by rw [oComers, oComers, oComers_congr (fun k hk => h k (by omega)), (h n (by omega)).1, (h n (by omega)).2]
theorem oComers_le {f g : Nat → Int32} {ab t : Int32} : ∀ {n : Nat}, (∀ k, k < n → ∃ m, m ≤ 20 ∧ g k = nI m) → oComers f g ab t n ≤ 20 * n
  | 0, _ => Nat.le_refl _
  | n + 1, h => by
    have ih := oComers_le (f := f) (ab := ab) (t := t) (fun k hk => h k (Nat.lt_succ_of_lt hk))
    obtain ⟨m, hm, e⟩ := h n (by omega)
    rw [oComers, e, nI_clamp (by omega)]
    split <;> omega
theorem oCnt_8 {k : Nat} {y x : Int32} {z : Int32} : oCnt (zu V 8 k z) y x ch = oCnt V y x ch := by unfold oCnt; simp [zu_at]
theorem oCm_8 {k : Nat} {z : Int32} (h : oBest (pOp P m V) (pWt P m t V) (pNp P) = none) : oBest (pOp P m (zu V 8 k z)) (pWt P m t (zu V 8 k z)) (pNp P) = none := by
  have e1 : pOp P m (zu V 8 k z) = pOp P m V := by funext q; simp only [pOp, oOpen, oCnt_8]
  have e2 : pWt P m t (zu V 8 k z) = pWt P m t V := by funext q; simp only [pWt, oWthV, oCnt_8]
  rw [e1, e2]; exact h
theorem oCm_none (h : oBest (pOp P m V) (pWt P m t V) (pNp P) = none) : oCm P m t V = zu V 8 4 (V 8 4 + 1) := by
  have h' : oBest (oOpen V (mSh m) (pCh P)) (oWthV (lwP P m (nI t)) (pTold P 0) (pR P 91) (pCh P) V) (pNp P) = none := h
  unfold oCm oCome
  rw [h']
theorem oCm_some {q : Nat × Int64} (h : oBest (pOp P m V) (pWt P m t V) (pNp P) = some q) : oCm P m t V = oSeat (nI t + oBL (pLw P m t V 1 q.1) 8 1 95) (zFst (oFree V q.1) (pCh P)) V := by
  have h' : oBest (oOpen V (mSh m) (pCh P)) (oWthV (lwP P m (nI t)) (pTold P 0) (pR P 91) (pCh P) V) (pNp P) = some q := h
  unfold oCm oCome
  rw [h']
  rfl
theorem oCm_wall {U : Nat → Nat → Int32} (hU : zIter (fun _ => oCm P m t) k V = U) (h : oBest (pOp P m U) (pWt P m t U) (pNp P) = none) : ∀ j, zIter (fun _ => oCm P m t) (k + j) V = zu U 8 4 (U 8 4 + nI j)
  | 0 => by rw [Nat.add_zero, hU, nI_0, Int32.add_zero, zu_self]
  | j + 1 => by
    rw [show k + (j + 1) = (k + j) + 1 from rfl, zIter, oCm_wall hU h j, oCm_none (oCm_8 h), nI_s1]
    funext a b
    simp only [zu_at]
    split <;> simp
theorem oCnt_seat (hc : c < ch) (h2 : V 2 c = nI q) (hq : q < 5) {q' : Nat} (hq' : q' < 5) (hne : q' ≠ q) : oCnt (oSeat till c V) (nI q') x ch = oCnt V (nI q') x ch := by
  have := oCnt_mv (V := V) (V' := oSeat till c V) hc (fun d hd => by simp [oSeat, zu_at, hd]) (fun d hd => by simp [oSeat, zu_at]) (nI q') x
  have e2 : oSeat till c V 2 c = nI q := by simp [oSeat, zu_at, h2]
  simp only [h2, e2, nI_q hq hq', Ne.symm hne, and_false, if_false] at this
  exact this
set_option maxRecDepth 20000 in
theorem cl_letSittersCome (hw : zOk w) (hC : zCw I W B T p P m t V) (hQ : ∀ I' L', zKpt (zFB B) I I' → zKpt (zWS2 W) L L' → zCw I' W B T p P m t (zIter (fun _ => oCm P m t) (pComers P (mAb m) (nI t) (pNc P)) V) → Q none (SH, I', L', RF p s r)) : zXM w mX8_letSittersCome rX8_letSittersCome [.ref W] (SH, I, L, RF p s r) Q := by
  unfold zXM
  have hW := hC.hW
  have hB := wB hW
  have hp := hC.hp
  have hnp := hC.np
  have hch := hC.ch
  have ht := hC.ht
  have m8 := hC.hM.2.2.2.2.2.2.2
  have hnc := hC.hO.2.2.1
  have h95 := hC.hO.2.2.2.2.2.2.2
  have hrows := hC.hP.2.2.1
  have i0 := hC.i0
  refine zBlkR (M := mX8_letSittersCome) (nL := 4) (rt := (Option.none : Option Jvm.ClassFile.FieldType)) (blk := bX8_letSittersCome_0) (T := []) 0 hX8_letSittersCome_0 zChks_nil rfl rfl rfl (Nat.le_of_ble_eq_true rfl) (Nat.le_of_ble_eq_true rfl) ?_
  simp only [bX8_letSittersCome_0, zRun_cons, zRun_nil, zLk, zSto, zIns, zFil, zf0, zf1, zf2, zf3, List.filter_cons, List.filter_nil, Nat.reduceAdd, Nat.reduceEqDiff, Nat.reduceLT, Nat.reduceLeDiff, Nat.reduceBEq, Nat.reduceBNe, reduceIte, if_true, if_false, Bool.false_and, Bool.true_and, Bool.and_true, Bool.and_false, Bool.not_false, Bool.not_true, Bool.false_eq_true, beq_self_eq_true, BEq.rfl, zCat1, zCat2, zCat3, zKdI, zKdL, zKdR, true_and, and_true, zSI, zSL, zSR, zu_at, and_self, and_false, false_and, lv_args, zKdZ, zKdO, zB01, zB11, Option.toList_none, Option.toList_some, List.nil_append, List.cons_append, true_or, or_true, zRow_rd, zu_rd, zo_aload_n, zo_getfield, zKd_8_4, zKd_8_0, zKd_2_10, zKd_8_1, zKd_6_8, sh_37, rf_37_4, sh_40, rf_40_4, rf_37_0, sh_10, rf_40_0, sh_19, sh_28, rf_37_1, sh_8, rf_40_1, sh_9, zKn_0, (wsh_0 hW), (wsh_1 hW), (wsh_2 hW), (wsh_3 hW), (wrf_0 hW), (wrf_1 hW), (wrf_2 hW), (wrf_3 hW), (wrf_4 hW), Nat.add_left_cancel_iff, Nat.left_eq_add, Nat.add_eq_left, (fsh_0 hB), (fsh_1 hB), (fsh_2 hB), (fsh_3 hB), (fsh_4 hB), (fsh_5 hB), (fsh_6 hB), (fsh_7 hB), (fsh_8 hB), (frf_0 hB), (frf_1 hB), (frf_2 hB), (frf_3 hB), (frf_4 hB), (frf_5 hB), (frf_6 hB), (frf_7 hB), Nat.add_left_cancel_iff, Nat.left_eq_add, Nat.add_eq_left, ht, m8, zN10, zN01, not_true_eq_false, not_false_eq_true, false_implies, true_implies, implies_true, eq_self, nI_1, nI_40, nI_7, vz0, vz1, zb1_e0, zb1_n0]
  refine z_cV0 (M' := mX4_comersOn) (R' := rX4_comersOn) (i := p) [.int (nI t), .int (mAb m)] [] eX4_comersOn k8_126 (by decide +kernel : decode cX8_letSittersCome 18 = .ok (.invokevirtual 126, 3)) (Nat.le_of_ble_eq_true rfl) ⟨Nat.le_of_ble_eq_true rfl, Nat.le_of_ble_eq_true rfl, Nat.le_of_ble_eq_true rfl, Nat.le_of_ble_eq_true rfl, Nat.le_of_ble_eq_true rfl⟩ rfl rfl rfl (psh_0 hp) ?_
  refine cl_comersOn hp hC.i5 hnc (fun k hk => ?_) ?_
  · obtain ⟨n, hn, e⟩ := h95 k hk
    exact ⟨n, hn, by rw [show I (p + 6) k = pR P 95 k from (hrows k hk).2, e]⟩
  have eN : oComers (I (p + 5)) (I (p + 6)) (mAb m) (nI t) (pNc P) = pComers P (mAb m) (nI t) (pNc P) := oComers_congr (fun k hk => hrows k hk)
  rw [eN]
  have hN : pComers P (mAb m) (nI t) (pNc P) ≤ 20 * pNc P := oComers_le h95
  generalize pComers P (mAb m) (nI t) (pNc P) = N at *
  refine zBlkR (M := mX8_letSittersCome) (nL := 4) (rt := (Option.none : Option Jvm.ClassFile.FieldType)) (blk := bX8_letSittersCome_21) (T := []) 0 hX8_letSittersCome_21 zChks_nil rfl rfl rfl (Nat.le_of_ble_eq_true rfl) (Nat.le_of_ble_eq_true rfl) ?_
  simp only [bX8_letSittersCome_21, zRun_cons, zRun_nil, zLk, zSto, zIns, zFil, zf0, zf1, zf2, zf3, List.filter_cons, List.filter_nil, Nat.reduceAdd, Nat.reduceEqDiff, Nat.reduceLT, Nat.reduceLeDiff, Nat.reduceBEq, Nat.reduceBNe, reduceIte, if_true, if_false, Bool.false_and, Bool.true_and, Bool.and_true, Bool.and_false, Bool.not_false, Bool.not_true, Bool.false_eq_true, beq_self_eq_true, BEq.rfl, zCat1, zCat2, zCat3, zKdI, zKdL, zKdR, true_and, and_true, zSI, zSL, zSR, zu_at, and_self, and_false, false_and, lv_args, zKdZ, zKdO, zB01, zB11, Option.toList_none, Option.toList_some, List.nil_append, List.cons_append, true_or, or_true, zRow_rd, zu_rd, zo_istore_n, zo_iconst, zi_0, zcl_0, zKn_0, zN10, zN01, not_true_eq_false, not_false_eq_true, false_implies, true_implies, implies_true, eq_self, nI_1, nI_40, nI_7, vz0, vz1, zb1_e0, zb1_n0]
  -- the comers, one after the other
  have come : ∀ K, zKpt (zWS2 W) L K → (0 < N → ∀ q, q < pNp P → oCnt V (nI q) 1 (pCh P) ≠ 0 → K (W + 2) q = pWt P m t V q) → zX w mX8_letSittersCome rX8_letSittersCome Q 0 0 52 [(0, Value.ref W), (1, Value.int (nI N)), (2, Value.int (nI 0))] [] (SH, I, K, RF p s r) := by
    intro K0 hK0 hwt0
    refine zLoop (n := N) (P := fun k => ∀ J K, zKpt (zFB B) I J → zKpt (zWS2 W) L K → zCw J W B T p P m t (zIter (fun _ => oCm P m t) k V) → (k < N → ∀ q, q < pNp P → oCnt (zIter (fun _ => oCm P m t) k V) (nI q) 1 (pCh P) ≠ 0 → K (W + 2) q = pWt P m t (zIter (fun _ => oCm P m t) k V) q) → zX w mX8_letSittersCome rX8_letSittersCome Q 0 0 52 [(0, Value.ref W), (1, Value.int (nI N)), (2, Value.int (nI k))] [] (SH, J, K, RF p s r)) (fun k hk ih => ?_) 0 (Nat.zero_le _) I K0 zKpt_rfl hK0 hC hwt0
    intro J K hJ hK hCJ hwt
    by_cases hkN : k = N
    · subst hkN
      refine zBlkR (M := mX8_letSittersCome) (nL := 4) (rt := (Option.none : Option Jvm.ClassFile.FieldType)) (blk := bX8_letSittersCome_52) (T := [(115, bX8_letSittersCome_115)]) 1 hX8_letSittersCome_52 (zChks_cons hX8_letSittersCome_115 zChks_nil) rfl rfl rfl (Nat.le_of_ble_eq_true rfl) (Nat.le_of_ble_eq_true rfl) ?_
      simp only [bX8_letSittersCome_52, bX8_letSittersCome_115, zRun_cons, zRun_nil, zLk, zSto, zIns, zFil, zf0, zf1, zf2, zf3, List.filter_cons, List.filter_nil, Nat.reduceAdd, Nat.reduceEqDiff, Nat.reduceLT, Nat.reduceLeDiff, Nat.reduceBEq, Nat.reduceBNe, reduceIte, if_true, if_false, Bool.false_and, Bool.true_and, Bool.and_true, Bool.and_false, Bool.not_false, Bool.not_true, Bool.false_eq_true, beq_self_eq_true, BEq.rfl, zCat1, zCat2, zCat3, zKdI, zKdL, zKdR, true_and, and_true, zSI, zSL, zSR, zu_at, and_self, and_false, false_and, lv_args, zKdZ, zKdO, zB01, zB11, Option.toList_none, Option.toList_some, List.nil_append, List.cons_append, true_or, or_true, zRow_rd, zu_rd, zo_iload_n, zo_icmp_ge, zo_aload_n, zo_return_, zKn_s, zKn_0, zFind, zle_nat (a := k) (b := k) (by omega) (by omega), Nat.le_refl, zN10, zN01, not_true_eq_false, not_false_eq_true, false_implies, true_implies, implies_true, eq_self, nI_1, nI_40, nI_7, vz0, vz1, zb1_e0, zb1_n0]
      exact hQ J K hJ hK hCJ
    have hx : (nI N ≤ nI k) = False := eq_false (by rw [zle_nat (by omega) (by omega)]; omega)
    have hwt := hwt (by omega)
    have ih := ih (by omega)
    have ihU : zIter (fun _ => oCm P m t) (k + 1) V = oCm P m t (zIter (fun _ => oCm P m t) k V) := rfl
    rw [ihU] at ih
    generalize hU : zIter (fun _ => oCm P m t) k V = U at *
    refine zBlkR (M := mX8_letSittersCome) (nL := 4) (rt := (Option.none : Option Jvm.ClassFile.FieldType)) (blk := bX8_letSittersCome_52) (T := [(115, bX8_letSittersCome_115)]) 1 hX8_letSittersCome_52 (zChks_cons hX8_letSittersCome_115 zChks_nil) rfl rfl rfl (Nat.le_of_ble_eq_true rfl) (Nat.le_of_ble_eq_true rfl) ?_
    simp only [bX8_letSittersCome_52, bX8_letSittersCome_115, zRun_cons, zRun_nil, zLk, zSto, zIns, zFil, zf0, zf1, zf2, zf3, List.filter_cons, List.filter_nil, Nat.reduceAdd, Nat.reduceEqDiff, Nat.reduceLT, Nat.reduceLeDiff, Nat.reduceBEq, Nat.reduceBNe, reduceIte, if_true, if_false, Bool.false_and, Bool.true_and, Bool.and_true, Bool.and_false, Bool.not_false, Bool.not_true, Bool.false_eq_true, beq_self_eq_true, BEq.rfl, zCat1, zCat2, zCat3, zKdI, zKdL, zKdR, true_and, and_true, zSI, zSL, zSR, zu_at, and_self, and_false, false_and, lv_args, zKdZ, zKdO, zB01, zB11, Option.toList_none, Option.toList_some, List.nil_append, List.cons_append, true_or, or_true, zRow_rd, zu_rd, zo_iload_n, zo_icmp_ge, zo_aload_n, zo_return_, zKn_s, zKn_0, zFind, hx, zN10, zN01, not_true_eq_false, not_false_eq_true, false_implies, true_implies, implies_true, eq_self, nI_1, nI_40, nI_7, vz0, vz1, zb1_e0, zb1_n0]
    refine z_cV0 (M' := mX8_dearestPlace) (R' := rX8_dearestPlace) (i := W) [] [] eX8_dearestPlace k8_133 (by decide +kernel : decode cX8_letSittersCome 58 = .ok (.invokevirtual 133, 3)) (Nat.le_of_ble_eq_true rfl) ⟨Nat.le_of_ble_eq_true rfl, Nat.le_of_ble_eq_true rfl, Nat.le_of_ble_eq_true rfl, Nat.le_of_ble_eq_true rfl, Nat.le_of_ble_eq_true rfl⟩ rfl rfl rfl (wsh_0 hW) ?_
    refine cl_dearest hCJ hwt ?_
    cases ho : oBest (pOp P m U) (pWt P m t U) (pNp P) with
    | none =>
      have hb : oBI (none : Option (Nat × Int64)) = -1 := rfl
      have x1 : nI N - nI k = nI (N - k) := pk_sub hk
      have f8 := hCJ.hF.v8 (c := 4) (by omega)
      refine zBlkR (M := mX8_letSittersCome) (nL := 4) (rt := (Option.none : Option Jvm.ClassFile.FieldType)) (blk := bX8_letSittersCome_61) (T := [(83, bX8_letSittersCome_83)]) 1 hX8_letSittersCome_61 (zChks_cons hX8_letSittersCome_83 zChks_nil) rfl rfl rfl (Nat.le_of_ble_eq_true rfl) (Nat.le_of_ble_eq_true rfl) ?_
      simp only [bX8_letSittersCome_61, bX8_letSittersCome_83, zRun_cons, zRun_nil, zLk, zSto, zIns, zFil, zf0, zf1, zf2, zf3, List.filter_cons, List.filter_nil, Nat.reduceAdd, Nat.reduceEqDiff, Nat.reduceLT, Nat.reduceLeDiff, Nat.reduceBEq, Nat.reduceBNe, reduceIte, if_true, if_false, Bool.false_and, Bool.true_and, Bool.and_true, Bool.and_false, Bool.not_false, Bool.not_true, Bool.false_eq_true, beq_self_eq_true, BEq.rfl, zCat1, zCat2, zCat3, zKdI, zKdL, zKdR, true_and, and_true, zSI, zSL, zSR, zu_at, and_self, and_false, false_and, lv_args, zKdZ, zKdO, zB01, zB11, Option.toList_none, Option.toList_some, List.nil_append, List.cons_append, true_or, or_true, zRow_rd, zu_rd, zo_istore_n, zo_iload_n, zo_iconst, zo_icmp_ne, zo_aload_n, zo_getfield, zo_dup2, zo_dup2_2, zo_iaload, zo_isub, zo_iadd, zo_iastore, zo_return_, zi_m1, zi_4, zKd_8_0, zKd_2_7, zKd_2_10, sh_37, rf_37_0, sh_10, sh_40, rf_40_0, sh_19, rf_10_7, sh_18, rf_19_7, sh_27, sh_28, rf_28_7, sh_36, zcl_4, zvi_4_7, zKn_s, zKn_0, zFind, (wsh_0 hW), (wsh_1 hW), (wsh_2 hW), (wsh_3 hW), (wrf_0 hW), (wrf_1 hW), (wrf_2 hW), (wrf_3 hW), (wrf_4 hW), Nat.add_left_cancel_iff, Nat.left_eq_add, Nat.add_eq_left, (fsh_0 hB), (fsh_1 hB), (fsh_2 hB), (fsh_3 hB), (fsh_4 hB), (fsh_5 hB), (fsh_6 hB), (fsh_7 hB), (fsh_8 hB), (frf_0 hB), (frf_1 hB), (frf_2 hB), (frf_3 hB), (frf_4 hB), (frf_5 hB), (frf_6 hB), (frf_7 hB), Nat.add_left_cancel_iff, Nat.left_eq_add, Nat.add_eq_left, hb, x1, f8, zvi_4_7, zN10, zN01, not_true_eq_false, not_false_eq_true, false_implies, true_implies, implies_true, eq_self, nI_1, nI_40, nI_7, vz0, vz1, zb1_e0, zb1_n0]
      have hk1 : zKpt (zFB B) J (zu J (B + 8) 4 (U 8 4 + nI (N - k))) := zKpt_rfl.u (by unfold zFB; omega)
      have e : zIter (fun _ => oCm P m t) N V = zu U 8 4 (U 8 4 + nI (N - k)) := by
        have := oCm_wall hU ho (N - k)
        rw [show k + (N - k) = N by omega] at this
        exact this
      refine hQ _ K (hJ.trans hk1) hK ?_
      rw [e]
      refine zCw_u hCJ hk1 (zFC_same hCJ.hF ?_ ?_ ?_ ?_ ?_ ?_ ?_) (oOk_s8 hCJ.ok)
      · rw [vC_u8 (by omega), hCJ.hF.1]
      · intro c; simp [zu_at]
      · intro c; simp [zu_at]
      · simp [zu_at]
      · simp [zu_at]
      · intro q; simp [zu_at]
      · intro q; simp [zu_at]
    | some d =>
      obtain ⟨d1, d2, d3⟩ := oBest_lt ho
      have hf := oOpen_fst d2
      have hfr := oFree_1 (zFst_lt hf)
      have hb : oBI (some d) = nI d.1 := rfl
      have hn1 : (nI d.1 = -1) = False := eq_false (fun g => by
        have h0 : ¬ nI d.1 < 0 := nI_nn (by omega)
        rw [g] at h0; exact h0 (by decide))
      have htJ := hCJ.ht
      rw [oCm_some ho] at ih
      refine zBlkR (M := mX8_letSittersCome) (nL := 4) (rt := (Option.none : Option Jvm.ClassFile.FieldType)) (blk := bX8_letSittersCome_61) (T := [(83, bX8_letSittersCome_83)]) 1 hX8_letSittersCome_61 (zChks_cons hX8_letSittersCome_83 zChks_nil) rfl rfl rfl (Nat.le_of_ble_eq_true rfl) (Nat.le_of_ble_eq_true rfl) ?_
      simp only [bX8_letSittersCome_61, bX8_letSittersCome_83, zRun_cons, zRun_nil, zLk, zSto, zIns, zFil, zf0, zf1, zf2, zf3, List.filter_cons, List.filter_nil, Nat.reduceAdd, Nat.reduceEqDiff, Nat.reduceLT, Nat.reduceLeDiff, Nat.reduceBEq, Nat.reduceBNe, reduceIte, if_true, if_false, Bool.false_and, Bool.true_and, Bool.and_true, Bool.and_false, Bool.not_false, Bool.not_true, Bool.false_eq_true, beq_self_eq_true, BEq.rfl, zCat1, zCat2, zCat3, zKdI, zKdL, zKdR, true_and, and_true, zSI, zSL, zSR, zu_at, and_self, and_false, false_and, lv_args, zKdZ, zKdO, zB01, zB11, Option.toList_none, Option.toList_some, List.nil_append, List.cons_append, true_or, or_true, zRow_rd, zu_rd, zo_istore_n, zo_iload_n, zo_iconst, zo_icmp_ne, zo_aload_n, zo_getfield, zo_dup2, zo_dup2_2, zo_iaload, zo_isub, zo_iadd, zo_iastore, zo_return_, zi_m1, zi_4, zKd_8_0, zKd_2_7, zKd_2_10, sh_37, rf_37_0, sh_10, sh_40, rf_40_0, sh_19, rf_10_7, sh_18, rf_19_7, sh_27, sh_28, rf_28_7, sh_36, zcl_4, zvi_4_7, zKn_s, zKn_0, zFind, (wsh_0 hW), (wsh_1 hW), (wsh_2 hW), (wsh_3 hW), (wrf_0 hW), (wrf_1 hW), (wrf_2 hW), (wrf_3 hW), (wrf_4 hW), Nat.add_left_cancel_iff, Nat.left_eq_add, Nat.add_eq_left, (fsh_0 hB), (fsh_1 hB), (fsh_2 hB), (fsh_3 hB), (fsh_4 hB), (fsh_5 hB), (fsh_6 hB), (fsh_7 hB), (fsh_8 hB), (frf_0 hB), (frf_1 hB), (frf_2 hB), (frf_3 hB), (frf_4 hB), (frf_5 hB), (frf_6 hB), (frf_7 hB), Nat.add_left_cancel_iff, Nat.left_eq_add, Nat.add_eq_left, hb, hn1, htJ, zN10, zN01, not_true_eq_false, not_false_eq_true, false_implies, true_implies, implies_true, eq_self, nI_1, nI_40, nI_7, vz0, vz1, zb1_e0, zb1_n0]
      refine z_cV0 (M' := mX8_stayAt) (R' := rX8_stayAt) (i := W) [.int (nI d.1)] [.int (nI t), .int (nI d.1), .ref B] eX8_stayAt k8_136 (by decide +kernel : decode cX8_letSittersCome 97 = .ok (.invokevirtual 136, 3)) (Nat.le_of_ble_eq_true rfl) ⟨Nat.le_of_ble_eq_true rfl, Nat.le_of_ble_eq_true rfl, Nat.le_of_ble_eq_true rfl, Nat.le_of_ble_eq_true rfl, Nat.le_of_ble_eq_true rfl⟩ rfl rfl rfl (wsh_0 hW) ?_
      refine cl_stayAt hw hCJ d1 (fun L1 k1 => ?_)
      refine zBlkR (M := mX8_letSittersCome) (nL := 4) (rt := (Option.none : Option Jvm.ClassFile.FieldType)) (blk := bX8_letSittersCome_100) (T := []) 0 hX8_letSittersCome_100 zChks_nil rfl rfl rfl (Nat.le_of_ble_eq_true rfl) (Nat.le_of_ble_eq_true rfl) ?_
      simp only [bX8_letSittersCome_100, zRun_cons, zRun_nil, zLk, zSto, zIns, zFil, zf0, zf1, zf2, zf3, List.filter_cons, List.filter_nil, Nat.reduceAdd, Nat.reduceEqDiff, Nat.reduceLT, Nat.reduceLeDiff, Nat.reduceBEq, Nat.reduceBNe, reduceIte, if_true, if_false, Bool.false_and, Bool.true_and, Bool.and_true, Bool.and_false, Bool.not_false, Bool.not_true, Bool.false_eq_true, beq_self_eq_true, BEq.rfl, zCat1, zCat2, zCat3, zKdI, zKdL, zKdR, true_and, and_true, zSI, zSL, zSR, zu_at, and_self, and_false, false_and, lv_args, zKdZ, zKdO, zB01, zB11, Option.toList_none, Option.toList_some, List.nil_append, List.cons_append, true_or, or_true, zRow_rd, zu_rd, zo_iadd, zKn_0, zN10, zN01, not_true_eq_false, not_false_eq_true, false_implies, true_implies, implies_true, eq_self, nI_1, nI_40, nI_7, vz0, vz1, zb1_e0, zb1_n0]
      refine z_cV0 (M' := mX2_seatOne) (R' := rX2_seatOne) (i := B) [.int (nI d.1), .int (nI t + oBL (pLw P m t U 1 d.1) 8 1 95)] [] eX2_seatOne k8_140 (by decide +kernel : decode cX8_letSittersCome 101 = .ok (.invokevirtual 140, 3)) (Nat.le_of_ble_eq_true rfl) ⟨Nat.le_of_ble_eq_true rfl, Nat.le_of_ble_eq_true rfl, Nat.le_of_ble_eq_true rfl, Nat.le_of_ble_eq_true rfl, Nat.le_of_ble_eq_true rfl⟩ rfl rfl rfl (fsh_0 hB) ?_
      refine cl_seatOne hB hch (by omega) hCJ.hF hCJ.ok hf (fun I1 k2 f1 => ?_)
      have hC1 := zCw_u hCJ k2 f1 (oOk_seat hCJ.ok hfr.1)
      refine zBlkR (M := mX8_letSittersCome) (nL := 4) (rt := (Option.none : Option Jvm.ClassFile.FieldType)) (blk := bX8_letSittersCome_104) (T := []) 0 hX8_letSittersCome_104 zChks_nil rfl rfl rfl (Nat.le_of_ble_eq_true rfl) (Nat.le_of_ble_eq_true rfl) ?_
      simp only [bX8_letSittersCome_104, zRun_cons, zRun_nil, zLk, zSto, zIns, zFil, zf0, zf1, zf2, zf3, List.filter_cons, List.filter_nil, Nat.reduceAdd, Nat.reduceEqDiff, Nat.reduceLT, Nat.reduceLeDiff, Nat.reduceBEq, Nat.reduceBNe, reduceIte, if_true, if_false, Bool.false_and, Bool.true_and, Bool.and_true, Bool.and_false, Bool.not_false, Bool.not_true, Bool.false_eq_true, beq_self_eq_true, BEq.rfl, zCat1, zCat2, zCat3, zKdI, zKdL, zKdR, true_and, and_true, zSI, zSL, zSR, zu_at, and_self, and_false, false_and, lv_args, zKdZ, zKdO, zB01, zB11, Option.toList_none, Option.toList_some, List.nil_append, List.cons_append, true_or, or_true, zRow_rd, zu_rd, zo_aload_n, zo_iload_n, zKn_0, zN10, zN01, not_true_eq_false, not_false_eq_true, false_implies, true_implies, implies_true, eq_self, nI_1, nI_40, nI_7, vz0, vz1, zb1_e0, zb1_n0]
      refine z_cV0 (M' := mX8_weigh) (R' := rX8_weigh) (i := W) [.int (nI d.1)] [] eX8_weigh k8_130 (by decide +kernel : decode cX8_letSittersCome 106 = .ok (.invokevirtual 130, 3)) (Nat.le_of_ble_eq_true rfl) ⟨Nat.le_of_ble_eq_true rfl, Nat.le_of_ble_eq_true rfl, Nat.le_of_ble_eq_true rfl, Nat.le_of_ble_eq_true rfl, Nat.le_of_ble_eq_true rfl⟩ rfl rfl rfl (wsh_0 hW) ?_
      refine cl_weigh hw hC1 d1 (fun L2 k3 w1 w2 => ?_)
      refine zBlkR (M := mX8_letSittersCome) (nL := 4) (rt := (Option.none : Option Jvm.ClassFile.FieldType)) (blk := bX8_letSittersCome_109) (T := []) 0 hX8_letSittersCome_109 zChks_nil rfl rfl rfl (Nat.le_of_ble_eq_true rfl) (Nat.le_of_ble_eq_true rfl) ?_
      simp only [bX8_letSittersCome_109, zRun_cons, zRun_nil, zLk, zSto, zIns, zFil, zf0, zf1, zf2, zf3, List.filter_cons, List.filter_nil, Nat.reduceAdd, Nat.reduceEqDiff, Nat.reduceLT, Nat.reduceLeDiff, Nat.reduceBEq, Nat.reduceBNe, reduceIte, if_true, if_false, Bool.false_and, Bool.true_and, Bool.and_true, Bool.and_false, Bool.not_false, Bool.not_true, Bool.false_eq_true, beq_self_eq_true, BEq.rfl, zCat1, zCat2, zCat3, zKdI, zKdL, zKdR, true_and, and_true, zSI, zSL, zSR, zu_at, and_self, and_false, false_and, lv_args, zKdZ, zKdO, zB01, zB11, Option.toList_none, Option.toList_some, List.nil_append, List.cons_append, true_or, or_true, zRow_rd, zu_rd, zo_iinc, zo_goto, zi_1, zKn_0, zN10, zN01, not_true_eq_false, not_false_eq_true, false_implies, true_implies, implies_true, eq_self, nI_1, nI_40, nI_7, vz0, vz1, zb1_e0, zb1_n0]
      refine zX.sub' (ih I1 L2 (hJ.trans k2) ((hK.trans (k1.mono (fun _ _ g => Or.inl g))).trans k3) hC1 (fun _ q hq hcn => ?_)) (by simp)
      by_cases e : q = d.1
      · subst e; exact w1 hcn
      · rw [w2 q e, k1 _ _ (by unfold zWS; omega)]
        have o : ∀ x, oCnt (oSeat (nI t + oBL (pLw P m t U 1 d.1) 8 1 95) (zFst (oFree U d.1) (pCh P)) U) (nI q) x (pCh P) = oCnt U (nI q) x (pCh P) := fun x => oCnt_seat hf hfr.2 (by omega) (by omega) e
        rw [hwt q hq (by rw [← o]; exact hcn)]
        simp only [pWt, oWthV, o]
  refine zLoop (n := pNp P) (P := fun i => ∀ K, zKpt (zWS2 W) L K → (∀ q, q < i → oCnt V (nI q) 1 (pCh P) ≠ 0 → K (W + 2) q = pWt P m t V q) → zX w mX8_letSittersCome rX8_letSittersCome Q 0 0 24 [(0, Value.ref W), (1, Value.int (nI N)), (2, Value.int (nI i))] [] (SH, I, K, RF p s r)) (fun i hi ih => ?_) 0 (Nat.zero_le _) L zKpt_rfl (fun q hq => absurd hq (by omega))
  intro K hK hwt
  refine zBlkR (M := mX8_letSittersCome) (nL := 4) (rt := (Option.none : Option Jvm.ClassFile.FieldType)) (blk := bX8_letSittersCome_24) (T := [(50, bX8_letSittersCome_50)]) 1 hX8_letSittersCome_24 (zChks_cons hX8_letSittersCome_50 zChks_nil) rfl rfl rfl (Nat.le_of_ble_eq_true rfl) (Nat.le_of_ble_eq_true rfl) ?_
  simp only [bX8_letSittersCome_24, bX8_letSittersCome_50, zRun_cons, zRun_nil, zLk, zSto, zIns, zFil, zf0, zf1, zf2, zf3, List.filter_cons, List.filter_nil, Nat.reduceAdd, Nat.reduceEqDiff, Nat.reduceLT, Nat.reduceLeDiff, Nat.reduceBEq, Nat.reduceBNe, reduceIte, if_true, if_false, Bool.false_and, Bool.true_and, Bool.and_true, Bool.and_false, Bool.not_false, Bool.not_true, Bool.false_eq_true, beq_self_eq_true, BEq.rfl, zCat1, zCat2, zCat3, zKdI, zKdL, zKdR, true_and, and_true, zSI, zSL, zSR, zu_at, and_self, and_false, false_and, lv_args, zKdZ, zKdO, zB01, zB11, Option.toList_none, Option.toList_some, List.nil_append, List.cons_append, true_or, or_true, zRow_rd, zu_rd, zo_iload_n, zo_aload_n, zo_getfield, zo_icmp_ge, zo_if_le, zo_iconst, zo_istore_n, zi_0, zKd_8_4, zKd_4_0, sh_37, rf_37_4, sh_40, rf_40_4, sh_55, sh_71, zcl_0, zKn_s, zKn_0, zFind, (wsh_0 hW), (wsh_1 hW), (wsh_2 hW), (wsh_3 hW), (wrf_0 hW), (wrf_1 hW), (wrf_2 hW), (wrf_3 hW), (wrf_4 hW), Nat.add_left_cancel_iff, Nat.left_eq_add, Nat.add_eq_left, (psh_0 hp), (psh_1 hp), (psh_2 hp), (psh_3 hp), (psh_4 hp), (psh_5 hp), (psh_6 hp), (psh_7 hp), (psh_8 hp), (psh_9 hp), (psh_10 hp), (psh_11 hp), (psh_12 hp), (psh_13 hp), (psh_14 hp), (psh_15 hp), (prf_1 hp), (prf_2 hp), (prf_3 hp), (prf_4 hp), (prf_6 hp), (prf_7 hp), (prf_8 hp), (prf_10 hp), (prf_11 hp), (prf_12 hp), (prf_13 hp), (prf_15 hp), (prf_17 hp), (prf_18 hp), (prf_19 hp), Nat.add_left_cancel_iff, Nat.left_eq_add, Nat.add_eq_left, i0, zle_nat (a := pNp P) (b := i) (by omega) (by omega), show (nI N ≤ 0) = (N ≤ 0) from zle_nat (b := 0) (by omega) (by omega), zN10, zN01, not_true_eq_false, not_false_eq_true, false_implies, true_implies, implies_true, eq_self, nI_1, nI_40, nI_7, vz0, vz1, zb1_e0, zb1_n0]
  refine ⟨fun h => ?_, fun h => ⟨fun h2 => ?_, fun h2 => ?_⟩⟩
  · have : i = pNp P := by omega
    subst this
    exact come K hK (fun _ => hwt)
  · exact come K hK (fun g => absurd g (by omega))
  · refine z_cV0 (M' := mX8_weigh) (R' := rX8_weigh) (i := W) [.int (nI i)] [] eX8_weigh k8_130 (by decide +kernel : decode cX8_letSittersCome 41 = .ok (.invokevirtual 130, 3)) (Nat.le_of_ble_eq_true rfl) ⟨Nat.le_of_ble_eq_true rfl, Nat.le_of_ble_eq_true rfl, Nat.le_of_ble_eq_true rfl, Nat.le_of_ble_eq_true rfl, Nat.le_of_ble_eq_true rfl⟩ rfl rfl rfl (wsh_0 hW) ?_
    refine cl_weigh hw hC (by omega) (fun L2 k3 w1 w2 => ?_)
    refine zBlkR (M := mX8_letSittersCome) (nL := 4) (rt := (Option.none : Option Jvm.ClassFile.FieldType)) (blk := bX8_letSittersCome_44) (T := []) 0 hX8_letSittersCome_44 zChks_nil rfl rfl rfl (Nat.le_of_ble_eq_true rfl) (Nat.le_of_ble_eq_true rfl) ?_
    simp only [bX8_letSittersCome_44, zRun_cons, zRun_nil, zLk, zSto, zIns, zFil, zf0, zf1, zf2, zf3, List.filter_cons, List.filter_nil, Nat.reduceAdd, Nat.reduceEqDiff, Nat.reduceLT, Nat.reduceLeDiff, Nat.reduceBEq, Nat.reduceBNe, reduceIte, if_true, if_false, Bool.false_and, Bool.true_and, Bool.and_true, Bool.and_false, Bool.not_false, Bool.not_true, Bool.false_eq_true, beq_self_eq_true, BEq.rfl, zCat1, zCat2, zCat3, zKdI, zKdL, zKdR, true_and, and_true, zSI, zSL, zSR, zu_at, and_self, and_false, false_and, lv_args, zKdZ, zKdO, zB01, zB11, Option.toList_none, Option.toList_some, List.nil_append, List.cons_append, true_or, or_true, zRow_rd, zu_rd, zo_iinc, zo_goto, zi_1, zKn_0, zN10, zN01, not_true_eq_false, not_false_eq_true, false_implies, true_implies, implies_true, eq_self, nI_1, nI_40, nI_7, vz0, vz1, zb1_e0, zb1_n0]
    refine ih (by omega) L2 (hK.trans k3) (fun q hq hcn => ?_)
    by_cases e : q = i
    · subst e; exact w1 hcn
    · rw [w2 q e]; exact hwt q (by omega) hcn
/-! the boy asks -/
theorem oNext_lN (d : Int64) : ∃ n, n < 2147483648 ∧ oNext d = lN n := by
  obtain ⟨n, hn, e⟩ := wb_of (d * 1103515245 + 12345)
  refine ⟨n % 2 ^ 31, Nat.mod_lt _ (by decide), ?_⟩
  unfold oNext
  rw [e, show (2147483647 : Int64) = lN (2 ^ 31 - 1) from rfl, wb_mask hn (by decide)]
theorem oNum_eq {n : Nat} (hn : n < 2147483648) : lN n >>> ((16 : Int32).toInt64 &&& 63) = lN (n / 65536) := by
  have e : ((16 : Int32).toInt64 &&& 63) = lN 16 := wb_c 16 (by decide)
  rw [e, pf_shr (d := 16) (by decide) (by omega)]
theorem i64_32 {v : Int64} (h1 : 0 ≤ v.toInt) (h2 : v.toInt ≤ 100) : v.toInt32.toInt64 = v := by
  apply Int64.toInt_inj.mp
  rw [Int32.toInt_toInt64, Int64.toInt_toInt32, Int.bmod_eq_of_le (by omega) (by omega)]
def oDg (nd : Bool) (o : Option Int64) : Int64 := if nd = true then 0 else o.getD jMin
theorem ask_hit (d : Int64) (nd : Bool) (o : Option Int64) : decide (oNext d >>> ((16 : Int32).toInt64 &&& 63) - oNext d >>> ((16 : Int32).toInt64 &&& 63) / 100 * 100 < oDg nd o) = oHit (if nd = true then 0 else oBL o 0 0 100) (oNext d) := by
  obtain ⟨n, hn, e⟩ := oNext_lN d
  unfold oHit
  rw [e, oNum_eq hn, show (65536 : Int64) = lN 65536 from rfl, pk_lDiv (by omega) (by decide) (by decide), show (100 : Int64) = lN 100 from rfl, pk_lRem (by omega) (by decide) (by decide)]
  have hr : n / 65536 % 100 < 100 := Nat.mod_lt _ (by decide)
  generalize n / 65536 % 100 = k at hr
  have hk : (lN k).toInt = (k : Int) := lN_toInt (by omega)
  have z0 : (0 : Int32).toInt64 = 0 := by decide
  have z100 : (100 : Int32).toInt64 = 100 := by decide
  have t0 : (0 : Int64).toInt = 0 := by decide
  have t100 : (100 : Int64).toInt = 100 := by decide
  cases nd with
  | true => simp only [oDg, if_true, z0]
  | false =>
    simp only [oDg, Bool.false_eq_true, if_false]
    cases o with
    | none =>
      simp only [Option.getD_none, oBL, z0]
      have tm : jMin.toInt = -9223372036854775808 := by decide
      rw [decide_eq_false (by rw [Int64.lt_iff_toInt_lt]; omega), decide_eq_false (by rw [Int64.lt_iff_toInt_lt]; omega)]
    | some v =>
      simp only [Option.getD_some, oBL, z0, z100]
      by_cases h1 : v < 0
      · rw [if_pos h1, z0]
        rw [Int64.lt_iff_toInt_lt] at h1
        rw [decide_eq_false (by rw [Int64.lt_iff_toInt_lt]; omega), decide_eq_false (by rw [Int64.lt_iff_toInt_lt]; omega)]
      · rw [if_neg h1]
        by_cases h2 : 100 < v
        · rw [if_pos h2, z100]
          rw [Int64.lt_iff_toInt_lt] at h2
          rw [decide_eq_true (by rw [Int64.lt_iff_toInt_lt]; omega), decide_eq_true (by rw [Int64.lt_iff_toInt_lt]; omega)]
        · rw [if_neg h2]
          rw [Int64.lt_iff_toInt_lt] at h1 h2
          rw [i64_32 (by omega) (by omega)]
theorem oAsk_0 {S : oS} {odds pr : Int32} (h : oCnt S.1 (nI q) 2 ch = 0) : zIter (oAsk1 odds pr q) ch S = S := by
  have hz := zCnt_0n (n := ch) h
  have key : ∀ n, n ≤ ch → zIter (oAsk1 odds pr q) n S = S := by
    intro n
    induction n with
    | zero => intro _; rfl
    | succ n ih =>
      intro hn
      rw [zIter, ih (by omega), oAsk1, if_neg]
      intro g
      have := hz n (by omega)
      simp [g.1, g.2.1] at this
  exact key ch (Nat.le_refl _)
end ZC69
