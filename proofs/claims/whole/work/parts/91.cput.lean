/-! ===== PUT, BRING, ROUTE: the class ===== -/
/-- noted only if something moved -/
def uNote (u : oUd) (kd q b : Nat) (V : Nat → Nat → Int32) (K : Nat) (R : oRt) : oUd := if pcN b = 0 then u else uAdd (uRoom u) kd q 0 (lN b) V K R
/-- as many as can be carried -/
def oLft (P : oPn) (kc n : Nat) : Nat := min n ((pR P 102 7).toNatClampNeg - kc)
def SCe (i k : Nat) : Prop := (i = 10 ∧ k = 11) ∨ zSdd i k
def oRtOf (n t : Nat) (y : Int64) : oRt := (n, t, fun k => ((y >>> ((4 * nI k).toInt64 &&& 63)).toInt32 &&& 15).toNatClampNeg)
section ZU91
variable {w : zP} {Q : Option Value → zMem → Prop} {μ : zMem} {I J V V' S : Nat → Nat → Int32} {L K : Nat → Nat → Int64} {p s t kc kc' : Nat} {r : Option Nat} {P : oPn} {b c i k q n l kd pl rf ch : Nat} {bt d d' y' : Int64} {rt rt' : oRt} {u : oUd} {x y : Int32} {z : Nat × (Nat → Nat → Int32) × Nat}
theorem oIn41 : (x < 0 ∨ ¬ x ≤ 40) ↔ oIn x 41 = false := by
  have e : (nI 41 ≤ x) = ¬ (x ≤ 40) := by
    rw [← nI_ltS (a := 40) (by omega)]
    exact propext Int32.not_le.symm
  unfold oIn
  simp only [e]
  by_cases h : x < 0 <;> by_cases g : x ≤ 40 <;> simp [h, g]
theorem zFC_t11 {I1 : Nat → Nat → Int32} (h : zKpt SCe I1 J) (hF : zFC 10 I1 ch V) : zFC 10 J ch V := by
  obtain ⟨a1, a2, a3, a4, a5⟩ := hF
  have hr : ∀ j, 1 ≤ j → j ≤ 8 → J (10 + j) = I1 (10 + j) := fun j h1 h2 => funext fun c => h (10 + j) c (by unfold SCe zSdd; omega)
  refine ⟨?_, by rw [h 10 8 (by unfold SCe zSdd; omega)]; exact a2, fun q hq => by rw [hr 6 (by omega) (by omega)]; exact a3 q hq, fun q hq => by rw [hr 7 (by omega) (by omega)]; exact a4 q hq, by rw [h 10 9 (by unfold SCe zSdd; omega)]; exact a5⟩
  rw [← a1]
  unfold vC zV
  funext i c
  split
  · dsimp only; rw [hr 8 (by omega) (by omega)]
  · split
    · rename_i hi; dsimp only; rw [hr i (by omega) (by omega)]
    · rfl
set_option maxRecDepth 20000 in
theorem cl_carried (hx : x = nI kd) (hkd : kd < 2) (hb : b < 2 ^ 40) (hD : zcDeeds I L u) (hn : u.1 ≤ 20) (h11 : I 10 11 = nI kc) (hQ : ∀ I' L', zKpt SCe I I' → zKpt zSddL L L' → I' 10 11 = nI (kc + pcN b) → (∀ V' R', zcDeeds I' L' (uNote u kd q b V' (kc + pcN b) R')) → Q (some (.int (nI (pcN b)))) (SH, I', L', RF p s r)) : zXM w mX9_carried rX9_carried [.ref 0, .int x, .int (nI q), .long (lN b)] (SH, I, L, RF p s r) Q := by
  unfold zXM
  subst hx
  have hle := pcN_le b
  refine zBlkR (M := mX9_carried) (nL := 6) (rt := (Option.some .int)) (blk := bX9_carried_0) (T := []) 0 hX9_carried_0 zChks_nil rfl rfl rfl (Nat.le_of_ble_eq_true rfl) (Nat.le_of_ble_eq_true rfl) ?_
  simp (implicitDefEqProofs := false) only [bX9_carried_0, zRun_cons, zRun_nil, zLk, zSto, zIns, zFil, zf0, zf1, zf2, zf3, List.filter_cons, List.filter_nil, Nat.reduceAdd, Nat.reduceEqDiff, Nat.reduceLT, Nat.reduceLeDiff, Nat.reduceBEq, Nat.reduceBNe, reduceIte, if_true, if_false, Bool.false_and, Bool.true_and, Bool.and_true, Bool.and_false, Bool.not_false, Bool.not_true, Bool.false_eq_true, beq_self_eq_true, BEq.rfl, zCat1, zCat2, zCat3, zKdI, zKdL, zKdR, true_and, and_true, zSI, zSL, zSR, zu_at, and_self, and_false, false_and, lv_args, zKdZ, zKdO, zB01, zB11, Option.toList_none, Option.toList_some, List.nil_append, List.cons_append, true_or, or_true, zRow_rd, zu_rd, zo_lload_n, zKn_0, zCat2, zN10, zN01, not_true_eq_false, not_false_eq_true, false_implies, true_implies, implies_true, eq_self, nI_1, nI_40, nI_7, vz0, vz1, zb1_e0, zb1_n0]
  refine z_cS0 (M' := mJ13_bitCount_95d88) (R' := rJ13_bitCount_95d88) [.long (lN b)] [] eJ13_bitCount_95d88 k9_340 (by decide +kernel : decode cX9_carried 1 = .ok (.invokestatic 340, 3)) (Nat.le_of_ble_eq_true rfl) ⟨Nat.le_of_ble_eq_true rfl, Nat.le_of_ble_eq_true rfl, Nat.le_of_ble_eq_true rfl, Nat.le_of_ble_eq_true rfl, Nat.le_of_ble_eq_true rfl⟩ rfl rfl rfl ?_
  refine sp_bitCount hb ?_
  by_cases h0 : pcN b = 0
  · have e0 : (nI (pcN b) ≤ 0) = True := eq_true (by rw [h0]; decide)
    refine zBlkR (M := mX9_carried) (nL := 6) (rt := (Option.some .int)) (blk := bX9_carried_4) (T := [(35, bX9_carried_35)]) 1 hX9_carried_4 (zChks_cons hX9_carried_35 zChks_nil) rfl rfl rfl (Nat.le_of_ble_eq_true rfl) (Nat.le_of_ble_eq_true rfl) ?_
    simp (implicitDefEqProofs := false) only [bX9_carried_4, bX9_carried_35, zRun_cons, zRun_nil, zLk, zSto, zIns, zFil, zf0, zf1, zf2, zf3, List.filter_cons, List.filter_nil, Nat.reduceAdd, Nat.reduceEqDiff, Nat.reduceLT, Nat.reduceLeDiff, Nat.reduceBEq, Nat.reduceBNe, reduceIte, if_true, if_false, Bool.false_and, Bool.true_and, Bool.and_true, Bool.and_false, Bool.not_false, Bool.not_true, Bool.false_eq_true, beq_self_eq_true, BEq.rfl, zCat1, zCat2, zCat3, zKdI, zKdL, zKdR, true_and, and_true, zSI, zSL, zSR, zu_at, and_self, and_false, false_and, lv_args, zKdZ, zKdO, zB01, zB11, Option.toList_none, Option.toList_some, List.nil_append, List.cons_append, true_or, or_true, zRow_rd, zu_rd, zo_istore, zo_iload, zo_if_le, zo_aload_n, zo_getfield, zo_dup, zo_iadd, zo_putfield, zo_putfield_2, zo_putfield_3, zo_iload_n, zo_lload_n, zo_ireturn, zKd_9_4, zKd_2_11, zTy_2_11, zKd_9_9, sh_0, rf_0_4, sh_10, sh_19, sh_28, rf_0_9, sh_43, zRt, zPutC, zKn_s, zKn_0, zFind, e0, zCat2, zN10, zN01, not_true_eq_false, not_false_eq_true, false_implies, true_implies, implies_true, eq_self, nI_1, nI_40, nI_7, vz0, vz1, zb1_e0, zb1_n0]
    refine hQ I L zKpt_rfl zKpt_rfl (by rw [h0]; exact h11) (fun V' R' => ?_)
    rw [uNote, if_pos h0]; exact hD
  · have e0 : (nI (pcN b) ≤ 0) = False := eq_false (nI_nle (by omega) (by omega))
    refine zBlkR (M := mX9_carried) (nL := 6) (rt := (Option.some .int)) (blk := bX9_carried_4) (T := [(35, bX9_carried_35)]) 1 hX9_carried_4 (zChks_cons hX9_carried_35 zChks_nil) rfl rfl rfl (Nat.le_of_ble_eq_true rfl) (Nat.le_of_ble_eq_true rfl) ?_
    simp (implicitDefEqProofs := false) only [bX9_carried_4, bX9_carried_35, zRun_cons, zRun_nil, zLk, zSto, zIns, zFil, zf0, zf1, zf2, zf3, List.filter_cons, List.filter_nil, Nat.reduceAdd, Nat.reduceEqDiff, Nat.reduceLT, Nat.reduceLeDiff, Nat.reduceBEq, Nat.reduceBNe, reduceIte, if_true, if_false, Bool.false_and, Bool.true_and, Bool.and_true, Bool.and_false, Bool.not_false, Bool.not_true, Bool.false_eq_true, beq_self_eq_true, BEq.rfl, zCat1, zCat2, zCat3, zKdI, zKdL, zKdR, true_and, and_true, zSI, zSL, zSR, zu_at, and_self, and_false, false_and, lv_args, zKdZ, zKdO, zB01, zB11, Option.toList_none, Option.toList_some, List.nil_append, List.cons_append, true_or, or_true, zRow_rd, zu_rd, zo_istore, zo_iload, zo_if_le, zo_aload_n, zo_getfield, zo_dup, zo_iadd, zo_putfield, zo_putfield_2, zo_putfield_3, zo_iload_n, zo_lload_n, zo_ireturn, zKd_9_4, zKd_2_11, zTy_2_11, zKd_9_9, sh_0, rf_0_4, sh_10, sh_19, sh_28, rf_0_9, sh_43, zRt, zPutC, zKn_s, zKn_0, zFind, e0, h11, nI_add, zCat2, zN10, zN01, not_true_eq_false, not_false_eq_true, false_implies, true_implies, implies_true, eq_self, nI_1, nI_40, nI_7, vz0, vz1, zb1_e0, zb1_n0]
    have k1 : zKpt SCe I (zu I 10 11 (nI (kc + pcN b))) := zKpt_rfl.u (by unfold SCe; omega)
    have k2 : (zu I 10 11 (nI (kc + pcN b))) 10 11 = nI (kc + pcN b) := by simp [zu_at]
    have hD1 : zcDeeds (zu I 10 11 (nI (kc + pcN b))) L u := by
      refine ⟨by rw [zu_at, if_neg (by omega)]; exact hD.1, fun j hj => ?_⟩
      rw [zu_at, if_neg (by omega), zu_at, if_neg (by omega), zu_at, if_neg (by omega)]
      exact hD.2 j hj
    generalize zu I 10 11 (nI (kc + pcN b)) = I1 at *
    refine z_cV0 (M' := mX1_noteChairs) (R' := rX1_noteChairs) (i := 43) [.int (nI kd), .int (nI q), .long (lN b)] [] eX1_noteChairs k9_344 (by decide +kernel : decode cX9_carried 32 = .ok (.invokevirtual 344, 3)) (Nat.le_of_ble_eq_true rfl) ⟨Nat.le_of_ble_eq_true rfl, Nat.le_of_ble_eq_true rfl, Nat.le_of_ble_eq_true rfl, Nat.le_of_ble_eq_true rfl, Nat.le_of_ble_eq_true rfl⟩ rfl rfl rfl sh_43 ?_
    refine cl_noteChairs hD1 hn (fun I2 L2 k3 k4 d2 => ?_)
    refine zBlkR (M := mX9_carried) (nL := 6) (rt := (Option.some .int)) (blk := bX9_carried_35) (T := []) 0 hX9_carried_35 zChks_nil rfl rfl rfl (Nat.le_of_ble_eq_true rfl) (Nat.le_of_ble_eq_true rfl) ?_
    simp (implicitDefEqProofs := false) only [bX9_carried_35, zRun_cons, zRun_nil, zLk, zSto, zIns, zFil, zf0, zf1, zf2, zf3, List.filter_cons, List.filter_nil, Nat.reduceAdd, Nat.reduceEqDiff, Nat.reduceLT, Nat.reduceLeDiff, Nat.reduceBEq, Nat.reduceBNe, reduceIte, if_true, if_false, Bool.false_and, Bool.true_and, Bool.and_true, Bool.and_false, Bool.not_false, Bool.not_true, Bool.false_eq_true, beq_self_eq_true, BEq.rfl, zCat1, zCat2, zCat3, zKdI, zKdL, zKdR, true_and, and_true, zSI, zSL, zSR, zu_at, and_self, and_false, false_and, lv_args, zKdZ, zKdO, zB01, zB11, Option.toList_none, Option.toList_some, List.nil_append, List.cons_append, true_or, or_true, zRow_rd, zu_rd, zo_iload, zo_ireturn, zRt, zKn_0, zN10, zN01, not_true_eq_false, not_false_eq_true, false_implies, true_implies, implies_true, eq_self, nI_1, nI_40, nI_7, vz0, vz1, zb1_e0, zb1_n0]
    refine hQ I2 L2 (k1.trans (k3.mono (fun i k g => Or.inr g))) k4 (by rw [k3 10 11 (by unfold zSdd; omega)]; exact k2) (fun V' R' => ?_)
    rw [uNote, if_neg h0]
    exact d2 0 V' _ R' hkd
set_option maxRecDepth 20000 in
theorem cl_put (hC : zKl I L p P V d t kc rt) (hU : UdOk P t V kc rt u) (hD : zcDeeds I L u) (hbad : ¬ (oIn x (pNp P) = true ∧ oIn y 41 = true) → Q (some (.int (-1))) (SH, I, L, RF p s r)) (hQ : ∀ q n, q < pNp P → x = nI q → n ≤ 40 → y = nI n → ∀ I' L', zKpt SCd I I' → zKpt SCdL L L' → zKl I' L' p P (oPuts q (pCh P) (oLft P kc n) V).2.1 d t (kc + pcN (oPuts q (pCh P) (oLft P kc n) V).2.2) rt → zcDeeds I' L' (uNote u 0 q (oPuts q (pCh P) (oLft P kc n) V).2.2 (oPuts q (pCh P) (oLft P kc n) V).2.1 (kc + pcN (oPuts q (pCh P) (oLft P kc n) V).2.2) rt) → Q (some (.int (nI (pcN (oPuts q (pCh P) (oLft P kc n) V).2.2)))) (SH, I', L', RF p s r)) : zXM w mX9_put rX9_put [.ref 0, .int x, .int y] (SH, I, L, RF p s r) Q := by
  unfold zXM
  have hp := hC.1
  have hp36 := zPc_gt hp
  have hch := hC.2.1.1
  have hnp : pNp P ≤ 5 := hC.2.1.2.1
  have hok := hC.2.2.2.2.2.1
  obtain ⟨cr, hcr, hkc, ecr⟩ := hC.2.2.2.2.2.2.2.2
  have e3 : I (p + 11) 3 = nI cr := by rw [← ecr]; exact hC.2.2.2.1.2.2.2.2.2.1.2.2.2.1
  have g := hC.2.2.2.2.1
  refine zBlkR (M := mX9_put) (nL := 6) (rt := (Option.some .int)) (blk := bX9_put_0) (T := []) 0 hX9_put_0 zChks_nil rfl rfl rfl (Nat.le_of_ble_eq_true rfl) (Nat.le_of_ble_eq_true rfl) ?_
  simp (implicitDefEqProofs := false) only [bX9_put_0, zRun_cons, zRun_nil, zLk, zSto, zIns, zFil, zf0, zf1, zf2, zf3, List.filter_cons, List.filter_nil, Nat.reduceAdd, Nat.reduceEqDiff, Nat.reduceLT, Nat.reduceLeDiff, Nat.reduceBEq, Nat.reduceBNe, reduceIte, if_true, if_false, Bool.false_and, Bool.true_and, Bool.and_true, Bool.and_false, Bool.not_false, Bool.not_true, Bool.false_eq_true, beq_self_eq_true, BEq.rfl, zCat1, zCat2, zCat3, zKdI, zKdL, zKdR, true_and, and_true, zSI, zSL, zSR, zu_at, and_self, and_false, false_and, lv_args, zKdZ, zKdO, zB01, zB11, Option.toList_none, Option.toList_some, List.nil_append, List.cons_append, true_or, or_true, zRow_rd, zu_rd, zo_aload_n, zo_getfield, zo_iload_n, zKd_9_12, sh_0, rf_0_12, sh_55, zKn_0, (psh_0 hp), (psh_1 hp), (psh_2 hp), (psh_3 hp), (psh_4 hp), (psh_5 hp), (psh_6 hp), (psh_7 hp), (psh_8 hp), (psh_9 hp), (psh_10 hp), (psh_11 hp), (psh_12 hp), (psh_13 hp), (psh_14 hp), (psh_15 hp), (prf_1 hp), (prf_2 hp), (prf_3 hp), (prf_4 hp), (prf_6 hp), (prf_7 hp), (prf_8 hp), (prf_10 hp), (prf_11 hp), (prf_12 hp), (prf_13 hp), (prf_15 hp), (prf_17 hp), (prf_18 hp), (prf_19 hp), Nat.add_left_cancel_iff, Nat.left_eq_add, Nat.add_eq_left, zN10, zN01, not_true_eq_false, not_false_eq_true, false_implies, true_implies, implies_true, eq_self, nI_1, nI_40, nI_7, vz0, vz1, zb1_e0, zb1_n0]
  refine z_cV0 (M' := mX4_hasPlace) (R' := rX4_hasPlace) (i := p) [.int x] [] eX4_hasPlace k9_157 (by decide +kernel : decode cX9_put 5 = .ok (.invokevirtual 157, 3)) (Nat.le_of_ble_eq_true rfl) ⟨Nat.le_of_ble_eq_true rfl, Nat.le_of_ble_eq_true rfl, Nat.le_of_ble_eq_true rfl, Nat.le_of_ble_eq_true rfl, Nat.le_of_ble_eq_true rfl⟩ rfl rfl rfl (psh_0 hp) ?_
  refine cl_hasPlace hp hC.2.2.2.1.1.1 ?_
  cases hy : oIn x (pNp P) with
  | false =>
    refine zBlkR (M := mX9_put) (nL := 6) (rt := (Option.some .int)) (blk := bX9_put_8) (T := [(21, bX9_put_21), (23, bX9_put_23)]) 1 hX9_put_8 (zChks_cons hX9_put_21 (zChks_cons hX9_put_23 zChks_nil)) rfl rfl rfl (Nat.le_of_ble_eq_true rfl) (Nat.le_of_ble_eq_true rfl) ?_
    simp (implicitDefEqProofs := false) only [bX9_put_8, bX9_put_21, bX9_put_23, zRun_cons, zRun_nil, zLk, zSto, zIns, zFil, zf0, zf1, zf2, zf3, List.filter_cons, List.filter_nil, Nat.reduceAdd, Nat.reduceEqDiff, Nat.reduceLT, Nat.reduceLeDiff, Nat.reduceBEq, Nat.reduceBNe, reduceIte, if_true, if_false, Bool.false_and, Bool.true_and, Bool.and_true, Bool.and_false, Bool.not_false, Bool.not_true, Bool.false_eq_true, beq_self_eq_true, BEq.rfl, zCat1, zCat2, zCat3, zKdI, zKdL, zKdR, true_and, and_true, zSI, zSL, zSR, zu_at, and_self, and_false, false_and, lv_args, zKdZ, zKdO, zB01, zB11, Option.toList_none, Option.toList_some, List.nil_append, List.cons_append, true_or, or_true, zRow_rd, zu_rd, zo_if_eq, zo_iload_n, zo_if_lt, zo_bipush, zo_icmp_le, zo_iconst, zo_ireturn, zo_aload_n, zo_getfield, zo_iaload, zo_isub, zb_40, zi_m1, zi_3, zKd_9_12, zKd_4_13, zKd_9_4, zKd_2_11, zcl_40, sh_0, rf_0_12, sh_55, rf_55_13, sh_66, sh_71, rf_71_13, sh_82, zcl_3, rf_0_4, sh_10, sh_19, sh_28, zvi_3_7, zRt, zKn_s, zKn_0, zFind, zb1_f, zN10, zN01, not_true_eq_false, not_false_eq_true, false_implies, true_implies, implies_true, eq_self, nI_1, nI_40, nI_7, vz0, vz1, zb1_e0, zb1_n0]
    exact hbad (by rw [hy]; simp)
  | true =>
  have g11 := g.2.2.1
  refine zBlkR (M := mX9_put) (nL := 6) (rt := (Option.some .int)) (blk := bX9_put_8) (T := [(21, bX9_put_21), (23, bX9_put_23)]) 1 hX9_put_8 (zChks_cons hX9_put_21 (zChks_cons hX9_put_23 zChks_nil)) rfl rfl rfl (Nat.le_of_ble_eq_true rfl) (Nat.le_of_ble_eq_true rfl) ?_
  simp (implicitDefEqProofs := false) only [bX9_put_8, bX9_put_21, bX9_put_23, zRun_cons, zRun_nil, zLk, zSto, zIns, zFil, zf0, zf1, zf2, zf3, List.filter_cons, List.filter_nil, Nat.reduceAdd, Nat.reduceEqDiff, Nat.reduceLT, Nat.reduceLeDiff, Nat.reduceBEq, Nat.reduceBNe, reduceIte, if_true, if_false, Bool.false_and, Bool.true_and, Bool.and_true, Bool.and_false, Bool.not_false, Bool.not_true, Bool.false_eq_true, beq_self_eq_true, BEq.rfl, zCat1, zCat2, zCat3, zKdI, zKdL, zKdR, true_and, and_true, zSI, zSL, zSR, zu_at, and_self, and_false, false_and, lv_args, zKdZ, zKdO, zB01, zB11, Option.toList_none, Option.toList_some, List.nil_append, List.cons_append, true_or, or_true, zRow_rd, zu_rd, zo_if_eq, zo_iload_n, zo_if_lt, zo_bipush, zo_icmp_le, zo_iconst, zo_ireturn, zo_aload_n, zo_getfield, zo_iaload, zo_isub, zb_40, zi_m1, zi_3, zKd_9_12, zKd_4_13, zKd_9_4, zKd_2_11, zcl_40, sh_0, rf_0_12, sh_55, rf_55_13, sh_66, sh_71, rf_71_13, sh_82, zcl_3, rf_0_4, sh_10, sh_19, sh_28, zvi_3_7, zRt, zKn_s, zKn_0, zFind, zb1_t, (psh_0 hp), (psh_1 hp), (psh_2 hp), (psh_3 hp), (psh_4 hp), (psh_5 hp), (psh_6 hp), (psh_7 hp), (psh_8 hp), (psh_9 hp), (psh_10 hp), (psh_11 hp), (psh_12 hp), (psh_13 hp), (psh_14 hp), (psh_15 hp), (prf_1 hp), (prf_2 hp), (prf_3 hp), (prf_4 hp), (prf_6 hp), (prf_7 hp), (prf_8 hp), (prf_10 hp), (prf_11 hp), (prf_12 hp), (prf_13 hp), (prf_15 hp), (prf_17 hp), (prf_18 hp), (prf_19 hp), Nat.add_left_cancel_iff, Nat.left_eq_add, Nat.add_eq_left, e3, g11, zvi_3_7, zN10, zN01, not_true_eq_false, not_false_eq_true, false_implies, true_implies, implies_true, eq_self, nI_1, nI_40, nI_7, vz0, vz1, zb1_e0, zb1_n0]
  refine ⟨fun h => hbad (by rw [oIn41.mp (Or.inl h)]; simp), fun h => ⟨fun h2 => ?_, fun h2 => hbad (by rw [oIn41.mp (Or.inr h2)]; simp)⟩⟩
  have hin : oIn y 41 = true := by
    cases hi : oIn y 41 with
    | true => rfl
    | false => exact absurd (oIn41.mpr hi) (fun q => q.elim h (fun g => g h2))
  obtain ⟨q, hq, e1⟩ := oIn_t hy (by omega)
  obtain ⟨n, hn, e2⟩ := oIn_t hin (by omega)
  subst e1 e2
  have hQ := hQ q n hq rfl (by omega) rfl
  have hlE : oLft P kc n = min n (cr - kc) := by unfold oLft; rw [ecr, nI_clamp (by omega)]
  have ecr2 : nI cr - nI kc = nI (cr - kc) := by
    obtain ⟨a, ha⟩ : ∃ a, cr = a + kc := ⟨cr - kc, by omega⟩
    rw [ha, ← nI_add, Int32.add_sub_cancel]; congr 1; omega
  rw [ecr2]
  refine z_cS0 (M' := mJ9_min_7cf53) (R' := rJ9_min_7cf53) [.int (nI n), .int (nI (cr - kc))] [] eJ9_min_7cf53 k9_194 (by decide +kernel : decode cX9_put 41 = .ok (.invokestatic 194, 3)) (Nat.le_of_ble_eq_true rfl) ⟨Nat.le_of_ble_eq_true rfl, Nat.le_of_ble_eq_true rfl, Nat.le_of_ble_eq_true rfl, Nat.le_of_ble_eq_true rfl, Nat.le_of_ble_eq_true rfl⟩ rfl rfl rfl ?_
  refine sp_min ?_
  have hm : (if nI (cr - kc) < nI n then nI (cr - kc) else nI n) = nI (oLft P kc n) := by
    simp only [zlt_nat (a := cr - kc) (b := n) (by omega) (by omega)]
    rw [hlE]
    split
    · congr 1; omega
    · congr 1; omega
  rw [hm]
  have hll : kc + oLft P kc n ≤ cr := by rw [hlE]; omega
  generalize oLft P kc n = l at *
  refine zBlkR (M := mX9_put) (nL := 6) (rt := (Option.some .int)) (blk := bX9_put_44) (T := []) 0 hX9_put_44 zChks_nil rfl rfl rfl (Nat.le_of_ble_eq_true rfl) (Nat.le_of_ble_eq_true rfl) ?_
  simp (implicitDefEqProofs := false) only [bX9_put_44, zRun_cons, zRun_nil, zLk, zSto, zIns, zFil, zf0, zf1, zf2, zf3, List.filter_cons, List.filter_nil, Nat.reduceAdd, Nat.reduceEqDiff, Nat.reduceLT, Nat.reduceLeDiff, Nat.reduceBEq, Nat.reduceBNe, reduceIte, if_true, if_false, Bool.false_and, Bool.true_and, Bool.and_true, Bool.and_false, Bool.not_false, Bool.not_true, Bool.false_eq_true, beq_self_eq_true, BEq.rfl, zCat1, zCat2, zCat3, zKdI, zKdL, zKdR, true_and, and_true, zSI, zSL, zSR, zu_at, and_self, and_false, false_and, lv_args, zKdZ, zKdO, zB01, zB11, Option.toList_none, Option.toList_some, List.nil_append, List.cons_append, true_or, or_true, zRow_rd, zu_rd, zo_istore_n, zo_aload_n, zo_getfield, zo_iload_n, zKd_9_4, sh_0, rf_0_4, sh_10, zKn_0, zN10, zN01, not_true_eq_false, not_false_eq_true, false_implies, true_implies, implies_true, eq_self, nI_1, nI_40, nI_7, vz0, vz1, zb1_e0, zb1_n0]
  refine z_cV0 (M' := mX2_putOut) (R' := rX2_putOut) (i := 10) [.int (nI q), .int (nI l)] [] eX2_putOut k9_200 (by decide +kernel : decode cX9_put 51 = .ok (.invokevirtual 200, 3)) (Nat.le_of_ble_eq_true rfl) ⟨Nat.le_of_ble_eq_true rfl, Nat.le_of_ble_eq_true rfl, Nat.le_of_ble_eq_true rfl, Nat.le_of_ble_eq_true rfl, Nat.le_of_ble_eq_true rfl⟩ rfl rfl rfl sh_10 ?_
  refine cl_putOut (Or.inl rfl) hch (by omega) (by omega) g.1 (fun I1 k1 f1 => ?_)
  have hlt := oPuts_lt (q := q) (l := l) (V := V) (pCh P)
  have hb : (oPuts q (pCh P) l V).2.2 < 2 ^ 40 := Nat.lt_of_lt_of_le hlt (Nat.pow_le_pow_right (by omega) hch)
  have hpc := oPuts_pc (q := q) (l := l) (V := V) hch
  have hok2 : oOk (pCh P) (pNp P) (pR P 102 8) (oPuts q (pCh P) l V).2.1 := oOk_puts hok (Nat.le_refl _) hq
  generalize oPuts q (pCh P) l V = z at *
  have k1' : zKpt SCd I I1 := k1.mono (fun i k g => by unfold zFB at g; unfold SCd; omega)
  have hD1 : zcDeeds I1 L u := by
    refine ⟨by rw [k1 43 4 (by unfold zFB; omega)]; exact hD.1, fun j hj => ?_⟩
    rw [k1 44 j (by unfold zFB; omega), k1 45 j (by unfold zFB; omega), k1 46 j (by unfold zFB; omega)]
    exact hD.2 j hj
  refine zBlkR (M := mX9_put) (nL := 6) (rt := (Option.some .int)) (blk := bX9_put_54) (T := []) 0 hX9_put_54 zChks_nil rfl rfl rfl (Nat.le_of_ble_eq_true rfl) (Nat.le_of_ble_eq_true rfl) ?_
  simp (implicitDefEqProofs := false) only [bX9_put_54, zRun_cons, zRun_nil, zLk, zSto, zIns, zFil, zf0, zf1, zf2, zf3, List.filter_cons, List.filter_nil, Nat.reduceAdd, Nat.reduceEqDiff, Nat.reduceLT, Nat.reduceLeDiff, Nat.reduceBEq, Nat.reduceBNe, reduceIte, if_true, if_false, Bool.false_and, Bool.true_and, Bool.and_true, Bool.and_false, Bool.not_false, Bool.not_true, Bool.false_eq_true, beq_self_eq_true, BEq.rfl, zCat1, zCat2, zCat3, zKdI, zKdL, zKdR, true_and, and_true, zSI, zSL, zSR, zu_at, and_self, and_false, false_and, lv_args, zKdZ, zKdO, zB01, zB11, Option.toList_none, Option.toList_some, List.nil_append, List.cons_append, true_or, or_true, zRow_rd, zu_rd, zo_lstore, zo_aload_n, zo_iconst, zo_iload_n, zo_lload, zi_0, zcl_0, zKn_0, zCat2, zN10, zN01, not_true_eq_false, not_false_eq_true, false_implies, true_implies, implies_true, eq_self, nI_1, nI_40, nI_7, vz0, vz1, zb1_e0, zb1_n0]
  refine z_cV0 (M' := mX9_carried) (R' := rX9_carried) (i := 0) [.int 0, .int (nI q), .long (lN z.2.2)] [] eX9_carried k9_203 (by decide +kernel : decode cX9_put 61 = .ok (.invokevirtual 203, 3)) (Nat.le_of_ble_eq_true rfl) ⟨Nat.le_of_ble_eq_true rfl, Nat.le_of_ble_eq_true rfl, Nat.le_of_ble_eq_true rfl, Nat.le_of_ble_eq_true rfl, Nat.le_of_ble_eq_true rfl⟩ rfl rfl rfl sh_0 ?_
  refine cl_carried (kd := 0) (kc := kc) rfl (by omega) hb hD1 hU.1 (by rw [k1 10 11 (by unfold zFB; omega)]; exact g11) (fun I2 L2 k2 k3 e11 d2 => ?_)
  refine zBlkR (M := mX9_put) (nL := 6) (rt := (Option.some .int)) (blk := bX9_put_64) (T := []) 0 hX9_put_64 zChks_nil rfl rfl rfl (Nat.le_of_ble_eq_true rfl) (Nat.le_of_ble_eq_true rfl) ?_
  simp (implicitDefEqProofs := false) only [bX9_put_64, zRun_cons, zRun_nil, zLk, zSto, zIns, zFil, zf0, zf1, zf2, zf3, List.filter_cons, List.filter_nil, Nat.reduceAdd, Nat.reduceEqDiff, Nat.reduceLT, Nat.reduceLeDiff, Nat.reduceBEq, Nat.reduceBNe, reduceIte, if_true, if_false, Bool.false_and, Bool.true_and, Bool.and_true, Bool.and_false, Bool.not_false, Bool.not_true, Bool.false_eq_true, beq_self_eq_true, BEq.rfl, zCat1, zCat2, zCat3, zKdI, zKdL, zKdR, true_and, and_true, zSI, zSL, zSR, zu_at, and_self, and_false, false_and, lv_args, zKdZ, zKdO, zB01, zB11, Option.toList_none, Option.toList_some, List.nil_append, List.cons_append, true_or, or_true, zRow_rd, zu_rd, zo_ireturn, zRt, zKn_0, zN10, zN01, not_true_eq_false, not_false_eq_true, false_implies, true_implies, implies_true, eq_self, nI_1, nI_40, nI_7, vz0, vz1, zb1_e0, zb1_n0]
  have k2' : zKpt SCd I1 I2 := k2.mono (fun i k g => by unfold SCe zSdd at g; unfold SCd zSdd; omega)
  have kk := k1'.trans k2'
  have q10 : ∀ j, 10 ≤ j → j ≠ 11 → I2 10 j = I 10 j := fun j hj1 hj => by rw [k2 10 j (by unfold SCe zSdd; omega), k1 10 j (by unfold zFB; omega)]
  have l10 : L2 10 = L 10 := funext fun j => k3 10 j (by unfold zSddL; omega)
  refine hQ I2 L2 kk (k3.mono (fun i k g => by unfold zSddL at g; unfold SCdL; omega)) (zKl_fr hC (SCd_p kk hp) ⟨zFC_t11 k2 f1, ?_, e11, ⟨?_, ?_, ?_⟩, ?_⟩ ⟨hok2, hC.2.2.2.2.2.2.1, hC.2.2.2.2.2.2.2.1, cr, hcr, by omega, ecr⟩) (d2 _ _)
  · rw [q10 10 (by omega) (by omega)]; exact g.2.1
  · rw [q10 12 (by omega) (by omega)]; exact g.2.2.2.1.1
  · rw [q10 13 (by omega) (by omega)]; exact g.2.2.2.1.2.1
  · rw [l10]; exact g.2.2.2.1.2.2
  · rw [l10]; exact g.2.2.2.2
set_option maxRecDepth 20000 in
theorem cl_bring (hC : zKl I L p P V d t kc rt) (hU : UdOk P t V kc rt u) (hD : zcDeeds I L u) (hbad : ¬ (oIn x (pNp P) = true ∧ oIn y 41 = true) → Q (some (.int (-1))) (SH, I, L, RF p s r)) (hQ : ∀ q n, q < pNp P → x = nI q → n ≤ 40 → y = nI n → ∀ I' L', zKpt SCd I I' → zKpt SCdL L L' → zKl I' L' p P (oBris q (pCh P) (oLft P kc n) V).2.1 d t (kc + pcN (oBris q (pCh P) (oLft P kc n) V).2.2) rt → zcDeeds I' L' (uNote u 1 q (oBris q (pCh P) (oLft P kc n) V).2.2 (oBris q (pCh P) (oLft P kc n) V).2.1 (kc + pcN (oBris q (pCh P) (oLft P kc n) V).2.2) rt) → Q (some (.int (nI (pcN (oBris q (pCh P) (oLft P kc n) V).2.2)))) (SH, I', L', RF p s r)) : zXM w mX9_bring rX9_bring [.ref 0, .int x, .int y] (SH, I, L, RF p s r) Q := by
  unfold zXM
  have hp := hC.1
  have hp36 := zPc_gt hp
  have hch := hC.2.1.1
  have hnp : pNp P ≤ 5 := hC.2.1.2.1
  have hok := hC.2.2.2.2.2.1
  obtain ⟨cr, hcr, hkc, ecr⟩ := hC.2.2.2.2.2.2.2.2
  have e3 : I (p + 11) 3 = nI cr := by rw [← ecr]; exact hC.2.2.2.1.2.2.2.2.2.1.2.2.2.1
  have g := hC.2.2.2.2.1
  refine zBlkR (M := mX9_bring) (nL := 6) (rt := (Option.some .int)) (blk := bX9_bring_0) (T := []) 0 hX9_bring_0 zChks_nil rfl rfl rfl (Nat.le_of_ble_eq_true rfl) (Nat.le_of_ble_eq_true rfl) ?_
  simp (implicitDefEqProofs := false) only [bX9_bring_0, zRun_cons, zRun_nil, zLk, zSto, zIns, zFil, zf0, zf1, zf2, zf3, List.filter_cons, List.filter_nil, Nat.reduceAdd, Nat.reduceEqDiff, Nat.reduceLT, Nat.reduceLeDiff, Nat.reduceBEq, Nat.reduceBNe, reduceIte, if_true, if_false, Bool.false_and, Bool.true_and, Bool.and_true, Bool.and_false, Bool.not_false, Bool.not_true, Bool.false_eq_true, beq_self_eq_true, BEq.rfl, zCat1, zCat2, zCat3, zKdI, zKdL, zKdR, true_and, and_true, zSI, zSL, zSR, zu_at, and_self, and_false, false_and, lv_args, zKdZ, zKdO, zB01, zB11, Option.toList_none, Option.toList_some, List.nil_append, List.cons_append, true_or, or_true, zRow_rd, zu_rd, zo_aload_n, zo_getfield, zo_iload_n, zKd_9_12, sh_0, rf_0_12, sh_55, zKn_0, (psh_0 hp), (psh_1 hp), (psh_2 hp), (psh_3 hp), (psh_4 hp), (psh_5 hp), (psh_6 hp), (psh_7 hp), (psh_8 hp), (psh_9 hp), (psh_10 hp), (psh_11 hp), (psh_12 hp), (psh_13 hp), (psh_14 hp), (psh_15 hp), (prf_1 hp), (prf_2 hp), (prf_3 hp), (prf_4 hp), (prf_6 hp), (prf_7 hp), (prf_8 hp), (prf_10 hp), (prf_11 hp), (prf_12 hp), (prf_13 hp), (prf_15 hp), (prf_17 hp), (prf_18 hp), (prf_19 hp), Nat.add_left_cancel_iff, Nat.left_eq_add, Nat.add_eq_left, zN10, zN01, not_true_eq_false, not_false_eq_true, false_implies, true_implies, implies_true, eq_self, nI_1, nI_40, nI_7, vz0, vz1, zb1_e0, zb1_n0]
  refine z_cV0 (M' := mX4_hasPlace) (R' := rX4_hasPlace) (i := p) [.int x] [] eX4_hasPlace k9_157 (by decide +kernel : decode cX9_bring 5 = .ok (.invokevirtual 157, 3)) (Nat.le_of_ble_eq_true rfl) ⟨Nat.le_of_ble_eq_true rfl, Nat.le_of_ble_eq_true rfl, Nat.le_of_ble_eq_true rfl, Nat.le_of_ble_eq_true rfl, Nat.le_of_ble_eq_true rfl⟩ rfl rfl rfl (psh_0 hp) ?_
  refine cl_hasPlace hp hC.2.2.2.1.1.1 ?_
  cases hy : oIn x (pNp P) with
  | false =>
    refine zBlkR (M := mX9_bring) (nL := 6) (rt := (Option.some .int)) (blk := bX9_bring_8) (T := [(21, bX9_bring_21), (23, bX9_bring_23)]) 1 hX9_bring_8 (zChks_cons hX9_bring_21 (zChks_cons hX9_bring_23 zChks_nil)) rfl rfl rfl (Nat.le_of_ble_eq_true rfl) (Nat.le_of_ble_eq_true rfl) ?_
    simp (implicitDefEqProofs := false) only [bX9_bring_8, bX9_bring_21, bX9_bring_23, zRun_cons, zRun_nil, zLk, zSto, zIns, zFil, zf0, zf1, zf2, zf3, List.filter_cons, List.filter_nil, Nat.reduceAdd, Nat.reduceEqDiff, Nat.reduceLT, Nat.reduceLeDiff, Nat.reduceBEq, Nat.reduceBNe, reduceIte, if_true, if_false, Bool.false_and, Bool.true_and, Bool.and_true, Bool.and_false, Bool.not_false, Bool.not_true, Bool.false_eq_true, beq_self_eq_true, BEq.rfl, zCat1, zCat2, zCat3, zKdI, zKdL, zKdR, true_and, and_true, zSI, zSL, zSR, zu_at, and_self, and_false, false_and, lv_args, zKdZ, zKdO, zB01, zB11, Option.toList_none, Option.toList_some, List.nil_append, List.cons_append, true_or, or_true, zRow_rd, zu_rd, zo_if_eq, zo_iload_n, zo_if_lt, zo_bipush, zo_icmp_le, zo_iconst, zo_ireturn, zo_aload_n, zo_getfield, zo_iaload, zo_isub, zb_40, zi_m1, zi_3, zKd_9_12, zKd_4_13, zKd_9_4, zKd_2_11, zcl_40, sh_0, rf_0_12, sh_55, rf_55_13, sh_66, sh_71, rf_71_13, sh_82, zcl_3, rf_0_4, sh_10, sh_19, sh_28, zvi_3_7, zRt, zKn_s, zKn_0, zFind, zb1_f, zN10, zN01, not_true_eq_false, not_false_eq_true, false_implies, true_implies, implies_true, eq_self, nI_1, nI_40, nI_7, vz0, vz1, zb1_e0, zb1_n0]
    exact hbad (by rw [hy]; simp)
  | true =>
  have g11 := g.2.2.1
  refine zBlkR (M := mX9_bring) (nL := 6) (rt := (Option.some .int)) (blk := bX9_bring_8) (T := [(21, bX9_bring_21), (23, bX9_bring_23)]) 1 hX9_bring_8 (zChks_cons hX9_bring_21 (zChks_cons hX9_bring_23 zChks_nil)) rfl rfl rfl (Nat.le_of_ble_eq_true rfl) (Nat.le_of_ble_eq_true rfl) ?_
  simp (implicitDefEqProofs := false) only [bX9_bring_8, bX9_bring_21, bX9_bring_23, zRun_cons, zRun_nil, zLk, zSto, zIns, zFil, zf0, zf1, zf2, zf3, List.filter_cons, List.filter_nil, Nat.reduceAdd, Nat.reduceEqDiff, Nat.reduceLT, Nat.reduceLeDiff, Nat.reduceBEq, Nat.reduceBNe, reduceIte, if_true, if_false, Bool.false_and, Bool.true_and, Bool.and_true, Bool.and_false, Bool.not_false, Bool.not_true, Bool.false_eq_true, beq_self_eq_true, BEq.rfl, zCat1, zCat2, zCat3, zKdI, zKdL, zKdR, true_and, and_true, zSI, zSL, zSR, zu_at, and_self, and_false, false_and, lv_args, zKdZ, zKdO, zB01, zB11, Option.toList_none, Option.toList_some, List.nil_append, List.cons_append, true_or, or_true, zRow_rd, zu_rd, zo_if_eq, zo_iload_n, zo_if_lt, zo_bipush, zo_icmp_le, zo_iconst, zo_ireturn, zo_aload_n, zo_getfield, zo_iaload, zo_isub, zb_40, zi_m1, zi_3, zKd_9_12, zKd_4_13, zKd_9_4, zKd_2_11, zcl_40, sh_0, rf_0_12, sh_55, rf_55_13, sh_66, sh_71, rf_71_13, sh_82, zcl_3, rf_0_4, sh_10, sh_19, sh_28, zvi_3_7, zRt, zKn_s, zKn_0, zFind, zb1_t, (psh_0 hp), (psh_1 hp), (psh_2 hp), (psh_3 hp), (psh_4 hp), (psh_5 hp), (psh_6 hp), (psh_7 hp), (psh_8 hp), (psh_9 hp), (psh_10 hp), (psh_11 hp), (psh_12 hp), (psh_13 hp), (psh_14 hp), (psh_15 hp), (prf_1 hp), (prf_2 hp), (prf_3 hp), (prf_4 hp), (prf_6 hp), (prf_7 hp), (prf_8 hp), (prf_10 hp), (prf_11 hp), (prf_12 hp), (prf_13 hp), (prf_15 hp), (prf_17 hp), (prf_18 hp), (prf_19 hp), Nat.add_left_cancel_iff, Nat.left_eq_add, Nat.add_eq_left, e3, g11, zvi_3_7, zN10, zN01, not_true_eq_false, not_false_eq_true, false_implies, true_implies, implies_true, eq_self, nI_1, nI_40, nI_7, vz0, vz1, zb1_e0, zb1_n0]
  refine ⟨fun h => hbad (by rw [oIn41.mp (Or.inl h)]; simp), fun h => ⟨fun h2 => ?_, fun h2 => hbad (by rw [oIn41.mp (Or.inr h2)]; simp)⟩⟩
  have hin : oIn y 41 = true := by
    cases hi : oIn y 41 with
    | true => rfl
    | false => exact absurd (oIn41.mpr hi) (fun q => q.elim h (fun g => g h2))
  obtain ⟨q, hq, e1⟩ := oIn_t hy (by omega)
  obtain ⟨n, hn, e2⟩ := oIn_t hin (by omega)
  subst e1 e2
  have hQ := hQ q n hq rfl (by omega) rfl
  have hlE : oLft P kc n = min n (cr - kc) := by unfold oLft; rw [ecr, nI_clamp (by omega)]
  have ecr2 : nI cr - nI kc = nI (cr - kc) := by
    obtain ⟨a, ha⟩ : ∃ a, cr = a + kc := ⟨cr - kc, by omega⟩
    rw [ha, ← nI_add, Int32.add_sub_cancel]; congr 1; omega
  rw [ecr2]
  refine z_cS0 (M' := mJ9_min_7cf53) (R' := rJ9_min_7cf53) [.int (nI n), .int (nI (cr - kc))] [] eJ9_min_7cf53 k9_194 (by decide +kernel : decode cX9_bring 41 = .ok (.invokestatic 194, 3)) (Nat.le_of_ble_eq_true rfl) ⟨Nat.le_of_ble_eq_true rfl, Nat.le_of_ble_eq_true rfl, Nat.le_of_ble_eq_true rfl, Nat.le_of_ble_eq_true rfl, Nat.le_of_ble_eq_true rfl⟩ rfl rfl rfl ?_
  refine sp_min ?_
  have hm : (if nI (cr - kc) < nI n then nI (cr - kc) else nI n) = nI (oLft P kc n) := by
    simp only [zlt_nat (a := cr - kc) (b := n) (by omega) (by omega)]
    rw [hlE]
    split
    · congr 1; omega
    · congr 1; omega
  rw [hm]
  have hll : kc + oLft P kc n ≤ cr := by rw [hlE]; omega
  generalize oLft P kc n = l at *
  refine zBlkR (M := mX9_bring) (nL := 6) (rt := (Option.some .int)) (blk := bX9_bring_44) (T := []) 0 hX9_bring_44 zChks_nil rfl rfl rfl (Nat.le_of_ble_eq_true rfl) (Nat.le_of_ble_eq_true rfl) ?_
  simp (implicitDefEqProofs := false) only [bX9_bring_44, zRun_cons, zRun_nil, zLk, zSto, zIns, zFil, zf0, zf1, zf2, zf3, List.filter_cons, List.filter_nil, Nat.reduceAdd, Nat.reduceEqDiff, Nat.reduceLT, Nat.reduceLeDiff, Nat.reduceBEq, Nat.reduceBNe, reduceIte, if_true, if_false, Bool.false_and, Bool.true_and, Bool.and_true, Bool.and_false, Bool.not_false, Bool.not_true, Bool.false_eq_true, beq_self_eq_true, BEq.rfl, zCat1, zCat2, zCat3, zKdI, zKdL, zKdR, true_and, and_true, zSI, zSL, zSR, zu_at, and_self, and_false, false_and, lv_args, zKdZ, zKdO, zB01, zB11, Option.toList_none, Option.toList_some, List.nil_append, List.cons_append, true_or, or_true, zRow_rd, zu_rd, zo_istore_n, zo_aload_n, zo_getfield, zo_iload_n, zKd_9_4, sh_0, rf_0_4, sh_10, zKn_0, zN10, zN01, not_true_eq_false, not_false_eq_true, false_implies, true_implies, implies_true, eq_self, nI_1, nI_40, nI_7, vz0, vz1, zb1_e0, zb1_n0]
  refine z_cV0 (M' := mX2_bringIn) (R' := rX2_bringIn) (i := 10) [.int (nI q), .int (nI l)] [] eX2_bringIn k9_206 (by decide +kernel : decode cX9_bring 51 = .ok (.invokevirtual 206, 3)) (Nat.le_of_ble_eq_true rfl) ⟨Nat.le_of_ble_eq_true rfl, Nat.le_of_ble_eq_true rfl, Nat.le_of_ble_eq_true rfl, Nat.le_of_ble_eq_true rfl, Nat.le_of_ble_eq_true rfl⟩ rfl rfl rfl sh_10 ?_
  refine cl_bringIn (Or.inl rfl) hch hnp (by omega) g.1 hok (fun I1 k1 f1 => ?_)
  have hlt := oBris_lt (q := q) (l := l) (V := V) (pCh P)
  have hb : (oBris q (pCh P) l V).2.2 < 2 ^ 40 := Nat.lt_of_lt_of_le hlt (Nat.pow_le_pow_right (by omega) hch)
  have hpc := oBris_pc (q := q) (l := l) (V := V) hch
  have hok2 : oOk (pCh P) (pNp P) (pR P 102 8) (oBris q (pCh P) l V).2.1 := oOk_bris hok
  generalize oBris q (pCh P) l V = z at *
  have k1' : zKpt SCd I I1 := k1.mono (fun i k g => by unfold zFB at g; unfold SCd; omega)
  have hD1 : zcDeeds I1 L u := by
    refine ⟨by rw [k1 43 4 (by unfold zFB; omega)]; exact hD.1, fun j hj => ?_⟩
    rw [k1 44 j (by unfold zFB; omega), k1 45 j (by unfold zFB; omega), k1 46 j (by unfold zFB; omega)]
    exact hD.2 j hj
  refine zBlkR (M := mX9_bring) (nL := 6) (rt := (Option.some .int)) (blk := bX9_bring_54) (T := []) 0 hX9_bring_54 zChks_nil rfl rfl rfl (Nat.le_of_ble_eq_true rfl) (Nat.le_of_ble_eq_true rfl) ?_
  simp (implicitDefEqProofs := false) only [bX9_bring_54, zRun_cons, zRun_nil, zLk, zSto, zIns, zFil, zf0, zf1, zf2, zf3, List.filter_cons, List.filter_nil, Nat.reduceAdd, Nat.reduceEqDiff, Nat.reduceLT, Nat.reduceLeDiff, Nat.reduceBEq, Nat.reduceBNe, reduceIte, if_true, if_false, Bool.false_and, Bool.true_and, Bool.and_true, Bool.and_false, Bool.not_false, Bool.not_true, Bool.false_eq_true, beq_self_eq_true, BEq.rfl, zCat1, zCat2, zCat3, zKdI, zKdL, zKdR, true_and, and_true, zSI, zSL, zSR, zu_at, and_self, and_false, false_and, lv_args, zKdZ, zKdO, zB01, zB11, Option.toList_none, Option.toList_some, List.nil_append, List.cons_append, true_or, or_true, zRow_rd, zu_rd, zo_lstore, zo_aload_n, zo_iconst, zo_iload_n, zo_lload, zi_1, zcl_1, zKn_0, zCat2, zN10, zN01, not_true_eq_false, not_false_eq_true, false_implies, true_implies, implies_true, eq_self, nI_1, nI_40, nI_7, vz0, vz1, zb1_e0, zb1_n0]
  refine z_cV0 (M' := mX9_carried) (R' := rX9_carried) (i := 0) [.int 1, .int (nI q), .long (lN z.2.2)] [] eX9_carried k9_203 (by decide +kernel : decode cX9_bring 61 = .ok (.invokevirtual 203, 3)) (Nat.le_of_ble_eq_true rfl) ⟨Nat.le_of_ble_eq_true rfl, Nat.le_of_ble_eq_true rfl, Nat.le_of_ble_eq_true rfl, Nat.le_of_ble_eq_true rfl, Nat.le_of_ble_eq_true rfl⟩ rfl rfl rfl sh_0 ?_
  refine cl_carried (kd := 1) (kc := kc) rfl (by omega) hb hD1 hU.1 (by rw [k1 10 11 (by unfold zFB; omega)]; exact g11) (fun I2 L2 k2 k3 e11 d2 => ?_)
  refine zBlkR (M := mX9_bring) (nL := 6) (rt := (Option.some .int)) (blk := bX9_bring_64) (T := []) 0 hX9_bring_64 zChks_nil rfl rfl rfl (Nat.le_of_ble_eq_true rfl) (Nat.le_of_ble_eq_true rfl) ?_
  simp (implicitDefEqProofs := false) only [bX9_bring_64, zRun_cons, zRun_nil, zLk, zSto, zIns, zFil, zf0, zf1, zf2, zf3, List.filter_cons, List.filter_nil, Nat.reduceAdd, Nat.reduceEqDiff, Nat.reduceLT, Nat.reduceLeDiff, Nat.reduceBEq, Nat.reduceBNe, reduceIte, if_true, if_false, Bool.false_and, Bool.true_and, Bool.and_true, Bool.and_false, Bool.not_false, Bool.not_true, Bool.false_eq_true, beq_self_eq_true, BEq.rfl, zCat1, zCat2, zCat3, zKdI, zKdL, zKdR, true_and, and_true, zSI, zSL, zSR, zu_at, and_self, and_false, false_and, lv_args, zKdZ, zKdO, zB01, zB11, Option.toList_none, Option.toList_some, List.nil_append, List.cons_append, true_or, or_true, zRow_rd, zu_rd, zo_ireturn, zRt, zKn_0, zN10, zN01, not_true_eq_false, not_false_eq_true, false_implies, true_implies, implies_true, eq_self, nI_1, nI_40, nI_7, vz0, vz1, zb1_e0, zb1_n0]
  have k2' : zKpt SCd I1 I2 := k2.mono (fun i k g => by unfold SCe zSdd at g; unfold SCd zSdd; omega)
  have kk := k1'.trans k2'
  have q10 : ∀ j, 10 ≤ j → j ≠ 11 → I2 10 j = I 10 j := fun j hj1 hj => by rw [k2 10 j (by unfold SCe zSdd; omega), k1 10 j (by unfold zFB; omega)]
  have l10 : L2 10 = L 10 := funext fun j => k3 10 j (by unfold zSddL; omega)
  refine hQ I2 L2 kk (k3.mono (fun i k g => by unfold zSddL at g; unfold SCdL; omega)) (zKl_fr hC (SCd_p kk hp) ⟨zFC_t11 k2 f1, ?_, e11, ⟨?_, ?_, ?_⟩, ?_⟩ ⟨hok2, hC.2.2.2.2.2.2.1, hC.2.2.2.2.2.2.2.1, cr, hcr, by omega, ecr⟩) (d2 _ _)
  · rw [q10 10 (by omega) (by omega)]; exact g.2.1
  · rw [q10 12 (by omega) (by omega)]; exact g.2.2.2.1.1
  · rw [q10 13 (by omega) (by omega)]; exact g.2.2.2.1.2.1
  · rw [l10]; exact g.2.2.2.1.2.2
  · rw [l10]; exact g.2.2.2.2
/-- a route's places are places -/
def oRtB (P : oPn) (y : Int64) (k : Nat) : Bool := oIn ((y >>> ((4 * nI k).toInt64 &&& 63)).toInt32 &&& 15) (pNp P)
def oRtAll (P : oPn) (n : Nat) (y : Int64) : Prop := ∀ k, k < n → oRtB P y k = true
theorem ROk_of (hnp : pNp P ≤ 5) (hn : n ≤ 8) (h : oRtAll P n y') : ROk P (oRtOf n t y') t ∧ ∀ k, k < n → (y' >>> ((4 * nI k).toInt64 &&& 63)).toInt32 &&& 15 = nI ((oRtOf n t y').2.2 k) := by
  have hk : ∀ k, k < n → ∃ q, q < pNp P ∧ (y' >>> ((4 * nI k).toInt64 &&& 63)).toInt32 &&& 15 = nI q := fun k hk => oIn_t (h k hk) (by omega)
  refine ⟨⟨hn, Nat.le_refl _, fun k h1 => ?_⟩, fun k h1 => ?_⟩
  · obtain ⟨q, hq, e⟩ := hk k h1
    show ((y' >>> ((4 * nI k).toInt64 &&& 63)).toInt32 &&& 15).toNatClampNeg < _
    rw [e, nI_clamp (by omega)]; exact hq
  · obtain ⟨q, hq, e⟩ := hk k h1
    show _ = nI ((y' >>> ((4 * nI k).toInt64 &&& 63)).toInt32 &&& 15).toNatClampNeg
    rw [e, nI_clamp (by omega)]
theorem oIn9 : (x < 0 ∨ ¬ x ≤ 8) ↔ oIn x 9 = false := by
  have e : (nI 9 ≤ x) = ¬ (x ≤ 8) := by
    rw [← nI_ltS (a := 8) (by omega)]
    exact propext Int32.not_le.symm
  unfold oIn
  simp only [e]
  by_cases h : x < 0 <;> by_cases g : x ≤ 8 <;> simp [h, g]
theorem mul4 (k : Nat) : (4 : Int32) * nI k = nI (4 * k) := by rw [show (4 : Int32) = nI 4 from rfl, pk_mul]
set_option maxRecDepth 20000 in
theorem cl_route (hC : zKl I L p P V d t kc rt) (hU : UdOk P t V kc rt u) (hD : zcDeeds I L u) (hbad : (∀ n, n ≤ 8 → x = nI n → ¬ oRtAll P n y') → Q (some (.int 0)) (SH, I, L, RF p s r)) (hQ : ∀ n, n ≤ 8 → x = nI n → oRtAll P n y' → ∀ I' L', zKpt SCd I I' → zKpt SCdL L L' → zKl I' L' p P V d t kc (oRtOf n t y') → zcDeeds I' L' (uAdd (uRoom u) 2 rt.1 rt.2.1 (L 10 14) V kc (oRtOf n t y')) → Q (some (.int 1)) (SH, I', L', RF p s r)) : zXM w mX9_route rX9_route [.ref 0, .int x, .long y'] (SH, I, L, RF p s r) Q := by
  unfold zXM
  have hp := hC.1
  have hnp : pNp P ≤ 5 := hC.2.1.2.1
  have g := hC.2.2.2.2.1
  refine zBlkR (M := mX9_route) (nL := 5) (rt := (Option.some .boolean)) (blk := bX9_route_0) (T := [(10, bX9_route_10), (12, bX9_route_12)]) 1 hX9_route_0 (zChks_cons hX9_route_10 (zChks_cons hX9_route_12 zChks_nil)) rfl rfl rfl (Nat.le_of_ble_eq_true rfl) (Nat.le_of_ble_eq_true rfl) ?_
  simp (implicitDefEqProofs := false) only [bX9_route_0, bX9_route_10, bX9_route_12, zRun_cons, zRun_nil, zLk, zSto, zIns, zFil, zf0, zf1, zf2, zf3, List.filter_cons, List.filter_nil, Nat.reduceAdd, Nat.reduceEqDiff, Nat.reduceLT, Nat.reduceLeDiff, Nat.reduceBEq, Nat.reduceBNe, reduceIte, if_true, if_false, Bool.false_and, Bool.true_and, Bool.and_true, Bool.and_false, Bool.not_false, Bool.not_true, Bool.false_eq_true, beq_self_eq_true, BEq.rfl, zCat1, zCat2, zCat3, zKdI, zKdL, zKdR, true_and, and_true, zSI, zSL, zSR, zu_at, and_self, and_false, false_and, lv_args, zKdZ, zKdO, zB01, zB11, Option.toList_none, Option.toList_some, List.nil_append, List.cons_append, true_or, or_true, zRow_rd, zu_rd, zo_iload_n, zo_if_lt, zo_bipush, zo_icmp_le, zo_iconst, zo_ireturn, zo_istore, zb_8, zi_0, zcl_8, zcl_0, zRt, zKn_s, zKn_0, zFind, zCat2, zN10, zN01, not_true_eq_false, not_false_eq_true, false_implies, true_implies, implies_true, eq_self, nI_1, nI_40, nI_7, vz0, vz1, zb1_e0, zb1_n0]
  refine ⟨fun h => hbad (fun n hn e => ?_), fun h => ⟨fun h2 => ?_, fun h2 => hbad (fun n hn e => ?_)⟩⟩
  · subst e; exact absurd h (nI_nn (by omega))
  · have hin : oIn x 9 = true := by
      cases hi : oIn x 9 with
      | true => rfl
      | false => exact absurd (oIn9.mpr hi) (fun q => q.elim h (fun g => g h2))
    obtain ⟨n, hn, e2⟩ := oIn_t hin (by omega)
    subst e2
    refine zLoop (n := n) (P := fun k => (∀ j, j < k → oRtB P y' j = true) → zX w mX9_route rX9_route Q 0 0 15 [(0, Value.ref 0), (1, Value.int (nI n)), (2, Value.long y'), (4, Value.int (nI k))] [] (SH, I, L, RF p s r)) (fun k hk ih => ?_) 0 (Nat.zero_le _) (fun j hj => absurd hj (by omega))
    intro hall
    by_cases hke : k = n
    · subst hke
      have hx : (nI k ≤ nI k) = True := eq_true (by rw [zle_nat (by omega) (by omega)]; omega)
      refine zBlkR (M := mX9_route) (nL := 5) (rt := (Option.some .boolean)) (blk := bX9_route_15) (T := [(49, bX9_route_49)]) 1 hX9_route_15 (zChks_cons hX9_route_49 zChks_nil) rfl rfl rfl (Nat.le_of_ble_eq_true rfl) (Nat.le_of_ble_eq_true rfl) ?_
      simp (implicitDefEqProofs := false) only [bX9_route_15, bX9_route_49, zRun_cons, zRun_nil, zLk, zSto, zIns, zFil, zf0, zf1, zf2, zf3, List.filter_cons, List.filter_nil, Nat.reduceAdd, Nat.reduceEqDiff, Nat.reduceLT, Nat.reduceLeDiff, Nat.reduceBEq, Nat.reduceBNe, reduceIte, if_true, if_false, Bool.false_and, Bool.true_and, Bool.and_true, Bool.and_false, Bool.not_false, Bool.not_true, Bool.false_eq_true, beq_self_eq_true, BEq.rfl, zCat1, zCat2, zCat3, zKdI, zKdL, zKdR, true_and, and_true, zSI, zSL, zSR, zu_at, and_self, and_false, false_and, lv_args, zKdZ, zKdO, zB01, zB11, Option.toList_none, Option.toList_some, List.nil_append, List.cons_append, true_or, or_true, zRow_rd, zu_rd, zo_iload, zo_iload_n, zo_icmp_ge, zo_aload_n, zo_getfield, zo_lload_n, zo_iconst, zo_imul, zo_lshr, zo_l2i, zo_bipush, zo_iand, zi_4, zb_15, zKd_9_12, zKd_9_9, zKd_9_4, sh_0, rf_0_12, sh_55, zcl_4, zcl_15, rf_0_9, sh_43, rf_0_4, sh_10, zKn_s, zKn_0, zFind, hx, zCat2, zN10, zN01, not_true_eq_false, not_false_eq_true, false_implies, true_implies, implies_true, eq_self, nI_1, nI_40, nI_7, vz0, vz1, zb1_e0, zb1_n0]
      refine z_cV0 (M' := mX1_noteRoute) (R' := rX1_noteRoute) (i := 43) [.ref 10] [] eX1_noteRoute k9_209 (by decide +kernel : decode cX9_route 57 = .ok (.invokevirtual 209, 3)) (Nat.le_of_ble_eq_true rfl) ⟨Nat.le_of_ble_eq_true rfl, Nat.le_of_ble_eq_true rfl, Nat.le_of_ble_eq_true rfl, Nat.le_of_ble_eq_true rfl, Nat.le_of_ble_eq_true rfl⟩ rfl rfl rfl sh_43 ?_
      refine cl_noteRoute (rt := rt) hD hU.1 g.2.2.2.1.1 g.2.2.2.1.2.1 (fun I1 L1 k1 k2 d1 => ?_)
      have hRo := ROk_of (t := t) hnp (by omega) hall
      refine zBlkR (M := mX9_route) (nL := 5) (rt := (Option.some .boolean)) (blk := bX9_route_60) (T := []) 0 hX9_route_60 zChks_nil rfl rfl rfl (Nat.le_of_ble_eq_true rfl) (Nat.le_of_ble_eq_true rfl) ?_
      simp (implicitDefEqProofs := false) only [bX9_route_60, zRun_cons, zRun_nil, zLk, zSto, zIns, zFil, zf0, zf1, zf2, zf3, List.filter_cons, List.filter_nil, Nat.reduceAdd, Nat.reduceEqDiff, Nat.reduceLT, Nat.reduceLeDiff, Nat.reduceBEq, Nat.reduceBNe, reduceIte, if_true, if_false, Bool.false_and, Bool.true_and, Bool.and_true, Bool.and_false, Bool.not_false, Bool.not_true, Bool.false_eq_true, beq_self_eq_true, BEq.rfl, zCat1, zCat2, zCat3, zKdI, zKdL, zKdR, true_and, and_true, zSI, zSL, zSR, zu_at, and_self, and_false, false_and, lv_args, zKdZ, zKdO, zB01, zB11, Option.toList_none, Option.toList_some, List.nil_append, List.cons_append, true_or, or_true, zRow_rd, zu_rd, zo_aload_n, zo_getfield, zo_iload_n, zo_lload_n, zKd_9_4, sh_0, rf_0_4, sh_10, zKn_0, zCat2, zN10, zN01, not_true_eq_false, not_false_eq_true, false_implies, true_implies, implies_true, eq_self, nI_1, nI_40, nI_7, vz0, vz1, zb1_e0, zb1_n0]
      refine z_cV0 (M' := mX2_setRoute) (R' := rX2_setRoute) (i := 10) [.int (nI k), .long y'] [] eX2_setRoute k9_213 (by decide +kernel : decode cX9_route 66 = .ok (.invokevirtual 213, 3)) (Nat.le_of_ble_eq_true rfl) ⟨Nat.le_of_ble_eq_true rfl, Nat.le_of_ble_eq_true rfl, Nat.le_of_ble_eq_true rfl, Nat.le_of_ble_eq_true rfl, Nat.le_of_ble_eq_true rfl⟩ rfl rfl rfl sh_10 ?_
      unfold zXM
      have e10 : I1 10 10 = nI t := by rw [k1 10 10 (by unfold zSdd; omega)]; exact g.2.1
      refine zBlkR (M := mX2_setRoute) (nL := 4) (rt := (Option.none : Option Jvm.ClassFile.FieldType)) (blk := bX2_setRoute_0) (T := []) 0 hX2_setRoute_0 zChks_nil rfl rfl rfl (Nat.le_of_ble_eq_true rfl) (Nat.le_of_ble_eq_true rfl) ?_
      simp (implicitDefEqProofs := false) only [bX2_setRoute_0, zRun_cons, zRun_nil, zLk, zSto, zIns, zFil, zf0, zf1, zf2, zf3, List.filter_cons, List.filter_nil, Nat.reduceAdd, Nat.reduceEqDiff, Nat.reduceLT, Nat.reduceLeDiff, Nat.reduceBEq, Nat.reduceBNe, reduceIte, if_true, if_false, Bool.false_and, Bool.true_and, Bool.and_true, Bool.and_false, Bool.not_false, Bool.not_true, Bool.false_eq_true, beq_self_eq_true, BEq.rfl, zCat1, zCat2, zCat3, zKdI, zKdL, zKdR, true_and, and_true, zSI, zSL, zSR, zu_at, and_self, and_false, false_and, lv_args, zKdZ, zKdO, zB01, zB11, Option.toList_none, Option.toList_some, List.nil_append, List.cons_append, true_or, or_true, zRow_rd, zu_rd, zo_aload_n, zo_iload_n, zo_putfield, zo_putfield_2, zo_putfield_3, zo_lload_n, zo_getfield, zo_return_, zKd_2_12, zTy_2_12, zKd_2_14, zTy_2_14, zKd_2_10, zKd_2_13, zTy_2_13, sh_10, sh_19, sh_28, zPutC, zKn_0, e10, zCat2, zN10, zN01, not_true_eq_false, not_false_eq_true, false_implies, true_implies, implies_true, eq_self, nI_1, nI_40, nI_7, vz0, vz1, zb1_e0, zb1_n0]
      refine zBlkR (M := mX9_route) (nL := 5) (rt := (Option.some .boolean)) (blk := bX9_route_69) (T := []) 0 hX9_route_69 zChks_nil rfl rfl rfl (Nat.le_of_ble_eq_true rfl) (Nat.le_of_ble_eq_true rfl) ?_
      simp (implicitDefEqProofs := false) only [bX9_route_69, zRun_cons, zRun_nil, zLk, zSto, zIns, zFil, zf0, zf1, zf2, zf3, List.filter_cons, List.filter_nil, Nat.reduceAdd, Nat.reduceEqDiff, Nat.reduceLT, Nat.reduceLeDiff, Nat.reduceBEq, Nat.reduceBNe, reduceIte, if_true, if_false, Bool.false_and, Bool.true_and, Bool.and_true, Bool.and_false, Bool.not_false, Bool.not_true, Bool.false_eq_true, beq_self_eq_true, BEq.rfl, zCat1, zCat2, zCat3, zKdI, zKdL, zKdR, true_and, and_true, zSI, zSL, zSR, zu_at, and_self, and_false, false_and, lv_args, zKdZ, zKdO, zB01, zB11, Option.toList_none, Option.toList_some, List.nil_append, List.cons_append, true_or, or_true, zRow_rd, zu_rd, zo_iconst, zo_ireturn, zi_1, zcl_1, zRt, zKn_0, zN10, zN01, not_true_eq_false, not_false_eq_true, false_implies, true_implies, implies_true, eq_self, nI_1, nI_40, nI_7, vz0, vz1, zb1_e0, zb1_n0]
      have kJ : zKpt SCd I (zu (zu I1 10 12 (nI k)) 10 13 (nI t)) := ((k1.mono (S' := SCd) (fun i k g => Or.inr g)).u (Or.inl (by omega))).u (Or.inl (by omega))
      have r10 : ∀ i, 10 ≤ i → i ≤ 18 → I1 i = I i := fun i h1 h2 => funext fun j => k1 i j (by unfold zSdd; omega)
      refine hQ k (by omega) rfl hall _ _ kJ ((k2.mono (fun i k g => by unfold zSddL at g; unfold SCdL; omega)).u (by unfold SCdL; omega)) (zKl_fr hC (SCd_p kJ hp) ⟨?_, ?_, ?_, ⟨?_, ?_, ?_⟩, ?_⟩ ⟨hC.2.2.2.2.2.1, hRo.1, hC.2.2.2.2.2.2.2⟩) ?_
      · exact zFC_8 (by omega) (by omega) (zFC_8 (by omega) (by omega) (zFC_row (fun j hj => r10 (10 + j) (by omega) (by omega)) g.1))
      · simp [zu_at]; exact e10
      · simp [zu_at]; rw [r10 10 (by omega) (by omega)]; exact g.2.2.1
      · simp [zu_at]; rfl
      · simp [zu_at]; rfl
      · intro j hj
        rw [zu_at, if_pos ⟨rfl, rfl⟩]
        exact hRo.2 j hj
      · rw [zu_at, if_neg (by omega), k2 10 15 (by unfold zSddL; omega)]; exact g.2.2.2.2
      · have := d1 V kc (oRtOf k t y')
        refine ⟨by simp [zu_at]; exact this.1, fun j hj => ?_⟩
        have := this.2 j hj
        simp only [zu_at]
        simp
        exact this
    · have hx : (nI n ≤ nI k) = False := eq_false (by rw [zle_nat (by omega) (by omega)]; omega)
      refine zBlkR (M := mX9_route) (nL := 5) (rt := (Option.some .boolean)) (blk := bX9_route_15) (T := [(49, bX9_route_49)]) 1 hX9_route_15 (zChks_cons hX9_route_49 zChks_nil) rfl rfl rfl (Nat.le_of_ble_eq_true rfl) (Nat.le_of_ble_eq_true rfl) ?_
      simp (implicitDefEqProofs := false) only [bX9_route_15, bX9_route_49, zRun_cons, zRun_nil, zLk, zSto, zIns, zFil, zf0, zf1, zf2, zf3, List.filter_cons, List.filter_nil, Nat.reduceAdd, Nat.reduceEqDiff, Nat.reduceLT, Nat.reduceLeDiff, Nat.reduceBEq, Nat.reduceBNe, reduceIte, if_true, if_false, Bool.false_and, Bool.true_and, Bool.and_true, Bool.and_false, Bool.not_false, Bool.not_true, Bool.false_eq_true, beq_self_eq_true, BEq.rfl, zCat1, zCat2, zCat3, zKdI, zKdL, zKdR, true_and, and_true, zSI, zSL, zSR, zu_at, and_self, and_false, false_and, lv_args, zKdZ, zKdO, zB01, zB11, Option.toList_none, Option.toList_some, List.nil_append, List.cons_append, true_or, or_true, zRow_rd, zu_rd, zo_iload, zo_iload_n, zo_icmp_ge, zo_aload_n, zo_getfield, zo_lload_n, zo_iconst, zo_imul, zo_lshr, zo_l2i, zo_bipush, zo_iand, zi_4, zb_15, zKd_9_12, zKd_9_9, zKd_9_4, sh_0, rf_0_12, sh_55, zcl_4, zcl_15, rf_0_9, sh_43, rf_0_4, sh_10, zKn_s, zKn_0, zFind, hx, (psh_0 hp), (psh_1 hp), (psh_2 hp), (psh_3 hp), (psh_4 hp), (psh_5 hp), (psh_6 hp), (psh_7 hp), (psh_8 hp), (psh_9 hp), (psh_10 hp), (psh_11 hp), (psh_12 hp), (psh_13 hp), (psh_14 hp), (psh_15 hp), (prf_1 hp), (prf_2 hp), (prf_3 hp), (prf_4 hp), (prf_6 hp), (prf_7 hp), (prf_8 hp), (prf_10 hp), (prf_11 hp), (prf_12 hp), (prf_13 hp), (prf_15 hp), (prf_17 hp), (prf_18 hp), (prf_19 hp), Nat.add_left_cancel_iff, Nat.left_eq_add, Nat.add_eq_left, zCat2, zN10, zN01, not_true_eq_false, not_false_eq_true, false_implies, true_implies, implies_true, eq_self, nI_1, nI_40, nI_7, vz0, vz1, zb1_e0, zb1_n0]
      refine z_cV0 (M' := mX4_hasPlace) (R' := rX4_hasPlace) (i := p) [.int ((y' >>> ((4 * nI k).toInt64 &&& 63)).toInt32 &&& 15)] [] eX4_hasPlace k9_157 (by decide +kernel : decode cX9_route 35 = .ok (.invokevirtual 157, 3)) (Nat.le_of_ble_eq_true rfl) ⟨Nat.le_of_ble_eq_true rfl, Nat.le_of_ble_eq_true rfl, Nat.le_of_ble_eq_true rfl, Nat.le_of_ble_eq_true rfl, Nat.le_of_ble_eq_true rfl⟩ rfl rfl rfl (psh_0 hp) ?_
      refine cl_hasPlace hp hC.2.2.2.1.1.1 ?_
      have hB : oIn ((y' >>> ((4 * nI k).toInt64 &&& 63)).toInt32 &&& 15) (pNp P) = oRtB P y' k := rfl
      rw [hB]
      cases hb : oRtB P y' k with
      | false =>
        refine zBlkR (M := mX9_route) (nL := 5) (rt := (Option.some .boolean)) (blk := bX9_route_38) (T := [(43, bX9_route_43)]) 1 hX9_route_38 (zChks_cons hX9_route_43 zChks_nil) rfl rfl rfl (Nat.le_of_ble_eq_true rfl) (Nat.le_of_ble_eq_true rfl) ?_
        simp (implicitDefEqProofs := false) only [bX9_route_38, bX9_route_43, zRun_cons, zRun_nil, zLk, zSto, zIns, zFil, zf0, zf1, zf2, zf3, List.filter_cons, List.filter_nil, Nat.reduceAdd, Nat.reduceEqDiff, Nat.reduceLT, Nat.reduceLeDiff, Nat.reduceBEq, Nat.reduceBNe, reduceIte, if_true, if_false, Bool.false_and, Bool.true_and, Bool.and_true, Bool.and_false, Bool.not_false, Bool.not_true, Bool.false_eq_true, beq_self_eq_true, BEq.rfl, zCat1, zCat2, zCat3, zKdI, zKdL, zKdR, true_and, and_true, zSI, zSL, zSR, zu_at, and_self, and_false, false_and, lv_args, zKdZ, zKdO, zB01, zB11, Option.toList_none, Option.toList_some, List.nil_append, List.cons_append, true_or, or_true, zRow_rd, zu_rd, zo_if_ne, zo_iconst, zo_ireturn, zo_iinc, zo_goto, zi_0, zi_1, zcl_0, zRt, zKn_s, zKn_0, zFind, zb1_f, zCat2, zN10, zN01, not_true_eq_false, not_false_eq_true, false_implies, true_implies, implies_true, eq_self, nI_1, nI_40, nI_7, vz0, vz1, zb1_e0, zb1_n0]
        refine hbad (fun m hm e hR => ?_)
        have : n = m := by rw [zeq_nat (by omega) (by omega)] at e; exact e
        subst this
        rw [hR k (by omega)] at hb
        exact absurd hb (by decide)
      | true =>
        refine zBlkR (M := mX9_route) (nL := 5) (rt := (Option.some .boolean)) (blk := bX9_route_38) (T := [(43, bX9_route_43)]) 1 hX9_route_38 (zChks_cons hX9_route_43 zChks_nil) rfl rfl rfl (Nat.le_of_ble_eq_true rfl) (Nat.le_of_ble_eq_true rfl) ?_
        simp (implicitDefEqProofs := false) only [bX9_route_38, bX9_route_43, zRun_cons, zRun_nil, zLk, zSto, zIns, zFil, zf0, zf1, zf2, zf3, List.filter_cons, List.filter_nil, Nat.reduceAdd, Nat.reduceEqDiff, Nat.reduceLT, Nat.reduceLeDiff, Nat.reduceBEq, Nat.reduceBNe, reduceIte, if_true, if_false, Bool.false_and, Bool.true_and, Bool.and_true, Bool.and_false, Bool.not_false, Bool.not_true, Bool.false_eq_true, beq_self_eq_true, BEq.rfl, zCat1, zCat2, zCat3, zKdI, zKdL, zKdR, true_and, and_true, zSI, zSL, zSR, zu_at, and_self, and_false, false_and, lv_args, zKdZ, zKdO, zB01, zB11, Option.toList_none, Option.toList_some, List.nil_append, List.cons_append, true_or, or_true, zRow_rd, zu_rd, zo_if_ne, zo_iconst, zo_ireturn, zo_iinc, zo_goto, zi_0, zi_1, zcl_0, zRt, zKn_s, zKn_0, zFind, zb1_t, zCat2, zN10, zN01, not_true_eq_false, not_false_eq_true, false_implies, true_implies, implies_true, eq_self, nI_1, nI_40, nI_7, vz0, vz1, zb1_e0, zb1_n0]
        exact ih (by omega) (fun j hj => by
          by_cases e : j = k
          · subst e; exact hb
          · exact hall j (by omega))
  · subst e
    exact absurd (show nI n ≤ 8 from by rw [show (8 : Int32) = nI 8 from rfl, zle_nat (by omega) (by omega)]; exact hn) h2
end ZU91
