/-! ===== THE CLASS: ticks go by ===== -/
def zCa (I : Nat → Nat → Int32) (W B T p : Nat) (P : oPn) (m : oTm) (t : Nat) (V : Nat → Nat → Int32) : Prop :=
  zWc W B T ∧ zPc p ∧ POk P ∧ POk2 P ∧ zClsP I p P ∧ zClsM (I T) m ∧ zFC B I (pCh P) V ∧ I B 10 = nI t ∧ oOk (pCh P) (pNp P) (pR P 102 8) V
/-- a tick with chairs brought in at br -/
def oGb (br : Int32) (P : oPn) (m : oTm) (rt : oRt) (t : Nat) (S : oS) : oS := oG P m rt t (if br = nI t then (zIter oStack (pCh P) S.1, S.2) else S)
def oGsb (br : Int32) (P : oPn) (m : oTm) (rt : oRt) (t0 n : Nat) (S : oS) : oS := zIter (fun j => oGb br P m rt (t0 + j)) n S
section ZC71
variable {w : zP} {Q : Option Value → zMem → Prop} {μ : zMem} {I J V V' : Nat → Nat → Int32} {L : Nat → Nat → Int64} {p s W B T t : Nat} {r : Option Nat} {P : oPn} {m : oTm} {c i k q wh ch n : Nat} {x till br : Int32} {S : oS} {rt : oRt}
theorem zCa.cw (h : zCa I W B T p P m t V) (ht : t < 96) : zCw I W B T p P m t V := ⟨h.1, h.2.1, h.2.2.1, h.2.2.2.1, h.2.2.2.2.1, h.2.2.2.2.2.1, h.2.2.2.2.2.2.1, h.2.2.2.2.2.2.2.1, ht, h.2.2.2.2.2.2.2.2⟩
theorem zCw.ca (h : zCw I W B T p P m t V) : zCa I W B T p P m t V := ⟨h.1, h.2.1, h.2.2.1, h.2.2.2.1, h.2.2.2.2.1, h.2.2.2.2.2.1, h.2.2.2.2.2.2.1, h.2.2.2.2.2.2.2.1, h.2.2.2.2.2.2.2.2.2⟩
theorem zRtC_u {K : Nat → Nat → Int64} (hW : zWc W B T) (h : zRtC I L B rt) (h1 : zKpt (zFW B) I J) (h2 : zKpt (zFWL W B) L K) : zRtC J K B rt := by
  have e14 : K B 14 = L B 14 := h2 B 14 (by have := zWc_BW hW; unfold zFWL; omega)
  unfold zRtC
  rw [h1 B 12 (by unfold zFW; omega), h1 B 13 (by unfold zFW; omega), e14]
  exact h
theorem zFW_out (hB : zBc B) (h : zKpt (zFW B) I J) (hi : i < 10 ∨ 36 < i) : J i = I i := by
  funext k
  refine h i k ?_
  unfold zFW
  rcases hB with rfl | rfl | rfl <;> omega
set_option maxRecDepth 20000 in
theorem cl_tick85 {x3 : Int32} (hC : zCw I W B T p P m t S.1) (hd : L B 15 = S.2) (hQ : ∀ I', zKpt (zFW B) I I' → zCa I' W B T p P m (t + 1) S.1 → I' B 11 = 0 → zX w mX8_advance rX8_advance Q 0 0 2 [(0, Value.ref W), (1, Value.int (nI n)), (2, Value.int (nI (k + 1)))] [] (SH, I', L, RF p s r)) : zX w mX8_advance rX8_advance Q 0 0 85 [(0, Value.ref W), (1, Value.int (nI n)), (2, Value.int (nI k)), (3, Value.int x3)] [] (SH, I, L, RF p s r) := by
  have hW := hC.hW
  have hB := wB hW
  have hp := hC.hp
  have ht := hC.ht
  refine zBlkR (M := mX8_advance) (nL := 4) (rt := (Option.none : Option Jvm.ClassFile.FieldType)) (blk := bX8_advance_85) (T := []) 0 hX8_advance_85 zChks_nil rfl rfl rfl (Nat.le_of_ble_eq_true rfl) (Nat.le_of_ble_eq_true rfl) ?_
  simp only [bX8_advance_85, zRun_cons, zRun_nil, zLk, zSto, zIns, zFil, zf0, zf1, zf2, zf3, List.filter_cons, List.filter_nil, Nat.reduceAdd, Nat.reduceEqDiff, Nat.reduceLT, Nat.reduceLeDiff, Nat.reduceBEq, Nat.reduceBNe, reduceIte, if_true, if_false, Bool.false_and, Bool.true_and, Bool.and_true, Bool.and_false, Bool.not_false, Bool.not_true, Bool.false_eq_true, beq_self_eq_true, BEq.rfl, zCat1, zCat2, zCat3, zKdI, zKdL, zKdR, true_and, and_true, zSI, zSL, zSR, zu_at, and_self, and_false, false_and, lv_args, zKdZ, zKdO, zB01, zB11, Option.toList_none, Option.toList_some, List.nil_append, List.cons_append, true_or, or_true, zRow_rd, zu_rd, zo_aload_n, zo_getfield, zo_dup, zo_iconst, zo_iadd, zo_putfield, zo_putfield_2, zo_putfield_3, zo_iinc, zo_goto, zi_1, zi_0, zKd_8_0, zKd_2_10, zTy_2_10, zKd_2_11, zTy_2_11, sh_37, rf_37_0, sh_10, sh_40, rf_40_0, sh_19, sh_28, zcl_1, zcl_0, zPutC, zKn_0, (wsh_0 hW), (wsh_1 hW), (wsh_2 hW), (wsh_3 hW), (wrf_0 hW), (wrf_1 hW), (wrf_2 hW), (wrf_3 hW), (wrf_4 hW), Nat.add_left_cancel_iff, Nat.left_eq_add, Nat.add_eq_left, (fsh_0 hB), (fsh_1 hB), (fsh_2 hB), (fsh_3 hB), (fsh_4 hB), (fsh_5 hB), (fsh_6 hB), (fsh_7 hB), (fsh_8 hB), (frf_0 hB), (frf_1 hB), (frf_2 hB), (frf_3 hB), (frf_4 hB), (frf_5 hB), (frf_6 hB), (frf_7 hB), Nat.add_left_cancel_iff, Nat.left_eq_add, Nat.add_eq_left, ht, zN10, zN01, not_true_eq_false, not_false_eq_true, false_implies, true_implies, implies_true, eq_self, nI_1, nI_40, nI_7, vz0, vz1, zb1_e0, zb1_n0]
  have hk1 : zKpt (zFW B) I (zu (zu I B 10 (nI (t + 1))) B 11 0) := by
    refine (zKpt_rfl.u ?_).u ?_ <;> unfold zFW <;> omega
  refine zX.sub' (hQ _ hk1 ?_ (by simp [zu_at])) (by simp)
  obtain ⟨h1, h2, h3, h4, h5, h6, h7, h8, h9, h10⟩ := hC
  refine ⟨h1, h2, h3, h4, zClsP_row (fun j => zFW_out hB hk1 ?_) h5, ?_, zFC_same h7 ?_ ?_ ?_ ?_ ?_ ?_ ?_, ?_, h10⟩
  · have := zPc_gt h2; omega
  · rw [zFW_out hB hk1 (Or.inl (zWc_T h1))]; exact h6
  · rw [vCuB, vCuB, h7.1]
  · intro d; rfl
  · intro d; rfl
  · simp [zu_at]
  · simp [zu_at]
  · intro d; simp [zu_at]
  · intro d; simp [zu_at]
  · simp [zu_at]
set_option maxRecDepth 20000 in
theorem cl_tick43 (hw : zOk w) (hC : zCw I W B T p P m t S.1) (hd : L B 15 = S.2) (hR : ROk P rt t) (hrt : zRtC I L B rt) (hQ : ∀ I' L', zKpt (zFW B) I I' → zKpt (zFWL W B) L L' → zCa I' W B T p P m (t + 1) (oG P m rt t S).1 → L' B 15 = (oG P m rt t S).2 → I' B 11 = 0 → zX w mX8_advance rX8_advance Q 0 0 2 [(0, Value.ref W), (1, Value.int (nI n)), (2, Value.int (nI (k + 1)))] [] (SH, I', L', RF p s r)) : zX w mX8_advance rX8_advance Q 0 0 43 [(0, Value.ref W), (1, Value.int (nI n)), (2, Value.int (nI k))] [] (SH, I, L, RF p s r) := by
  have hW := hC.hW
  have hB := wB hW
  refine zBlkR (M := mX8_advance) (nL := 4) (rt := (Option.none : Option Jvm.ClassFile.FieldType)) (blk := bX8_advance_43) (T := []) 0 hX8_advance_43 zChks_nil rfl rfl rfl (Nat.le_of_ble_eq_true rfl) (Nat.le_of_ble_eq_true rfl) ?_
  simp only [bX8_advance_43, zRun_cons, zRun_nil, zLk, zSto, zIns, zFil, zf0, zf1, zf2, zf3, List.filter_cons, List.filter_nil, Nat.reduceAdd, Nat.reduceEqDiff, Nat.reduceLT, Nat.reduceLeDiff, Nat.reduceBEq, Nat.reduceBNe, reduceIte, if_true, if_false, Bool.false_and, Bool.true_and, Bool.and_true, Bool.and_false, Bool.not_false, Bool.not_true, Bool.false_eq_true, beq_self_eq_true, BEq.rfl, zCat1, zCat2, zCat3, zKdI, zKdL, zKdR, true_and, and_true, zSI, zSL, zSR, zu_at, and_self, and_false, false_and, lv_args, zKdZ, zKdO, zB01, zB11, Option.toList_none, Option.toList_some, List.nil_append, List.cons_append, true_or, or_true, zRow_rd, zu_rd, zo_aload_n, zKn_0, zN10, zN01, not_true_eq_false, not_false_eq_true, false_implies, true_implies, implies_true, eq_self, nI_1, nI_40, nI_7, vz0, vz1, zb1_e0, zb1_n0]
  refine z_cV0 (M' := mX8_letTideCome) (R' := rX8_letTideCome) (i := W) [] [] eX8_letTideCome k8_40 (by decide +kernel : decode cX8_advance 44 = .ok (.invokevirtual 40, 3)) (Nat.le_of_ble_eq_true rfl) ⟨Nat.le_of_ble_eq_true rfl, Nat.le_of_ble_eq_true rfl, Nat.le_of_ble_eq_true rfl, Nat.le_of_ble_eq_true rfl, Nat.le_of_ble_eq_true rfl⟩ rfl rfl rfl (wsh_0 hW) ?_
  refine cl_letTideCome hC (fun I1 k1 c1 => ?_)
  refine zBlkR (M := mX8_advance) (nL := 4) (rt := (Option.none : Option Jvm.ClassFile.FieldType)) (blk := bX8_advance_47) (T := []) 0 hX8_advance_47 zChks_nil rfl rfl rfl (Nat.le_of_ble_eq_true rfl) (Nat.le_of_ble_eq_true rfl) ?_
  simp only [bX8_advance_47, zRun_cons, zRun_nil, zLk, zSto, zIns, zFil, zf0, zf1, zf2, zf3, List.filter_cons, List.filter_nil, Nat.reduceAdd, Nat.reduceEqDiff, Nat.reduceLT, Nat.reduceLeDiff, Nat.reduceBEq, Nat.reduceBNe, reduceIte, if_true, if_false, Bool.false_and, Bool.true_and, Bool.and_true, Bool.and_false, Bool.not_false, Bool.not_true, Bool.false_eq_true, beq_self_eq_true, BEq.rfl, zCat1, zCat2, zCat3, zKdI, zKdL, zKdR, true_and, and_true, zSI, zSL, zSR, zu_at, and_self, and_false, false_and, lv_args, zKdZ, zKdO, zB01, zB11, Option.toList_none, Option.toList_some, List.nil_append, List.cons_append, true_or, or_true, zRow_rd, zu_rd, zo_aload_n, zKn_0, zN10, zN01, not_true_eq_false, not_false_eq_true, false_implies, true_implies, implies_true, eq_self, nI_1, nI_40, nI_7, vz0, vz1, zb1_e0, zb1_n0]
  refine z_cV0 (M' := mX8_skyNow) (R' := rX8_skyNow) (i := W) [] [] eX8_skyNow k8_43 (by decide +kernel : decode cX8_advance 48 = .ok (.invokevirtual 43, 3)) (Nat.le_of_ble_eq_true rfl) ⟨Nat.le_of_ble_eq_true rfl, Nat.le_of_ble_eq_true rfl, Nat.le_of_ble_eq_true rfl, Nat.le_of_ble_eq_true rfl, Nat.le_of_ble_eq_true rfl⟩ rfl rfl rfl (wsh_0 hW) ?_
  refine cl_skyNow c1 ?_
  have rnd : ∀ (x3 : Int32) I2 L2, zKpt (zFB B) I I2 → zKpt (zFWL W B) L L2 → zCw I2 W B T p P m t (oV4 P m t S.1) → L2 B 15 = S.2 → zX w mX8_advance rX8_advance Q 0 0 81 [(0, Value.ref W), (1, Value.int (nI n)), (2, Value.int (nI k)), (3, Value.int x3)] [] (SH, I2, L2, RF p s r) := by
    intro x3 I2 L2 a1 a2 a3 a4
    refine zBlkR (M := mX8_advance) (nL := 4) (rt := (Option.none : Option Jvm.ClassFile.FieldType)) (blk := bX8_advance_81) (T := []) 0 hX8_advance_81 zChks_nil rfl rfl rfl (Nat.le_of_ble_eq_true rfl) (Nat.le_of_ble_eq_true rfl) ?_
    simp only [bX8_advance_81, zRun_cons, zRun_nil, zLk, zSto, zIns, zFil, zf0, zf1, zf2, zf3, List.filter_cons, List.filter_nil, Nat.reduceAdd, Nat.reduceEqDiff, Nat.reduceLT, Nat.reduceLeDiff, Nat.reduceBEq, Nat.reduceBNe, reduceIte, if_true, if_false, Bool.false_and, Bool.true_and, Bool.and_true, Bool.and_false, Bool.not_false, Bool.not_true, Bool.false_eq_true, beq_self_eq_true, BEq.rfl, zCat1, zCat2, zCat3, zKdI, zKdL, zKdR, true_and, and_true, zSI, zSL, zSR, zu_at, and_self, and_false, false_and, lv_args, zKdZ, zKdO, zB01, zB11, Option.toList_none, Option.toList_some, List.nil_append, List.cons_append, true_or, or_true, zRow_rd, zu_rd, zo_aload_n, zKn_0, zN10, zN01, not_true_eq_false, not_false_eq_true, false_implies, true_implies, implies_true, eq_self, nI_1, nI_40, nI_7, vz0, vz1, zb1_e0, zb1_n0]
    refine z_cV0 (M' := mX8_goRound) (R' := rX8_goRound) (i := W) [] [] eX8_goRound k8_56 (by decide +kernel : decode cX8_advance 82 = .ok (.invokevirtual 56, 3)) (Nat.le_of_ble_eq_true rfl) ⟨Nat.le_of_ble_eq_true rfl, Nat.le_of_ble_eq_true rfl, Nat.le_of_ble_eq_true rfl, Nat.le_of_ble_eq_true rfl, Nat.le_of_ble_eq_true rfl⟩ rfl rfl rfl (wsh_0 hW) ?_
    refine cl_goRound (S := (oV4 P m t S.1, S.2)) hw a3 a4 hR (zRtC_u hW hrt (zFB_FW a1) a2) (fun I3 L3 b1 b2 b3 b4 => ?_)
    refine cl_tick85 (S := oG P m rt t S) b3 b4 (fun I4 d1 d2 d3 => ?_)
    exact hQ I4 L3 (((zFB_FW a1).trans (zFB_FW b1)).trans d1) (a2.trans b2) d2 b4 d3
  refine zBlkR (M := mX8_advance) (nL := 4) (rt := (Option.none : Option Jvm.ClassFile.FieldType)) (blk := bX8_advance_51) (T := [(59, bX8_advance_59), (60, bX8_advance_60), (69, bX8_advance_69)]) 2 hX8_advance_51 (zChks_cons hX8_advance_59 (zChks_cons hX8_advance_60 (zChks_cons hX8_advance_69 zChks_nil))) rfl rfl rfl (Nat.le_of_ble_eq_true rfl) (Nat.le_of_ble_eq_true rfl) ?_
  simp only [bX8_advance_51, bX8_advance_59, bX8_advance_60, bX8_advance_69, zRun_cons, zRun_nil, zLk, zSto, zIns, zFil, zf0, zf1, zf2, zf3, List.filter_cons, List.filter_nil, Nat.reduceAdd, Nat.reduceEqDiff, Nat.reduceLT, Nat.reduceLeDiff, Nat.reduceBEq, Nat.reduceBNe, reduceIte, if_true, if_false, Bool.false_and, Bool.true_and, Bool.and_true, Bool.and_false, Bool.not_false, Bool.not_true, Bool.false_eq_true, beq_self_eq_true, BEq.rfl, zCat1, zCat2, zCat3, zKdI, zKdL, zKdR, true_and, and_true, zSI, zSL, zSR, zu_at, and_self, and_false, false_and, lv_args, zKdZ, zKdO, zB01, zB11, Option.toList_none, Option.toList_some, List.nil_append, List.cons_append, true_or, or_true, zRow_rd, zu_rd, zo_iconst, zo_icmp_ne, zo_goto, zo_istore_n, zo_iload_n, zo_if_eq, zo_aload_n, zi_2, zi_1, zi_0, zcl_2, zcl_1, zcl_0, zKn_s, zKn_0, zFind, zN10, zN01, not_true_eq_false, not_false_eq_true, false_implies, true_implies, implies_true, eq_self, nI_1, nI_40, nI_7, vz0, vz1, zb1_e0, zb1_n0]
  refine ⟨fun h => ?_, fun h => ?_⟩
  · have hrn : pRains P m t = false := decide_eq_false h
    refine z_cV0 (M' := mX8_letSittersGo) (R' := rX8_letSittersGo) (i := W) [] [] eX8_letSittersGo k8_50 (by decide +kernel : decode cX8_advance 70 = .ok (.invokevirtual 50, 3)) (Nat.le_of_ble_eq_true rfl) ⟨Nat.le_of_ble_eq_true rfl, Nat.le_of_ble_eq_true rfl, Nat.le_of_ble_eq_true rfl, Nat.le_of_ble_eq_true rfl, Nat.le_of_ble_eq_true rfl⟩ rfl rfl rfl (wsh_0 hW) ?_
    refine cl_letSittersGo c1 (fun I2 k2 c2 => ?_)
    refine zBlkR (M := mX8_advance) (nL := 4) (rt := (Option.none : Option Jvm.ClassFile.FieldType)) (blk := bX8_advance_73) (T := [(81, bX8_advance_81)]) 1 hX8_advance_73 (zChks_cons hX8_advance_81 zChks_nil) rfl rfl rfl (Nat.le_of_ble_eq_true rfl) (Nat.le_of_ble_eq_true rfl) ?_
    simp only [bX8_advance_73, bX8_advance_81, zRun_cons, zRun_nil, zLk, zSto, zIns, zFil, zf0, zf1, zf2, zf3, List.filter_cons, List.filter_nil, Nat.reduceAdd, Nat.reduceEqDiff, Nat.reduceLT, Nat.reduceLeDiff, Nat.reduceBEq, Nat.reduceBNe, reduceIte, if_true, if_false, Bool.false_and, Bool.true_and, Bool.and_true, Bool.and_false, Bool.not_false, Bool.not_true, Bool.false_eq_true, beq_self_eq_true, BEq.rfl, zCat1, zCat2, zCat3, zKdI, zKdL, zKdR, true_and, and_true, zSI, zSL, zSR, zu_at, and_self, and_false, false_and, lv_args, zKdZ, zKdO, zB01, zB11, Option.toList_none, Option.toList_some, List.nil_append, List.cons_append, true_or, or_true, zRow_rd, zu_rd, zo_iload_n, zo_if_ne, zo_aload_n, zKn_s, zKn_0, zFind, zN10, zN01, not_true_eq_false, not_false_eq_true, false_implies, true_implies, implies_true, eq_self, nI_1, nI_40, nI_7, vz0, vz1, zb1_e0, zb1_n0]
    refine z_cV0 (M' := mX8_letSittersCome) (R' := rX8_letSittersCome) (i := W) [] [] eX8_letSittersCome k8_53 (by decide +kernel : decode cX8_advance 78 = .ok (.invokevirtual 53, 3)) (Nat.le_of_ble_eq_true rfl) ⟨Nat.le_of_ble_eq_true rfl, Nat.le_of_ble_eq_true rfl, Nat.le_of_ble_eq_true rfl, Nat.le_of_ble_eq_true rfl, Nat.le_of_ble_eq_true rfl⟩ rfl rfl rfl (wsh_0 hW) ?_
    refine cl_letSittersCome hw c2 (fun I3 L3 k3 l3 c3 => ?_)
    refine rnd 0 I3 L3 ((k1.trans k2).trans k3) (zWS2_FWL l3) ?_ ?_
    · rw [oV4, hrn, if_neg (by decide)]; exact c3
    · rw [l3 _ _ (by have := zWc_BW hW; unfold zWS2; omega)]; exact hd
  · have hrn : pRains P m t = true := decide_eq_true h
    refine z_cV0 (M' := mX8_letRainFall) (R' := rX8_letRainFall) (i := W) [] [] eX8_letRainFall k8_47 (by decide +kernel : decode cX8_advance 66 = .ok (.invokevirtual 47, 3)) (Nat.le_of_ble_eq_true rfl) ⟨Nat.le_of_ble_eq_true rfl, Nat.le_of_ble_eq_true rfl, Nat.le_of_ble_eq_true rfl, Nat.le_of_ble_eq_true rfl, Nat.le_of_ble_eq_true rfl⟩ rfl rfl rfl (wsh_0 hW) ?_
    refine cl_letRainFall c1 (fun I2 k2 c2 => ?_)
    refine zBlkR (M := mX8_advance) (nL := 4) (rt := (Option.none : Option Jvm.ClassFile.FieldType)) (blk := bX8_advance_69) (T := []) 0 hX8_advance_69 zChks_nil rfl rfl rfl (Nat.le_of_ble_eq_true rfl) (Nat.le_of_ble_eq_true rfl) ?_
    simp only [bX8_advance_69, zRun_cons, zRun_nil, zLk, zSto, zIns, zFil, zf0, zf1, zf2, zf3, List.filter_cons, List.filter_nil, Nat.reduceAdd, Nat.reduceEqDiff, Nat.reduceLT, Nat.reduceLeDiff, Nat.reduceBEq, Nat.reduceBNe, reduceIte, if_true, if_false, Bool.false_and, Bool.true_and, Bool.and_true, Bool.and_false, Bool.not_false, Bool.not_true, Bool.false_eq_true, beq_self_eq_true, BEq.rfl, zCat1, zCat2, zCat3, zKdI, zKdL, zKdR, true_and, and_true, zSI, zSL, zSR, zu_at, and_self, and_false, false_and, lv_args, zKdZ, zKdO, zB01, zB11, Option.toList_none, Option.toList_some, List.nil_append, List.cons_append, true_or, or_true, zRow_rd, zu_rd, zo_aload_n, zKn_0, zN10, zN01, not_true_eq_false, not_false_eq_true, false_implies, true_implies, implies_true, eq_self, nI_1, nI_40, nI_7, vz0, vz1, zb1_e0, zb1_n0]
    refine z_cV0 (M' := mX8_letSittersGo) (R' := rX8_letSittersGo) (i := W) [] [] eX8_letSittersGo k8_50 (by decide +kernel : decode cX8_advance 70 = .ok (.invokevirtual 50, 3)) (Nat.le_of_ble_eq_true rfl) ⟨Nat.le_of_ble_eq_true rfl, Nat.le_of_ble_eq_true rfl, Nat.le_of_ble_eq_true rfl, Nat.le_of_ble_eq_true rfl, Nat.le_of_ble_eq_true rfl⟩ rfl rfl rfl (wsh_0 hW) ?_
    refine cl_letSittersGo c2 (fun I3 k3 c3 => ?_)
    refine zBlkR (M := mX8_advance) (nL := 4) (rt := (Option.none : Option Jvm.ClassFile.FieldType)) (blk := bX8_advance_73) (T := []) 0 hX8_advance_73 zChks_nil rfl rfl rfl (Nat.le_of_ble_eq_true rfl) (Nat.le_of_ble_eq_true rfl) ?_
    simp only [bX8_advance_73, zRun_cons, zRun_nil, zLk, zSto, zIns, zFil, zf0, zf1, zf2, zf3, List.filter_cons, List.filter_nil, Nat.reduceAdd, Nat.reduceEqDiff, Nat.reduceLT, Nat.reduceLeDiff, Nat.reduceBEq, Nat.reduceBNe, reduceIte, if_true, if_false, Bool.false_and, Bool.true_and, Bool.and_true, Bool.and_false, Bool.not_false, Bool.not_true, Bool.false_eq_true, beq_self_eq_true, BEq.rfl, zCat1, zCat2, zCat3, zKdI, zKdL, zKdR, true_and, and_true, zSI, zSL, zSR, zu_at, and_self, and_false, false_and, lv_args, zKdZ, zKdO, zB01, zB11, Option.toList_none, Option.toList_some, List.nil_append, List.cons_append, true_or, or_true, zRow_rd, zu_rd, zo_iload_n, zo_if_ne, zo_aload_n, zKn_0, zN10, zN01, not_true_eq_false, not_false_eq_true, false_implies, true_implies, implies_true, eq_self, nI_1, nI_40, nI_7, vz0, vz1, zb1_e0, zb1_n0]
    exact rnd 1 I3 L ((k1.trans k2).trans k3) zKpt_rfl (by rw [oV4, hrn, if_pos rfl]; exact c3) hd
theorem oOk_Gb {t : Nat} (hch : pCh P ≤ 40) (h : oOk (pCh P) (pNp P) (pR P 102 8) S.1) : oOk (pCh P) (pNp P) (pR P 102 8) (if br = nI t then (zIter oStack (pCh P) S.1, S.2) else S).1 := by
  split
  · exact zIter_ok (fun _ _ h => oOk_stack h) _ _ h
  · exact h
set_option maxRecDepth 20000 in
theorem cl_advance {t0 : Nat} (hw : zOk w) (hC : zCa I W B T p P m t0 S.1) (hd : L B 15 = S.2) (hR : ROk P rt t0) (hrt : zRtC I L B rt) (htn : t0 + n ≤ 96) (hbr : I T 2 = br) (hQ : ∀ I' L', zKpt (zFW B) I I' → zKpt (zFWL W B) L L' → zCa I' W B T p P m (t0 + n) (oGsb br P m rt t0 n S).1 → L' B 15 = (oGsb br P m rt t0 n S).2 → I' B 11 = (if n = 0 then I B 11 else 0) → Q none (SH, I', L', RF p s r)) : zXM w mX8_advance rX8_advance [.ref W, .int (nI n)] (SH, I, L, RF p s r) Q := by
  unfold zXM
  have hW := hC.1
  have hB := wB hW
  have hch := hC.2.2.1.1
  have hnp := hC.2.2.1.2.1
  refine zBlkR (M := mX8_advance) (nL := 4) (rt := (Option.none : Option Jvm.ClassFile.FieldType)) (blk := bX8_advance_0) (T := []) 0 hX8_advance_0 zChks_nil rfl rfl rfl (Nat.le_of_ble_eq_true rfl) (Nat.le_of_ble_eq_true rfl) ?_
  simp only [bX8_advance_0, zRun_cons, zRun_nil, zLk, zSto, zIns, zFil, zf0, zf1, zf2, zf3, List.filter_cons, List.filter_nil, Nat.reduceAdd, Nat.reduceEqDiff, Nat.reduceLT, Nat.reduceLeDiff, Nat.reduceBEq, Nat.reduceBNe, reduceIte, if_true, if_false, Bool.false_and, Bool.true_and, Bool.and_true, Bool.and_false, Bool.not_false, Bool.not_true, Bool.false_eq_true, beq_self_eq_true, BEq.rfl, zCat1, zCat2, zCat3, zKdI, zKdL, zKdR, true_and, and_true, zSI, zSL, zSR, zu_at, and_self, and_false, false_and, lv_args, zKdZ, zKdO, zB01, zB11, Option.toList_none, Option.toList_some, List.nil_append, List.cons_append, true_or, or_true, zRow_rd, zu_rd, zo_iconst, zo_istore_n, zi_0, zcl_0, zKn_0, zN10, zN01, not_true_eq_false, not_false_eq_true, false_implies, true_implies, implies_true, eq_self, nI_1, nI_40, nI_7, vz0, vz1, zb1_e0, zb1_n0]
  refine zLoop (n := n) (P := fun k => ∀ J K, zKpt (zFW B) I J → zKpt (zFWL W B) L K → zCa J W B T p P m (t0 + k) (oGsb br P m rt t0 k S).1 → K B 15 = (oGsb br P m rt t0 k S).2 → J B 11 = (if k = 0 then I B 11 else 0) → zX w mX8_advance rX8_advance Q 0 0 2 [(0, Value.ref W), (1, Value.int (nI n)), (2, Value.int (nI k))] [] (SH, J, K, RF p s r)) (fun k hk ih => ?_) 0 (Nat.zero_le _) I L zKpt_rfl zKpt_rfl hC hd rfl
  intro J K hJ hK hCJ hdK h11
  have ht := hCJ.2.2.2.2.2.2.2.1
  by_cases hkn : k = n
  · subst hkn
    refine zBlkR (M := mX8_advance) (nL := 4) (rt := (Option.none : Option Jvm.ClassFile.FieldType)) (blk := bX8_advance_2) (T := [(43, bX8_advance_43), (112, bX8_advance_112)]) 1 hX8_advance_2 (zChks_cons hX8_advance_43 (zChks_cons hX8_advance_112 zChks_nil)) rfl rfl rfl (Nat.le_of_ble_eq_true rfl) (Nat.le_of_ble_eq_true rfl) ?_
    simp only [bX8_advance_2, bX8_advance_43, bX8_advance_112, zRun_cons, zRun_nil, zLk, zSto, zIns, zFil, zf0, zf1, zf2, zf3, List.filter_cons, List.filter_nil, Nat.reduceAdd, Nat.reduceEqDiff, Nat.reduceLT, Nat.reduceLeDiff, Nat.reduceBEq, Nat.reduceBNe, reduceIte, if_true, if_false, Bool.false_and, Bool.true_and, Bool.and_true, Bool.and_false, Bool.not_false, Bool.not_true, Bool.false_eq_true, beq_self_eq_true, BEq.rfl, zCat1, zCat2, zCat3, zKdI, zKdL, zKdR, true_and, and_true, zSI, zSL, zSR, zu_at, and_self, and_false, false_and, lv_args, zKdZ, zKdO, zB01, zB11, Option.toList_none, Option.toList_some, List.nil_append, List.cons_append, true_or, or_true, zRow_rd, zu_rd, zo_iload_n, zo_icmp_ge, zo_aload_n, zo_getfield, zo_bipush, zo_icmp_ne, zo_return_, zb_96, zKd_8_0, zKd_2_10, zKd_8_1, zKd_6_2, sh_37, rf_37_0, sh_10, sh_40, rf_40_0, sh_19, sh_28, zcl_96, rf_37_1, sh_8, rf_40_1, sh_9, zKn_s, zKn_0, zFind, zle_nat (a := k) (b := k) (by omega) (by omega), Nat.le_refl, zN10, zN01, not_true_eq_false, not_false_eq_true, false_implies, true_implies, implies_true, eq_self, nI_1, nI_40, nI_7, vz0, vz1, zb1_e0, zb1_n0]
    exact hQ J K hJ hK hCJ hdK h11
  have hx : (nI n ≤ nI k) = False := eq_false (by rw [zle_nat (by omega) (by omega)]; omega)
  have hx2 : ((96 : Int32) ≤ nI (t0 + k)) = False := eq_false (by rw [show (96 : Int32) = nI 96 from rfl, zle_nat (by omega) (by omega)]; omega)
  have hT2 : J T 2 = br := by rw [zFW_out hB hJ (Or.inl (zWc_T hW)), hbr]
  have ih := ih (by omega)
  have ihU : oGsb br P m rt t0 (k + 1) S = oGb br P m rt (t0 + k) (oGsb br P m rt t0 k S) := rfl
  rw [ihU] at ih
  generalize oGsb br P m rt t0 k S = U at *
  have hCw := hCJ.cw (show t0 + k < 96 by omega)
  have hRk := ROk_mono hR (show t0 ≤ t0 + k by omega)
  unfold oGb at ih
  refine zBlkR (M := mX8_advance) (nL := 4) (rt := (Option.none : Option Jvm.ClassFile.FieldType)) (blk := bX8_advance_2) (T := [(112, bX8_advance_112)]) 1 hX8_advance_2 (zChks_cons hX8_advance_112 zChks_nil) rfl rfl rfl (Nat.le_of_ble_eq_true rfl) (Nat.le_of_ble_eq_true rfl) ?_
  simp only [bX8_advance_2, bX8_advance_112, zRun_cons, zRun_nil, zLk, zSto, zIns, zFil, zf0, zf1, zf2, zf3, List.filter_cons, List.filter_nil, Nat.reduceAdd, Nat.reduceEqDiff, Nat.reduceLT, Nat.reduceLeDiff, Nat.reduceBEq, Nat.reduceBNe, reduceIte, if_true, if_false, Bool.false_and, Bool.true_and, Bool.and_true, Bool.and_false, Bool.not_false, Bool.not_true, Bool.false_eq_true, beq_self_eq_true, BEq.rfl, zCat1, zCat2, zCat3, zKdI, zKdL, zKdR, true_and, and_true, zSI, zSL, zSR, zu_at, and_self, and_false, false_and, lv_args, zKdZ, zKdO, zB01, zB11, Option.toList_none, Option.toList_some, List.nil_append, List.cons_append, true_or, or_true, zRow_rd, zu_rd, zo_iload_n, zo_icmp_ge, zo_aload_n, zo_getfield, zo_bipush, zo_icmp_ne, zo_return_, zb_96, zKd_8_0, zKd_2_10, zKd_8_1, zKd_6_2, sh_37, rf_37_0, sh_10, sh_40, rf_40_0, sh_19, sh_28, zcl_96, rf_37_1, sh_8, rf_40_1, sh_9, zKn_s, zKn_0, zFind, (wsh_0 hW), (wsh_1 hW), (wsh_2 hW), (wsh_3 hW), (wrf_0 hW), (wrf_1 hW), (wrf_2 hW), (wrf_3 hW), (wrf_4 hW), Nat.add_left_cancel_iff, Nat.left_eq_add, Nat.add_eq_left, (fsh_0 hB), (fsh_1 hB), (fsh_2 hB), (fsh_3 hB), (fsh_4 hB), (fsh_5 hB), (fsh_6 hB), (fsh_7 hB), (fsh_8 hB), (frf_0 hB), (frf_1 hB), (frf_2 hB), (frf_3 hB), (frf_4 hB), (frf_5 hB), (frf_6 hB), (frf_7 hB), Nat.add_left_cancel_iff, Nat.left_eq_add, Nat.add_eq_left, hx, hx2, ht, hT2, zN10, zN01, not_true_eq_false, not_false_eq_true, false_implies, true_implies, implies_true, eq_self, nI_1, nI_40, nI_7, vz0, vz1, zb1_e0, zb1_n0]
  refine ⟨fun h => ?_, fun h => ?_⟩
  · rw [if_neg h] at ih
    refine cl_tick43 hw hCw hdK hRk (zRtC_u hW hrt hJ hK) (fun I2 L2 a1 a2 a3 a4 a5 => ?_)
    exact ih I2 L2 (hJ.trans a1) (hK.trans a2) a3 a4 (by rw [a5, if_neg (by omega)])
  · rw [if_pos h] at ih
    refine z_cV0 (M' := mX2_bringAll) (R' := rX2_bringAll) (i := B) [] [] eX2_bringAll k8_37 (by decide +kernel : decode cX8_advance 40 = .ok (.invokevirtual 37, 3)) (Nat.le_of_ble_eq_true rfl) ⟨Nat.le_of_ble_eq_true rfl, Nat.le_of_ble_eq_true rfl, Nat.le_of_ble_eq_true rfl, Nat.le_of_ble_eq_true rfl, Nat.le_of_ble_eq_true rfl⟩ rfl rfl rfl (fsh_0 hB) ?_
    refine cl_bringAll hB hch hnp hCw.hF hCw.ok (fun I1 k1 f1 => ?_)
    have hC1 := zCw_u hCw k1 f1 (zIter_ok (fun _ _ h => oOk_stack h) _ _ hCw.ok)
    refine cl_tick43 (S := (zIter oStack (pCh P) U.1, U.2)) hw hC1 hdK hRk (zRtC_u hW hrt (hJ.trans (zFB_FW k1)) hK) (fun I2 L2 a1 a2 a3 a4 a5 => ?_)
    exact ih I2 L2 ((hJ.trans (zFB_FW k1)).trans a1) (hK.trans a2) a3 a4 (by rw [a5, if_neg (by omega)])
end ZC71
