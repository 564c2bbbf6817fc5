/-! ===== CALLS: way, gather ===== -/
/-- what is kept over the first k orders -/
def oFold {σ : Type} (n : Nat) (upd : σ → List Nat → σ) (s0 : σ) : Nat → σ
  | 0 => s0
  | k + 1 => match oSO n k with
    | none => oFold n upd s0 k
    | some l => upd (oFold n upd s0 k) l
def uWay (f g : List Nat → Int32) (z : Int32 × Int32) (l : List Nat) : Int32 × Int32 := if z.1 < f l then (f l, g l) else z
def uGat (f h g : List Nat → Int32) (z : Int32 × Int32 × Int32) (l : List Nat) : Int32 × Int32 × Int32 := if z.1 < f l ∨ (f l = z.1 ∧ h l < z.2.1) then (f l, h l, g l) else z
def rtO (n t : Nat) (l : List Nat) : oRt := (n, t, fun k => l.getD k 0)
def fWay (P : oPn) (V : Nat → Nat → Int32) (d : Int64) (t n : Nat) (l : List Nat) : Int32 := (oGs P (mTold P) (rtO (pNp P) t l) t n (V, d)).1 8 0
def gPk (P : oPn) (l : List Nat) : Int32 := nI (oPkN l (pNp P))
def aWay (P : oPn) (V : Nat → Nat → Int32) (d : Int64) (t : Nat) (x wt : Int32) : Int32 := if pRun t x = true ∧ oIn wt 2 = true ∧ pNp P ≠ 0 then (if wt = 0 then (oFold (pNp P) (uWay (fWay P V d t x.toNatClampNeg) (gPk P)) (-1, 0) 120).1 else (oFold (pNp P) (uWay (fWay P V d t x.toNatClampNeg) (gPk P)) (-1, 0) 120).2) else -1
/-- how many are saved by the first k of an order -/
def oSav (P : oPn) (V : Nat → Nat → Int32) (t : Nat) (l : List Nat) : Nat → Nat
  | 0 => 0
  | k + 1 => oSav P V t l k + if pHit P (t + k) (nI (l.getD k 0)) = true then 0 else oCnt V (nI (l.getD k 0)) 1 (pCh P)
def oAbI (x : Int32) : Int32 := if x < 0 then -x else x
/-- how far it is to walk, and where one is then -/
def oWlk (P : oPn) (l : List Nat) : Nat → Int32 × Int32
  | 0 => (0, 0)
  | k + 1 => ((oWlk P l k).1 + oAbI (pR P 92 (l.getD k 0) - (oWlk P l k).2), pR P 92 (l.getD k 0))
def fSav (P : oPn) (V : Nat → Nat → Int32) (t : Nat) (l : List Nat) : Int32 := nI (oSav P V t l (pNp P))
def fWlk (P : oPn) (l : List Nat) : Int32 := (oWlk P l (pNp P)).1
def aGather (P : oPn) (V : Nat → Nat → Int32) (t : Nat) (wt : Int32) : Int32 := if oIn wt 3 = true ∧ pNp P ≠ 0 then (if wt = 0 then (oFold (pNp P) (uGat (fSav P V t) (fWlk P) (gPk P)) (-1, 0, 0) 120).1 else if wt = 1 then (oFold (pNp P) (uGat (fSav P V t) (fWlk P) (gPk P)) (-1, 0, 0) 120).2.1 else (oFold (pNp P) (uGat (fSav P V t) (fWlk P) (gPk P)) (-1, 0, 0) 120).2.2) else -1
section ZW81
variable {w : zP} {Q : Option Value → zMem → Prop} {μ : zMem} {I J V V' : Nat → Nat → Int32} {L : Nat → Nat → Int64} {p s t kc : Nat} {r : Option Nat} {P : oPn} {m : oTm} {l : List Nat} {n i j k v : Nat} {x wt : Int32} {d : Int64} {rt : oRt} {σ : Type} {upd : σ → List Nat → σ} {s0 : σ}
theorem oSO_none {k : Nat} (h : oSO n k = none) : ∀ m, k ≤ m → oSO n m = none
  | 0, hm => by have : k = 0 := by omega
                subst this; exact h
  | m + 1, hm => by
    by_cases e : k = m + 1
    · rw [← e]; exact h
    · rw [oSO, oSO_none h m (by omega)]; rfl
theorem oFold_s (h : oSO n k = some l) : oFold n upd s0 (k + 1) = upd (oFold n upd s0 k) l := by rw [oFold, h]
theorem oFold_end (h : oSO n k = none) : ∀ m, k ≤ m → oFold n upd s0 m = oFold n upd s0 k
  | 0, hm => by have : k = 0 := by omega
                subst this; rfl
  | m + 1, hm => by
    by_cases e : k = m + 1
    · rw [e]
    · have : oFold n upd s0 (m + 1) = oFold n upd s0 m := by rw [oFold, oSO_none h m (by omega)]
      rw [this]
      exact oFold_end h m (by omega)
/-- what is found at the end, if the k-th order is the last -/
theorem oFold_120 (hn : 1 ≤ n) (hn5 : n ≤ 5) (h : oSO n k = some l) (hl : oNxt l = none) : oFold n upd s0 120 = upd (oFold n upd s0 k) l := by
  have h1 : oSO n (k + 1) = none := by rw [oSO, h, Option.bind_some, hl]
  have hk : k < 120 := by
    rcases Nat.lt_or_ge k 120 with g | g
    · exact g
    · have := oSO_none (oSO_end n (by omega) hn) k g
      rw [this] at h; cases h
  rw [oFold_end h1 120 (by omega), oFold_s h]
def SCq (i _k : Nat) : Prop := i = 9 ∨ (19 ≤ i ∧ i ≤ 27)
theorem SCq_t (h : zKpt SCq I J) : zKpt SCt I J := h.mono (fun i k g => by unfold SCq at g; unfold SCt; omega)
theorem SCt_it (h : zKpt zIt I J) : zKpt SCt I J := h.mono (fun i k g => by unfold zIt at g; unfold SCt; omega)
theorem SCt_54 (h : zKpt (zOne 54) I J) : zKpt SCt I J := h.mono (fun i k g => by unfold zOne at g; unfold SCt; omega)
set_option maxRecDepth 20000 in
theorem cl_prepareQ {d : Int64} {t kc : Nat} (hC : zKl I L p P V d t kc rt) (hQ : ∀ I' L', zKpt SCq I I' → zKpt SCtL L L' → zTr I' L' p P (mTold P) V d t rt (-1) → Q none (SH, I', L', RF p s r)) : zXM w mX9_prepare rX9_prepare [.ref 0] (SH, I, L, RF p s r) Q := by
  unfold zXM
  obtain ⟨hp, hO, hO2, hP, hF, hOk⟩ := hC
  refine zBlkR (M := mX9_prepare) (nL := 1) (rt := (Option.none : Option Jvm.ClassFile.FieldType)) (blk := bX9_prepare_0) (T := []) 0 hX9_prepare_0 zChks_nil rfl rfl rfl (Nat.le_of_ble_eq_true rfl) (Nat.le_of_ble_eq_true rfl) ?_
  simp (implicitDefEqProofs := false) only [bX9_prepare_0, zRun_cons, zRun_nil, zLk, zSto, zIns, zFil, zf0, zf1, zf2, zf3, List.filter_cons, List.filter_nil, Nat.reduceAdd, Nat.reduceEqDiff, Nat.reduceLT, Nat.reduceLeDiff, Nat.reduceBEq, Nat.reduceBNe, reduceIte, if_true, if_false, Bool.false_and, Bool.true_and, Bool.and_true, Bool.and_false, Bool.not_false, Bool.not_true, Bool.false_eq_true, beq_self_eq_true, BEq.rfl, zCat1, zCat2, zCat3, zKdI, zKdL, zKdR, true_and, and_true, zSI, zSL, zSR, zu_at, and_self, and_false, false_and, lv_args, zKdZ, zKdO, zB01, zB11, Option.toList_none, Option.toList_some, List.nil_append, List.cons_append, true_or, or_true, zRow_rd, zu_rd, zo_aload_n, zo_getfield, zKd_9_5, zKd_9_4, sh_0, rf_0_5, sh_19, rf_0_4, sh_10, zKn_0, zN10, zN01, not_true_eq_false, not_false_eq_true, false_implies, true_implies, implies_true, eq_self, nI_1, nI_40, nI_7, vz0, vz1, zb1_e0, zb1_n0]
  refine z_cV0 (M' := mX2_copyFrom) (R' := rX2_copyFrom) (i := 19) [.ref 10] [] eX2_copyFrom k9_319 (by decide +kernel : decode cX9_prepare 8 = .ok (.invokevirtual 319, 3)) (Nat.le_of_ble_eq_true rfl) ⟨Nat.le_of_ble_eq_true rfl, Nat.le_of_ble_eq_true rfl, Nat.le_of_ble_eq_true rfl, Nat.le_of_ble_eq_true rfl, Nat.le_of_ble_eq_true rfl⟩ rfl rfl rfl sh_19 ?_
  refine cl_copy_10_19 (fun I1 L1 hc => ?_)
  have hk1 : zKpt SCq I I1 := hc.1.mono (fun i k g => by unfold zIn9 at g; unfold SCq; omega)
  have hk2 : zKpt SCtL L L1 := hc.2.1.mono (fun i k g => by unfold zInL at g; unfold SCtL; omega)
  have hp36 := zPc_gt hp
  have hP1 : zClsP I1 p P := zClsP_row (fun j => SCt_row (SCq_t hk1) (by rcases hp with rfl | rfl <;> omega)) hP
  have e0 : I1 (p + 11) 0 = pR P 102 5 := hP1.2.2.2.2.2.1.1
  refine zBlkR (M := mX9_prepare) (nL := 1) (rt := (Option.none : Option Jvm.ClassFile.FieldType)) (blk := bX9_prepare_11) (T := []) 0 hX9_prepare_11 zChks_nil rfl rfl rfl (Nat.le_of_ble_eq_true rfl) (Nat.le_of_ble_eq_true rfl) ?_
  simp (implicitDefEqProofs := false) only [bX9_prepare_11, zRun_cons, zRun_nil, zLk, zSto, zIns, zFil, zf0, zf1, zf2, zf3, List.filter_cons, List.filter_nil, Nat.reduceAdd, Nat.reduceEqDiff, Nat.reduceLT, Nat.reduceLeDiff, Nat.reduceBEq, Nat.reduceBNe, reduceIte, if_true, if_false, Bool.false_and, Bool.true_and, Bool.and_true, Bool.and_false, Bool.not_false, Bool.not_true, Bool.false_eq_true, beq_self_eq_true, BEq.rfl, zCat1, zCat2, zCat3, zKdI, zKdL, zKdR, true_and, and_true, zSI, zSL, zSR, zu_at, and_self, and_false, false_and, lv_args, zKdZ, zKdO, zB01, zB11, Option.toList_none, Option.toList_some, List.nil_append, List.cons_append, true_or, or_true, zRow_rd, zu_rd, zo_aload_n, zo_getfield, zo_iconst, zo_iaload, zi_0, zKd_9_3, zKd_9_12, zKd_4_13, sh_0, rf_0_3, sh_9, rf_0_12, sh_55, rf_55_13, sh_66, sh_71, rf_71_13, sh_82, zcl_0, zvi_0_7, zKn_0, (psh_0 hp), (psh_1 hp), (psh_2 hp), (psh_3 hp), (psh_4 hp), (psh_5 hp), (psh_6 hp), (psh_7 hp), (psh_8 hp), (psh_9 hp), (psh_10 hp), (psh_11 hp), (psh_12 hp), (psh_13 hp), (psh_14 hp), (psh_15 hp), (prf_1 hp), (prf_2 hp), (prf_3 hp), (prf_4 hp), (prf_6 hp), (prf_7 hp), (prf_8 hp), (prf_10 hp), (prf_11 hp), (prf_12 hp), (prf_13 hp), (prf_15 hp), (prf_17 hp), (prf_18 hp), (prf_19 hp), Nat.add_left_cancel_iff, Nat.left_eq_add, Nat.add_eq_left, e0, zvi_0_7, zN10, zN01, not_true_eq_false, not_false_eq_true, false_implies, true_implies, implies_true, eq_self, nI_1, nI_40, nI_7, vz0, vz1, zb1_e0, zb1_n0]
  refine z_cV0 (M' := mX6_clear) (R' := rX6_clear) (i := 9) [.int (pR P 102 5)] [] eX6_clear k9_335 (by decide +kernel : decode cX9_prepare 24 = .ok (.invokevirtual 335, 3)) (Nat.le_of_ble_eq_true rfl) ⟨Nat.le_of_ble_eq_true rfl, Nat.le_of_ble_eq_true rfl, Nat.le_of_ble_eq_true rfl, Nat.le_of_ble_eq_true rfl, Nat.le_of_ble_eq_true rfl⟩ rfl rfl rfl sh_9 ?_
  refine sp_termsClear sh_9 ?_
  refine zBlkR (M := mX9_prepare) (nL := 1) (rt := (Option.none : Option Jvm.ClassFile.FieldType)) (blk := bX9_prepare_27) (T := []) 0 hX9_prepare_27 zChks_nil rfl rfl rfl (Nat.le_of_ble_eq_true rfl) (Nat.le_of_ble_eq_true rfl) ?_
  simp (implicitDefEqProofs := false) only [bX9_prepare_27, zRun_cons, zRun_nil, zLk, zSto, zIns, zFil, zf0, zf1, zf2, zf3, List.filter_cons, List.filter_nil, Nat.reduceAdd, Nat.reduceEqDiff, Nat.reduceLT, Nat.reduceLeDiff, Nat.reduceBEq, Nat.reduceBNe, reduceIte, if_true, if_false, Bool.false_and, Bool.true_and, Bool.and_true, Bool.and_false, Bool.not_false, Bool.not_true, Bool.false_eq_true, beq_self_eq_true, BEq.rfl, zCat1, zCat2, zCat3, zKdI, zKdL, zKdR, true_and, and_true, zSI, zSL, zSR, zu_at, and_self, and_false, false_and, lv_args, zKdZ, zKdO, zB01, zB11, Option.toList_none, Option.toList_some, List.nil_append, List.cons_append, true_or, or_true, zRow_rd, zu_rd, zo_return_, zKn_0, zN10, zN01, not_true_eq_false, not_false_eq_true, false_implies, true_implies, implies_true, eq_self, nI_1, nI_40, nI_7, vz0, vz1, zb1_e0, zb1_n0]
  refine hQ _ L1 ?_ hk2 ⟨⟨Or.inr ⟨rfl, rfl, rfl⟩, hp, hO, hO2, ?_, ?_, ?_, ?_, hOk.1⟩, ?_, ?_, ?_, hOk.2.1⟩
  · repeat' first | exact hk1 | refine zKpt.u ?_ ?_
    all_goals (unfold SCq; omega)
  · refine zClsP_row (fun j => ?_) hP1
    funext k
    simp only [zu_at]
    simp only [show p + j ≠ 9 by omega, false_and, if_false]
  · simp [zClsM, zu_at, mTold, zb1]
  · exact zFC_row (fun j hj => by funext k; simp only [zu_at]; simp only [show 19 + j ≠ 9 by omega, false_and, if_false]) (zCop_FC hc hF.1)
  · simp only [zu_at]; simp; rw [hc.2.2.2.2.2.1 10 (by omega) (by omega)]; exact hF.2.1
  · have := zCop_Rt hc hF.2.2.2.1
    unfold zRtC at this ⊢
    simp only [zu_at]; simp; exact this
  · rw [hc.2.2.2.2.2.2.2]; exact hF.2.2.2.2
  · simp [zu_at]
set_option maxRecDepth 20000 in
theorem cl_way (hw : zOk w) (hC : zKl I L p P V d t kc rt) (hQ : ∀ I' L', zKpt SCt I I' → zKpt SCtL L L' → Q (some (.int (aWay P V d t x wt))) (SH, I', L', RF p s r)) : zXM w mX9_way rX9_way [.ref 0, .int x, .int wt] (SH, I, L, RF p s r) Q := by
  unfold zXM
  have hp := hC.1
  have h9 := hC.2.2.2.2.2.2.2.1
  have hnp := hC.2.1.2.1
  have i0 : I p 0 = nI (pNp P) := hC.2.2.2.1.1.1
  refine zBlkR (M := mX9_way) (nL := 6) (rt := (Option.some .int)) (blk := bX9_way_0) (T := []) 0 hX9_way_0 zChks_nil rfl rfl rfl (Nat.le_of_ble_eq_true rfl) (Nat.le_of_ble_eq_true rfl) ?_
  simp (implicitDefEqProofs := false) only [bX9_way_0, zRun_cons, zRun_nil, zLk, zSto, zIns, zFil, zf0, zf1, zf2, zf3, List.filter_cons, List.filter_nil, Nat.reduceAdd, Nat.reduceEqDiff, Nat.reduceLT, Nat.reduceLeDiff, Nat.reduceBEq, Nat.reduceBNe, reduceIte, if_true, if_false, Bool.false_and, Bool.true_and, Bool.and_true, Bool.and_false, Bool.not_false, Bool.not_true, Bool.false_eq_true, beq_self_eq_true, BEq.rfl, zCat1, zCat2, zCat3, zKdI, zKdL, zKdR, true_and, and_true, zSI, zSL, zSR, zu_at, and_self, and_false, false_and, lv_args, zKdZ, zKdO, zB01, zB11, Option.toList_none, Option.toList_some, List.nil_append, List.cons_append, true_or, or_true, zRow_rd, zu_rd, zo_aload_n, zo_iload_n, zKn_0, zN10, zN01, not_true_eq_false, not_false_eq_true, false_implies, true_implies, implies_true, eq_self, nI_1, nI_40, nI_7, vz0, vz1, zb1_e0, zb1_n0]
  refine z_cV0 (M' := mX9_hasRun) (R' := rX9_hasRun) (i := 0) [.int x] [] eX9_hasRun k9_217 (by decide +kernel : decode cX9_way 2 = .ok (.invokevirtual 217, 3)) (Nat.le_of_ble_eq_true rfl) ⟨Nat.le_of_ble_eq_true rfl, Nat.le_of_ble_eq_true rfl, Nat.le_of_ble_eq_true rfl, Nat.le_of_ble_eq_true rfl, Nat.le_of_ble_eq_true rfl⟩ rfl rfl rfl sh_0 ?_
  refine cl_hasRun hC.2.2.2.2.1.2.1 h9 ?_
  unfold aWay at hQ
  have bad : ¬ (pRun t x = true ∧ oIn wt 2 = true ∧ pNp P ≠ 0) → Q (some (.int (-1))) (SH, I, L, RF p s r) := by
    intro h
    rw [if_neg h] at hQ
    exact hQ I L zKpt_rfl zKpt_rfl
  have hgt : (1 < wt) = ¬ wt ≤ 1 := propext (Int32.not_le).symm
  cases hr : pRun t x with
  | false =>
    refine zBlkR (M := mX9_way) (nL := 6) (rt := (Option.some .int)) (blk := bX9_way_5) (T := [(27, bX9_way_27), (29, bX9_way_29)]) 1 hX9_way_5 (zChks_cons hX9_way_27 (zChks_cons hX9_way_29 zChks_nil)) rfl rfl rfl (Nat.le_of_ble_eq_true rfl) (Nat.le_of_ble_eq_true rfl) ?_
    simp (implicitDefEqProofs := false) only [bX9_way_5, bX9_way_27, bX9_way_29, zRun_cons, zRun_nil, zLk, zSto, zIns, zFil, zf0, zf1, zf2, zf3, List.filter_cons, List.filter_nil, Nat.reduceAdd, Nat.reduceEqDiff, Nat.reduceLT, Nat.reduceLeDiff, Nat.reduceBEq, Nat.reduceBNe, reduceIte, if_true, if_false, Bool.false_and, Bool.true_and, Bool.and_true, Bool.and_false, Bool.not_false, Bool.not_true, Bool.false_eq_true, beq_self_eq_true, BEq.rfl, zCat1, zCat2, zCat3, zKdI, zKdL, zKdR, true_and, and_true, zSI, zSL, zSR, zu_at, and_self, and_false, false_and, lv_args, zKdZ, zKdO, zB01, zB11, Option.toList_none, Option.toList_some, List.nil_append, List.cons_append, true_or, or_true, zRow_rd, zu_rd, zo_if_eq, zo_iload_n, zo_if_lt, zo_iconst, zo_icmp_gt, zo_aload_n, zo_getfield, zo_if_ne, zo_ireturn, zo_istore_n, zo_istore, zi_1, zi_m1, zi_0, zKd_9_12, zKd_4_0, zKd_9_11, zcl_1, sh_0, rf_0_12, sh_55, sh_71, zcl_0, rf_0_11, sh_53, zRt, zKn_s, zKn_0, zFind, zb1_f, zN10, zN01, not_true_eq_false, not_false_eq_true, false_implies, true_implies, implies_true, eq_self, nI_1, nI_40, nI_7, vz0, vz1, zb1_e0, zb1_n0]
    exact bad (by rw [hr]; simp)
  | true =>
    refine zBlkR (M := mX9_way) (nL := 6) (rt := (Option.some .int)) (blk := bX9_way_5) (T := [(27, bX9_way_27), (29, bX9_way_29)]) 1 hX9_way_5 (zChks_cons hX9_way_27 (zChks_cons hX9_way_29 zChks_nil)) rfl rfl rfl (Nat.le_of_ble_eq_true rfl) (Nat.le_of_ble_eq_true rfl) ?_
    simp (implicitDefEqProofs := false) only [bX9_way_5, bX9_way_27, bX9_way_29, zRun_cons, zRun_nil, zLk, zSto, zIns, zFil, zf0, zf1, zf2, zf3, List.filter_cons, List.filter_nil, Nat.reduceAdd, Nat.reduceEqDiff, Nat.reduceLT, Nat.reduceLeDiff, Nat.reduceBEq, Nat.reduceBNe, reduceIte, if_true, if_false, Bool.false_and, Bool.true_and, Bool.and_true, Bool.and_false, Bool.not_false, Bool.not_true, Bool.false_eq_true, beq_self_eq_true, BEq.rfl, zCat1, zCat2, zCat3, zKdI, zKdL, zKdR, true_and, and_true, zSI, zSL, zSR, zu_at, and_self, and_false, false_and, lv_args, zKdZ, zKdO, zB01, zB11, Option.toList_none, Option.toList_some, List.nil_append, List.cons_append, true_or, or_true, zRow_rd, zu_rd, zo_if_eq, zo_iload_n, zo_if_lt, zo_iconst, zo_icmp_gt, zo_aload_n, zo_getfield, zo_if_ne, zo_ireturn, zo_istore_n, zo_istore, zi_1, zi_m1, zi_0, zKd_9_12, zKd_4_0, zKd_9_11, zcl_1, sh_0, rf_0_12, sh_55, sh_71, zcl_0, rf_0_11, sh_53, zRt, zKn_s, zKn_0, zFind, (psh_0 hp), (psh_1 hp), (psh_2 hp), (psh_3 hp), (psh_4 hp), (psh_5 hp), (psh_6 hp), (psh_7 hp), (psh_8 hp), (psh_9 hp), (psh_10 hp), (psh_11 hp), (psh_12 hp), (psh_13 hp), (psh_14 hp), (psh_15 hp), (prf_1 hp), (prf_2 hp), (prf_3 hp), (prf_4 hp), (prf_6 hp), (prf_7 hp), (prf_8 hp), (prf_10 hp), (prf_11 hp), (prf_12 hp), (prf_13 hp), (prf_15 hp), (prf_17 hp), (prf_18 hp), (prf_19 hp), Nat.add_left_cancel_iff, Nat.left_eq_add, Nat.add_eq_left, zb1_t, i0, hgt, show (nI (pNp P) = 0) = (pNp P = 0) from zeq_nat (b := 0) (by omega) (by omega), zN10, zN01, not_true_eq_false, not_false_eq_true, false_implies, true_implies, implies_true, eq_self, nI_1, nI_40, nI_7, vz0, vz1, zb1_e0, zb1_n0]
    refine ⟨fun h => bad (by rw [oIn2.mp (Or.inl h)]; simp), fun h => ⟨fun h2 => bad (by rw [oIn2.mp (Or.inr h2)]; simp), fun h2 => ⟨fun hn0 => ?_, fun hn0 => bad (fun g => g.2.2 hn0)⟩⟩⟩
    have h2 : wt ≤ 1 := Classical.not_not.mp h2
    have hin : oIn wt 2 = true := by
      cases hi : oIn wt 2 with
      | true => rfl
      | false => exact absurd (oIn2.mpr hi) (fun q => q.elim h (fun g => g h2))
    rw [if_pos ⟨hr, hin, hn0⟩] at hQ
    obtain ⟨n, e, hn⟩ := pRun_t hr h9
    subst e
    rw [nI_clamp (by omega)] at hQ
    generalize hf : fWay P V d t n = f at hQ
    have hn1 : 1 ≤ pNp P := by omega
    refine z_cV0 (M' := mX3_start) (R' := rX3_start) (i := 53) [.int (nI (pNp P))] [] eX3_start k9_248 (by decide +kernel : decode cX9_way 45 = .ok (.invokevirtual 248, 3)) (Nat.le_of_ble_eq_true rfl) ⟨Nat.le_of_ble_eq_true rfl, Nat.le_of_ble_eq_true rfl, Nat.le_of_ble_eq_true rfl, Nat.le_of_ble_eq_true rfl, Nat.le_of_ble_eq_true rfl⟩ rfl rfl rfl sh_53 ?_
    refine cl_start hnp (fun I1 k1 a1 a2 => ?_)
    refine zBlkR (M := mX9_way) (nL := 6) (rt := (Option.some .int)) (blk := bX9_way_48) (T := []) 0 hX9_way_48 zChks_nil rfl rfl rfl (Nat.le_of_ble_eq_true rfl) (Nat.le_of_ble_eq_true rfl) ?_
    simp (implicitDefEqProofs := false) only [bX9_way_48, zRun_cons, zRun_nil, zLk, zSto, zIns, zFil, zf0, zf1, zf2, zf3, List.filter_cons, List.filter_nil, Nat.reduceAdd, Nat.reduceEqDiff, Nat.reduceLT, Nat.reduceLeDiff, Nat.reduceBEq, Nat.reduceBNe, reduceIte, if_true, if_false, Bool.false_and, Bool.true_and, Bool.and_true, Bool.and_false, Bool.not_false, Bool.not_true, Bool.false_eq_true, beq_self_eq_true, BEq.rfl, zCat1, zCat2, zCat3, zKdI, zKdL, zKdR, true_and, and_true, zSI, zSL, zSR, zu_at, and_self, and_false, false_and, lv_args, zKdZ, zKdO, zB01, zB11, Option.toList_none, Option.toList_some, List.nil_append, List.cons_append, true_or, or_true, zRow_rd, zu_rd, zo_iconst, zo_istore, zi_0, zcl_0, zKn_0, zN10, zN01, not_true_eq_false, not_false_eq_true, false_implies, true_implies, implies_true, eq_self, nI_1, nI_40, nI_7, vz0, vz1, zb1_e0, zb1_n0]
    refine zLoop (n := 120) (P := fun k => ∀ J K l, zKpt SCt I J → zKpt SCtL L K → J 53 1 = nI (pNp P) → oSO (pNp P) k = some l → zOrd (J 54) l → zX w mX9_way rX9_way Q 0 0 51 [(0, Value.ref 0), (1, Value.int (nI n)), (2, Value.int wt), (3, Value.int (oFold (pNp P) (uWay f (gPk P)) (-1, 0) k).1), (4, Value.int (oFold (pNp P) (uWay f (gPk P)) (-1, 0) k).2), (5, Value.int (nI k))] [] (SH, J, K, RF p s r)) (fun k hk ih => ?_) 0 (Nat.zero_le _) I1 L _ (SCt_it k1) zKpt_rfl a1 rfl a2
    intro J K l hJ hK h53 hso hO
    by_cases hke : k = 120
    · rw [hke, oSO_end (pNp P) (by omega) hn1] at hso; cases hso
    have hl := lOk_SO hn1 hso
    have hx : ((120 : Int32) ≤ nI k) = False := eq_false (by rw [show (120 : Int32) = nI 120 from rfl, zle_nat (by omega) (by omega)]; omega)
    have hCJ := zKl_t hJ hK hC
    have ih := ih (by omega)
    have h16 : ∀ i, i < pNp P → l.getD i 0 < 16 := fun i hi => by have := hl.2 i hi; omega
    have e120 := fun h => oFold_120 (upd := uWay f (gPk P)) (s0 := ((-1 : Int32), (0 : Int32))) hn1 hnp hso h
    have es := oFold_s (upd := uWay f (gPk P)) (s0 := ((-1 : Int32), (0 : Int32))) hso
    generalize oFold (pNp P) (uWay f (gPk P)) (-1, 0) k = z at *
    refine zBlkR (M := mX9_way) (nL := 6) (rt := (Option.some .int)) (blk := bX9_way_51) (T := [(143, bX9_way_143), (151, bX9_way_151), (153, bX9_way_153)]) 2 hX9_way_51 (zChks_cons hX9_way_143 (zChks_cons hX9_way_151 (zChks_cons hX9_way_153 zChks_nil))) rfl rfl rfl (Nat.le_of_ble_eq_true rfl) (Nat.le_of_ble_eq_true rfl) ?_
    simp (implicitDefEqProofs := false) only [bX9_way_51, bX9_way_143, bX9_way_151, bX9_way_153, zRun_cons, zRun_nil, zLk, zSto, zIns, zFil, zf0, zf1, zf2, zf3, List.filter_cons, List.filter_nil, Nat.reduceAdd, Nat.reduceEqDiff, Nat.reduceLT, Nat.reduceLeDiff, Nat.reduceBEq, Nat.reduceBNe, reduceIte, if_true, if_false, Bool.false_and, Bool.true_and, Bool.and_true, Bool.and_false, Bool.not_false, Bool.not_true, Bool.false_eq_true, beq_self_eq_true, BEq.rfl, zCat1, zCat2, zCat3, zKdI, zKdL, zKdR, true_and, and_true, zSI, zSL, zSR, zu_at, and_self, and_false, false_and, lv_args, zKdZ, zKdO, zB01, zB11, Option.toList_none, Option.toList_some, List.nil_append, List.cons_append, true_or, or_true, zRow_rd, zu_rd, zo_iload, zo_bipush, zo_icmp_ge, zo_aload_n, zo_iload_n, zo_if_ne, zo_goto, zo_ireturn, zb_120, zcl_120, zRt, zKn_s, zKn_0, zFind, hx, zN10, zN01, not_true_eq_false, not_false_eq_true, false_implies, true_implies, implies_true, eq_self, nI_1, nI_40, nI_7, vz0, vz1, zb1_e0, zb1_n0]
    refine z_cV0 (M' := mX9_prepare) (R' := rX9_prepare) (i := 0) [] [] eX9_prepare k9_233 (by decide +kernel : decode cX9_way 59 = .ok (.invokevirtual 233, 3)) (Nat.le_of_ble_eq_true rfl) ⟨Nat.le_of_ble_eq_true rfl, Nat.le_of_ble_eq_true rfl, Nat.le_of_ble_eq_true rfl, Nat.le_of_ble_eq_true rfl, Nat.le_of_ble_eq_true rfl⟩ rfl rfl rfl sh_0 ?_
    refine cl_prepareQ hCJ (fun I2 L2 k2 k3 hT => ?_)
    have g53 : I2 53 1 = nI (pNp P) := by rw [k2 53 1 (by unfold SCq; omega), h53]
    have g54 : zOrd (I2 54) l := by
      have e : I2 54 = J 54 := funext fun b => k2 54 b (by unfold SCq; omega)
      rw [e]; exact hO
    have j0 : I2 p 0 = nI (pNp P) := hT.1.2.2.2.2.1.1.1
    refine zBlkR (M := mX9_way) (nL := 6) (rt := (Option.some .int)) (blk := bX9_way_62) (T := []) 0 hX9_way_62 zChks_nil rfl rfl rfl (Nat.le_of_ble_eq_true rfl) (Nat.le_of_ble_eq_true rfl) ?_
    simp (implicitDefEqProofs := false) only [bX9_way_62, zRun_cons, zRun_nil, zLk, zSto, zIns, zFil, zf0, zf1, zf2, zf3, List.filter_cons, List.filter_nil, Nat.reduceAdd, Nat.reduceEqDiff, Nat.reduceLT, Nat.reduceLeDiff, Nat.reduceBEq, Nat.reduceBNe, reduceIte, if_true, if_false, Bool.false_and, Bool.true_and, Bool.and_true, Bool.and_false, Bool.not_false, Bool.not_true, Bool.false_eq_true, beq_self_eq_true, BEq.rfl, zCat1, zCat2, zCat3, zKdI, zKdL, zKdR, true_and, and_true, zSI, zSL, zSR, zu_at, and_self, and_false, false_and, lv_args, zKdZ, zKdO, zB01, zB11, Option.toList_none, Option.toList_some, List.nil_append, List.cons_append, true_or, or_true, zRow_rd, zu_rd, zo_aload_n, zo_getfield, zKd_9_5, zKd_9_12, zKd_4_0, zKd_9_11, sh_0, rf_0_5, sh_19, rf_0_12, sh_55, sh_71, rf_0_11, sh_53, zKn_0, (psh_0 hp), (psh_1 hp), (psh_2 hp), (psh_3 hp), (psh_4 hp), (psh_5 hp), (psh_6 hp), (psh_7 hp), (psh_8 hp), (psh_9 hp), (psh_10 hp), (psh_11 hp), (psh_12 hp), (psh_13 hp), (psh_14 hp), (psh_15 hp), (prf_1 hp), (prf_2 hp), (prf_3 hp), (prf_4 hp), (prf_6 hp), (prf_7 hp), (prf_8 hp), (prf_10 hp), (prf_11 hp), (prf_12 hp), (prf_13 hp), (prf_15 hp), (prf_17 hp), (prf_18 hp), (prf_19 hp), Nat.add_left_cancel_iff, Nat.left_eq_add, Nat.add_eq_left, j0, zN10, zN01, not_true_eq_false, not_false_eq_true, false_implies, true_implies, implies_true, eq_self, nI_1, nI_40, nI_7, vz0, vz1, zb1_e0, zb1_n0]
    refine z_cV0 (M' := mX3_packed) (R' := rX3_packed) (i := 53) [] [.int (nI (pNp P)), .ref 19] eX3_packed k9_251 (by decide +kernel : decode cX9_way 77 = .ok (.invokevirtual 251, 3)) (Nat.le_of_ble_eq_true rfl) ⟨Nat.le_of_ble_eq_true rfl, Nat.le_of_ble_eq_true rfl, Nat.le_of_ble_eq_true rfl, Nat.le_of_ble_eq_true rfl, Nat.le_of_ble_eq_true rfl⟩ rfl rfl rfl sh_53 ?_
    refine cl_packed hnp g53 hl g54 ?_
    refine zBlkR (M := mX9_way) (nL := 6) (rt := (Option.some .int)) (blk := bX9_way_80) (T := []) 0 hX9_way_80 zChks_nil rfl rfl rfl (Nat.le_of_ble_eq_true rfl) (Nat.le_of_ble_eq_true rfl) ?_
    simp (implicitDefEqProofs := false) only [bX9_way_80, zRun_cons, zRun_nil, zLk, zSto, zIns, zFil, zf0, zf1, zf2, zf3, List.filter_cons, List.filter_nil, Nat.reduceAdd, Nat.reduceEqDiff, Nat.reduceLT, Nat.reduceLeDiff, Nat.reduceBEq, Nat.reduceBNe, reduceIte, if_true, if_false, Bool.false_and, Bool.true_and, Bool.and_true, Bool.and_false, Bool.not_false, Bool.not_true, Bool.false_eq_true, beq_self_eq_true, BEq.rfl, zCat1, zCat2, zCat3, zKdI, zKdL, zKdR, true_and, and_true, zSI, zSL, zSR, zu_at, and_self, and_false, false_and, lv_args, zKdZ, zKdO, zB01, zB11, Option.toList_none, Option.toList_some, List.nil_append, List.cons_append, true_or, or_true, zRow_rd, zu_rd, zo_i2l, zKn_0, zCat2, zN10, zN01, not_true_eq_false, not_false_eq_true, false_implies, true_implies, implies_true, eq_self, nI_1, nI_40, nI_7, vz0, vz1, zb1_e0, zb1_n0]
    refine z_cV0 (M' := mX2_setRoute) (R' := rX2_setRoute) (i := 19) [.int (nI (pNp P)), .long (nI (oPkN l (pNp P))).toInt64] [] eX2_setRoute k9_213 (by decide +kernel : decode cX9_way 81 = .ok (.invokevirtual 213, 3)) (Nat.le_of_ble_eq_true rfl) ⟨Nat.le_of_ble_eq_true rfl, Nat.le_of_ble_eq_true rfl, Nat.le_of_ble_eq_true rfl, Nat.le_of_ble_eq_true rfl, Nat.le_of_ble_eq_true rfl⟩ rfl rfl rfl sh_19 ?_
    refine sp_setRoute sh_19 ?_
    have e10 : I2 19 10 = nI t := hT.1.2.2.2.2.2.2.2.1
    rw [e10]
    have k4 : zKpt SCq I2 (zu (zu I2 19 12 (nI (pNp P))) 19 13 (nI t)) := by
      refine (zKpt_rfl.u ?_).u ?_ <;> unfold SCq <;> omega
    have hT2 : zTr (zu (zu I2 19 12 (nI (pNp P))) 19 13 (nI t)) (zu L2 19 14 (nI (oPkN l (pNp P))).toInt64) p P (mTold P) V d t (rtO (pNp P) t l) (-1) := by
      obtain ⟨⟨b1, b2, b3, b4, b5, b6, b7, b8, b9⟩, c1, c2, c3, c4⟩ := hT
      have hp36 := zPc_gt hp
      refine ⟨⟨b1, b2, b3, b4, zClsP_row (fun q => funext fun b => ?_) b5, ?_, zFC_same b7 ?_ (fun _ => rfl) (fun _ => rfl) ?_ ?_ ?_ ?_, ?_, b9⟩, ⟨?_, ?_, fun q hq => ?_⟩, ?_, ?_, ⟨by show pNp P ≤ 8; omega, Nat.le_refl _, fun q hq => ?_⟩⟩
      · simp only [zu_at]; simp only [show p + q ≠ 19 by omega, false_and, if_false]
      · have : (zu (zu I2 19 12 (nI (pNp P))) 19 13 (nI t)) 9 = I2 9 := by funext b; simp [zu_at]
        rw [this]; exact b6
      · rw [vCuB, vCuB, b7.1]
      · simp [zu_at]
      · simp [zu_at]
      · intro b; simp [zu_at]
      · intro b; simp [zu_at]
      · simp [zu_at]; exact b8
      · simp [zu_at, rtO]
      · simp [zu_at, rtO]
      · rw [zu_at, if_pos ⟨rfl, rfl⟩]
        exact oPk_rt h16 hnp hq
      · rw [zu_at, if_neg (by decide)]; exact c2
      · simp [zu_at]; exact c3
      · have := hl.2 q hq
        exact this
    refine zBlkR (M := mX9_way) (nL := 6) (rt := (Option.some .int)) (blk := bX9_way_84) (T := []) 0 hX9_way_84 zChks_nil rfl rfl rfl (Nat.le_of_ble_eq_true rfl) (Nat.le_of_ble_eq_true rfl) ?_
    simp (implicitDefEqProofs := false) only [bX9_way_84, zRun_cons, zRun_nil, zLk, zSto, zIns, zFil, zf0, zf1, zf2, zf3, List.filter_cons, List.filter_nil, Nat.reduceAdd, Nat.reduceEqDiff, Nat.reduceLT, Nat.reduceLeDiff, Nat.reduceBEq, Nat.reduceBNe, reduceIte, if_true, if_false, Bool.false_and, Bool.true_and, Bool.and_true, Bool.and_false, Bool.not_false, Bool.not_true, Bool.false_eq_true, beq_self_eq_true, BEq.rfl, zCat1, zCat2, zCat3, zKdI, zKdL, zKdR, true_and, and_true, zSI, zSL, zSR, zu_at, and_self, and_false, false_and, lv_args, zKdZ, zKdO, zB01, zB11, Option.toList_none, Option.toList_some, List.nil_append, List.cons_append, true_or, or_true, zRow_rd, zu_rd, zo_aload_n, zo_getfield, zo_iload_n, zKd_9_8, sh_0, rf_0_8, sh_40, zKn_0, zN10, zN01, not_true_eq_false, not_false_eq_true, false_implies, true_implies, implies_true, eq_self, nI_1, nI_40, nI_7, vz0, vz1, zb1_e0, zb1_n0]
    refine z_cV0 (M' := mX8_advance) (R' := rX8_advance) (i := 40) [.int (nI n)] [] eX8_advance k9_220 (by decide +kernel : decode cX9_way 89 = .ok (.invokevirtual 220, 3)) (Nat.le_of_ble_eq_true rfl) ⟨Nat.le_of_ble_eq_true rfl, Nat.le_of_ble_eq_true rfl, Nat.le_of_ble_eq_true rfl, Nat.le_of_ble_eq_true rfl, Nat.le_of_ble_eq_true rfl⟩ rfl rfl rfl sh_40 ?_
    refine cl_advance (S := (V, d)) hw hT2.1 hT2.2.2.1 hT2.2.2.2.2 hT2.2.1 hn hT2.2.2.2.1 (fun I3 L3 k5 k6 c1 c2 c3 => ?_)
    rw [oGsb_m1 hn] at c1
    have e8 : I3 27 0 = f l := by
      have := c1.2.2.2.2.2.2.1.v8 (c := 0) (by omega)
      rw [← hf]; exact this
    have kA : zKpt SCt J I3 := (((SCq_t k2).trans (SCq_t k4)).trans (zTr_kp k5 k6).1)
    have kB : zKpt SCtL K L3 := (k3.u (by unfold SCtL; omega)).trans (zTr_kp k5 k6).2
    have q53 : I3 53 1 = nI (pNp P) := by rw [k5 53 1 (by unfold zFW; omega), k4 53 1 (by unfold SCq; omega), g53]
    have q54 : zOrd (I3 54) l := by
      have e : I3 54 = I2 54 := funext fun b => by rw [k5 54 b (by unfold zFW; omega), k4 54 b (by unfold SCq; omega)]
      rw [e]; exact g54
    have fin : ∀ z', uWay f (gPk P) z l = z' → zX w mX9_way rX9_way Q 0 0 128 [(0, Value.ref 0), (1, Value.int (nI n)), (2, Value.int wt), (3, Value.int z'.1), (4, Value.int z'.2), (5, Value.int (nI k))] [Value.ref 53] (SH, I3, L3, RF p s r) := by
      intro z' hz'
      rw [hz'] at e120 es
      refine z_cV0 (M' := mX3_step) (R' := rX3_step) (i := 53) [] [] eX3_step k9_255 (by decide +kernel : decode cX9_way 128 = .ok (.invokevirtual 255, 3)) (Nat.le_of_ble_eq_true rfl) ⟨Nat.le_of_ble_eq_true rfl, Nat.le_of_ble_eq_true rfl, Nat.le_of_ble_eq_true rfl, Nat.le_of_ble_eq_true rfl, Nat.le_of_ble_eq_true rfl⟩ rfl rfl rfl sh_53 ?_
      refine cl_step hn1 hnp q53 hl q54 (fun h => ?_) (fun l' I4 h k7 o4 => ?_)
      · have hQ := hQ I3 L3 (hJ.trans kA) (hK.trans kB)
        rw [e120 h] at hQ
        refine zBlkR (M := mX9_way) (nL := 6) (rt := (Option.some .int)) (blk := bX9_way_131) (T := [(137, bX9_way_137), (143, bX9_way_143), (151, bX9_way_151), (153, bX9_way_153)]) 2 hX9_way_131 (zChks_cons hX9_way_137 (zChks_cons hX9_way_143 (zChks_cons hX9_way_151 (zChks_cons hX9_way_153 zChks_nil)))) rfl rfl rfl (Nat.le_of_ble_eq_true rfl) (Nat.le_of_ble_eq_true rfl) ?_
        simp (implicitDefEqProofs := false) only [bX9_way_131, bX9_way_137, bX9_way_143, bX9_way_151, bX9_way_153, zRun_cons, zRun_nil, zLk, zSto, zIns, zFil, zf0, zf1, zf2, zf3, List.filter_cons, List.filter_nil, Nat.reduceAdd, Nat.reduceEqDiff, Nat.reduceLT, Nat.reduceLeDiff, Nat.reduceBEq, Nat.reduceBNe, reduceIte, if_true, if_false, Bool.false_and, Bool.true_and, Bool.and_true, Bool.and_false, Bool.not_false, Bool.not_true, Bool.false_eq_true, beq_self_eq_true, BEq.rfl, zCat1, zCat2, zCat3, zKdI, zKdL, zKdR, true_and, and_true, zSI, zSL, zSR, zu_at, and_self, and_false, false_and, lv_args, zKdZ, zKdO, zB01, zB11, Option.toList_none, Option.toList_some, List.nil_append, List.cons_append, true_or, or_true, zRow_rd, zu_rd, zo_if_ne, zo_goto, zo_iinc, zo_iload_n, zo_iload, zo_ireturn, zi_1, zRt, zKn_s, zKn_0, zFind, zN10, zN01, not_true_eq_false, not_false_eq_true, false_implies, true_implies, implies_true, eq_self, nI_1, nI_40, nI_7, vz0, vz1, zb1_e0, zb1_n0]
        refine ⟨fun g => ?_, fun g => ?_⟩
        · rw [if_neg g] at hQ; exact hQ
        · rw [if_pos g] at hQ; exact hQ
      · have ih := ih I4 L3 l' ((hJ.trans kA).trans (SCt_54 k7)) (hK.trans kB) (by rw [k7 53 1 (by unfold zOne; omega), q53]) (by rw [oSO, hso, Option.bind_some, h]) o4
        rw [es] at ih
        refine zBlkR (M := mX9_way) (nL := 6) (rt := (Option.some .int)) (blk := bX9_way_131) (T := [(137, bX9_way_137), (143, bX9_way_143), (151, bX9_way_151), (153, bX9_way_153)]) 2 hX9_way_131 (zChks_cons hX9_way_137 (zChks_cons hX9_way_143 (zChks_cons hX9_way_151 (zChks_cons hX9_way_153 zChks_nil)))) rfl rfl rfl (Nat.le_of_ble_eq_true rfl) (Nat.le_of_ble_eq_true rfl) ?_
        simp (implicitDefEqProofs := false) only [bX9_way_131, bX9_way_137, bX9_way_143, bX9_way_151, bX9_way_153, zRun_cons, zRun_nil, zLk, zSto, zIns, zFil, zf0, zf1, zf2, zf3, List.filter_cons, List.filter_nil, Nat.reduceAdd, Nat.reduceEqDiff, Nat.reduceLT, Nat.reduceLeDiff, Nat.reduceBEq, Nat.reduceBNe, reduceIte, if_true, if_false, Bool.false_and, Bool.true_and, Bool.and_true, Bool.and_false, Bool.not_false, Bool.not_true, Bool.false_eq_true, beq_self_eq_true, BEq.rfl, zCat1, zCat2, zCat3, zKdI, zKdL, zKdR, true_and, and_true, zSI, zSL, zSR, zu_at, and_self, and_false, false_and, lv_args, zKdZ, zKdO, zB01, zB11, Option.toList_none, Option.toList_some, List.nil_append, List.cons_append, true_or, or_true, zRow_rd, zu_rd, zo_if_ne, zo_goto, zo_iinc, zo_iload_n, zo_iload, zo_ireturn, zi_1, zRt, zKn_s, zKn_0, zFind, zN10, zN01, not_true_eq_false, not_false_eq_true, false_implies, true_implies, implies_true, eq_self, nI_1, nI_40, nI_7, vz0, vz1, zb1_e0, zb1_n0]
        exact ih
    refine zBlkR (M := mX9_way) (nL := 6) (rt := (Option.some .int)) (blk := bX9_way_92) (T := [(124, bX9_way_124)]) 1 hX9_way_92 (zChks_cons hX9_way_124 zChks_nil) rfl rfl rfl (Nat.le_of_ble_eq_true rfl) (Nat.le_of_ble_eq_true rfl) ?_
    simp (implicitDefEqProofs := false) only [bX9_way_92, bX9_way_124, zRun_cons, zRun_nil, zLk, zSto, zIns, zFil, zf0, zf1, zf2, zf3, List.filter_cons, List.filter_nil, Nat.reduceAdd, Nat.reduceEqDiff, Nat.reduceLT, Nat.reduceLeDiff, Nat.reduceBEq, Nat.reduceBNe, reduceIte, if_true, if_false, Bool.false_and, Bool.true_and, Bool.and_true, Bool.and_false, Bool.not_false, Bool.not_true, Bool.false_eq_true, beq_self_eq_true, BEq.rfl, zCat1, zCat2, zCat3, zKdI, zKdL, zKdR, true_and, and_true, zSI, zSL, zSR, zu_at, and_self, and_false, false_and, lv_args, zKdZ, zKdO, zB01, zB11, Option.toList_none, Option.toList_some, List.nil_append, List.cons_append, true_or, or_true, zRow_rd, zu_rd, zo_aload_n, zo_getfield, zo_iconst, zo_iaload, zo_iload_n, zo_icmp_le, zo_istore_n, zi_0, zKd_9_5, zKd_2_7, zKd_9_11, sh_0, rf_0_5, sh_19, sh_10, rf_10_7, sh_18, rf_19_7, sh_27, sh_28, rf_28_7, sh_36, zcl_0, rf_0_11, sh_53, zvi_0_7, zKn_s, zKn_0, zFind, zvi_0_7, e8, zN10, zN01, not_true_eq_false, not_false_eq_true, false_implies, true_implies, implies_true, eq_self, nI_1, nI_40, nI_7, vz0, vz1, zb1_e0, zb1_n0]
    refine ⟨fun h => ?_, fun h => ?_⟩
    · exact fin z (by rw [uWay, if_neg (Int32.not_lt.mpr h)])
    · refine z_cV0 (M' := mX3_packed) (R' := rX3_packed) (i := 53) [] [] eX3_packed k9_251 (by decide +kernel : decode cX9_way 119 = .ok (.invokevirtual 251, 3)) (Nat.le_of_ble_eq_true rfl) ⟨Nat.le_of_ble_eq_true rfl, Nat.le_of_ble_eq_true rfl, Nat.le_of_ble_eq_true rfl, Nat.le_of_ble_eq_true rfl, Nat.le_of_ble_eq_true rfl⟩ rfl rfl rfl sh_53 ?_
      refine cl_packed hnp q53 hl q54 ?_
      refine zBlkR (M := mX9_way) (nL := 6) (rt := (Option.some .int)) (blk := bX9_way_122) (T := []) 0 hX9_way_122 zChks_nil rfl rfl rfl (Nat.le_of_ble_eq_true rfl) (Nat.le_of_ble_eq_true rfl) ?_
      simp (implicitDefEqProofs := false) only [bX9_way_122, zRun_cons, zRun_nil, zLk, zSto, zIns, zFil, zf0, zf1, zf2, zf3, List.filter_cons, List.filter_nil, Nat.reduceAdd, Nat.reduceEqDiff, Nat.reduceLT, Nat.reduceLeDiff, Nat.reduceBEq, Nat.reduceBNe, reduceIte, if_true, if_false, Bool.false_and, Bool.true_and, Bool.and_true, Bool.and_false, Bool.not_false, Bool.not_true, Bool.false_eq_true, beq_self_eq_true, BEq.rfl, zCat1, zCat2, zCat3, zKdI, zKdL, zKdR, true_and, and_true, zSI, zSL, zSR, zu_at, and_self, and_false, false_and, lv_args, zKdZ, zKdO, zB01, zB11, Option.toList_none, Option.toList_some, List.nil_append, List.cons_append, true_or, or_true, zRow_rd, zu_rd, zo_istore, zo_aload_n, zo_getfield, zKd_9_11, sh_0, rf_0_11, sh_53, zKn_0, zN10, zN01, not_true_eq_false, not_false_eq_true, false_implies, true_implies, implies_true, eq_self, nI_1, nI_40, nI_7, vz0, vz1, zb1_e0, zb1_n0]
      exact fin (f l, gPk P l) (by rw [uWay, if_pos (Int32.not_le.mp h)])
theorem SRt_128 (h : zKpt (zOne 128) I J) : zKpt SRt I J := h.mono (fun i k g => by unfold zOne at g; unfold SRt; omega)
set_option maxRecDepth 20000 in
theorem mo_way (hR : zRl I L P V d t kc rt) (hf0 : ∀ n, t + n ≤ 96 → (-1 : Int32) < fWay P V d t n (List.range (pNp P))) (hQ : ∀ I' L', zKpt SRt I I' → zKpt SRtL L L' → Q (some (.int (aWay P V d t x wt))) (SH, I', L', RF p s r)) : zXM w mX10_way rX10_way [.ref 87, .int x, .int wt] (SH, I, L, RF p s r) Q := by
  unfold zXM
  have h0 : zKpt SRt I (zu I 87 2 0) := zKpt_rfl.u (by unfold SRt; omega)
  have hR := zRl_t h0 zKpt_rfl hR
  have h9 := hR.2.2.2.2.2.2.2.1
  have hnp := hR.1.2.1
  have hok := hR.2.2.2.2.2.1
  have hpa : ∀ c, c < 40 → V 5 c = 0 ∨ V 5 c = 1 := fun c hc => oOk_pa hR.2.2.2.2.2.1 hc
  have e12 := hR.2.2.1.2.1
  unfold aWay at hQ
  have bad : ¬ (pRun t x = true ∧ oIn wt 2 = true ∧ pNp P ≠ 0) → Q (some (.int (-1))) (SH, zu I 87 2 0, L, RF p s r) := by
    intro h
    rw [if_neg h] at hQ
    exact hQ _ L h0 zKpt_rfl
  have e12' : I 87 12 = nI (pNp P) := by simpa [zu_at] using e12
  refine zBlkR (M := mX10_way) (nL := 7) (rt := (Option.some .int)) (blk := bX10_way_0) (T := [(29, bX10_way_29)]) 1 hX10_way_0 (zChks_cons hX10_way_29 zChks_nil) rfl rfl rfl (Nat.le_of_ble_eq_true rfl) (Nat.le_of_ble_eq_true rfl) ?_
  simp (implicitDefEqProofs := false) only [bX10_way_0, bX10_way_29, zRun_cons, zRun_nil, zLk, zSto, zIns, zFil, zf0, zf1, zf2, zf3, List.filter_cons, List.filter_nil, Nat.reduceAdd, Nat.reduceEqDiff, Nat.reduceLT, Nat.reduceLeDiff, Nat.reduceBEq, Nat.reduceBNe, reduceIte, if_true, if_false, Bool.false_and, Bool.true_and, Bool.and_true, Bool.and_false, Bool.not_false, Bool.not_true, Bool.false_eq_true, beq_self_eq_true, BEq.rfl, zCat1, zCat2, zCat3, zKdI, zKdL, zKdR, true_and, and_true, zSI, zSL, zSR, zu_at, and_self, and_false, false_and, lv_args, zKdZ, zKdO, zB01, zB11, Option.toList_none, Option.toList_some, List.nil_append, List.cons_append, true_or, or_true, zRow_rd, zu_rd, zo_aload_n, zo_iconst, zo_putfield, zo_putfield_2, zo_putfield_3, zo_getfield, zo_if_eq, zo_iload_n, zo_ireturn, zi_0, zi_m1, zKd_10_2, zTy_10_2, zKd_10_12, zcl_0, sh_87, zRt, zPutC, zKn_s, zKn_0, zFind, e12', show (nI (pNp P) = 0) = (pNp P = 0) from zeq_nat (b := 0) (by omega) (by omega), zN10, zN01, not_true_eq_false, not_false_eq_true, false_implies, true_implies, implies_true, eq_self, nI_1, nI_40, nI_7, vz0, vz1, zb1_e0, zb1_n0]
  refine ⟨fun hn0 => bad (fun g => g.2.2 hn0), fun hn0 => ?_⟩
  generalize zu I 87 2 0 = I0 at *
  refine z_cV0 (M' := mX10_isRun) (R' := rX10_isRun) (i := 87) [.int x] [] eX10_isRun k10_530 (by decide +kernel : decode cX10_way 14 = .ok (.invokevirtual 530, 3)) (Nat.le_of_ble_eq_true rfl) ⟨Nat.le_of_ble_eq_true rfl, Nat.le_of_ble_eq_true rfl, Nat.le_of_ble_eq_true rfl, Nat.le_of_ble_eq_true rfl, Nat.le_of_ble_eq_true rfl⟩ rfl rfl rfl sh_87 ?_
  refine mo_isRun hR.2.2.2.2.1.2.1 h9 ?_
  cases hr : pRun t x with
  | false =>
    refine zBlkR (M := mX10_way) (nL := 7) (rt := (Option.some .int)) (blk := bX10_way_17) (T := [(29, bX10_way_29)]) 1 hX10_way_17 (zChks_cons hX10_way_29 zChks_nil) rfl rfl rfl (Nat.le_of_ble_eq_true rfl) (Nat.le_of_ble_eq_true rfl) ?_
    simp (implicitDefEqProofs := false) only [bX10_way_17, bX10_way_29, zRun_cons, zRun_nil, zLk, zSto, zIns, zFil, zf0, zf1, zf2, zf3, List.filter_cons, List.filter_nil, Nat.reduceAdd, Nat.reduceEqDiff, Nat.reduceLT, Nat.reduceLeDiff, Nat.reduceBEq, Nat.reduceBNe, reduceIte, if_true, if_false, Bool.false_and, Bool.true_and, Bool.and_true, Bool.and_false, Bool.not_false, Bool.not_true, Bool.false_eq_true, beq_self_eq_true, BEq.rfl, zCat1, zCat2, zCat3, zKdI, zKdL, zKdR, true_and, and_true, zSI, zSL, zSR, zu_at, and_self, and_false, false_and, lv_args, zKdZ, zKdO, zB01, zB11, Option.toList_none, Option.toList_some, List.nil_append, List.cons_append, true_or, or_true, zRow_rd, zu_rd, zo_if_eq, zo_iload_n, zo_iconst, zo_ireturn, zi_0, zi_1, zi_m1, zcl_0, zcl_1, zRt, zKn_s, zKn_0, zFind, zb1_f, zN10, zN01, not_true_eq_false, not_false_eq_true, false_implies, true_implies, implies_true, eq_self, nI_1, nI_40, nI_7, vz0, vz1, zb1_e0, zb1_n0]
    exact bad (by rw [hr]; simp)
  | true =>
  refine zBlkR (M := mX10_way) (nL := 7) (rt := (Option.some .int)) (blk := bX10_way_17) (T := [(29, bX10_way_29)]) 1 hX10_way_17 (zChks_cons hX10_way_29 zChks_nil) rfl rfl rfl (Nat.le_of_ble_eq_true rfl) (Nat.le_of_ble_eq_true rfl) ?_
  simp (implicitDefEqProofs := false) only [bX10_way_17, bX10_way_29, zRun_cons, zRun_nil, zLk, zSto, zIns, zFil, zf0, zf1, zf2, zf3, List.filter_cons, List.filter_nil, Nat.reduceAdd, Nat.reduceEqDiff, Nat.reduceLT, Nat.reduceLeDiff, Nat.reduceBEq, Nat.reduceBNe, reduceIte, if_true, if_false, Bool.false_and, Bool.true_and, Bool.and_true, Bool.and_false, Bool.not_false, Bool.not_true, Bool.false_eq_true, beq_self_eq_true, BEq.rfl, zCat1, zCat2, zCat3, zKdI, zKdL, zKdR, true_and, and_true, zSI, zSL, zSR, zu_at, and_self, and_false, false_and, lv_args, zKdZ, zKdO, zB01, zB11, Option.toList_none, Option.toList_some, List.nil_append, List.cons_append, true_or, or_true, zRow_rd, zu_rd, zo_if_eq, zo_iload_n, zo_iconst, zo_ireturn, zi_0, zi_1, zi_m1, zcl_0, zcl_1, zRt, zKn_s, zKn_0, zFind, zb1_t, zN10, zN01, not_true_eq_false, not_false_eq_true, false_implies, true_implies, implies_true, eq_self, nI_1, nI_40, nI_7, vz0, vz1, zb1_e0, zb1_n0]
  refine z_cS0 (M' := mX10_isIn) (R' := rX10_isIn) [.int wt, .int 0, .int 1] [] eX10_isIn k10_223 (by decide +kernel : decode cX10_way 23 = .ok (.invokestatic 223, 3)) (Nat.le_of_ble_eq_true rfl) ⟨Nat.le_of_ble_eq_true rfl, Nat.le_of_ble_eq_true rfl, Nat.le_of_ble_eq_true rfl, Nat.le_of_ble_eq_true rfl, Nat.le_of_ble_eq_true rfl⟩ rfl rfl rfl ?_
  refine mo_isIn ?_
  rw [show (1 : Int32) = nI 1 from rfl, oIn_isIn (by omega)]
  cases hin : oIn wt (1 + 1) with
  | false =>
    refine zBlkR (M := mX10_way) (nL := 7) (rt := (Option.some .int)) (blk := bX10_way_26) (T := [(31, bX10_way_31)]) 1 hX10_way_26 (zChks_cons hX10_way_31 zChks_nil) rfl rfl rfl (Nat.le_of_ble_eq_true rfl) (Nat.le_of_ble_eq_true rfl) ?_
    simp (implicitDefEqProofs := false) only [bX10_way_26, bX10_way_31, zRun_cons, zRun_nil, zLk, zSto, zIns, zFil, zf0, zf1, zf2, zf3, List.filter_cons, List.filter_nil, Nat.reduceAdd, Nat.reduceEqDiff, Nat.reduceLT, Nat.reduceLeDiff, Nat.reduceBEq, Nat.reduceBNe, reduceIte, if_true, if_false, Bool.false_and, Bool.true_and, Bool.and_true, Bool.and_false, Bool.not_false, Bool.not_true, Bool.false_eq_true, beq_self_eq_true, BEq.rfl, zCat1, zCat2, zCat3, zKdI, zKdL, zKdR, true_and, and_true, zSI, zSL, zSR, zu_at, and_self, and_false, false_and, lv_args, zKdZ, zKdO, zB01, zB11, Option.toList_none, Option.toList_some, List.nil_append, List.cons_append, true_or, or_true, zRow_rd, zu_rd, zo_if_ne, zo_iconst, zo_ireturn, zo_aload_n, zi_m1, zRt, zKn_s, zKn_0, zFind, zb1_f, zN10, zN01, not_true_eq_false, not_false_eq_true, false_implies, true_implies, implies_true, eq_self, nI_1, nI_40, nI_7, vz0, vz1, zb1_e0, zb1_n0]
    exact bad (by rw [show oIn wt 2 = false from hin]; simp)
  | true =>
    rw [if_pos ⟨hr, hin, hn0⟩] at hQ
    obtain ⟨n, e, hn⟩ := pRun_t hr h9
    subst e
    rw [nI_clamp (by omega)] at hQ
    have hf0 := hf0 n hn
    generalize hf : fWay P V d t n = f at hQ hf0
    have hn1 : 1 ≤ pNp P := by omega
    refine zBlkR (M := mX10_way) (nL := 7) (rt := (Option.some .int)) (blk := bX10_way_26) (T := [(31, bX10_way_31)]) 1 hX10_way_26 (zChks_cons hX10_way_31 zChks_nil) rfl rfl rfl (Nat.le_of_ble_eq_true rfl) (Nat.le_of_ble_eq_true rfl) ?_
    simp (implicitDefEqProofs := false) only [bX10_way_26, bX10_way_31, zRun_cons, zRun_nil, zLk, zSto, zIns, zFil, zf0, zf1, zf2, zf3, List.filter_cons, List.filter_nil, Nat.reduceAdd, Nat.reduceEqDiff, Nat.reduceLT, Nat.reduceLeDiff, Nat.reduceBEq, Nat.reduceBNe, reduceIte, if_true, if_false, Bool.false_and, Bool.true_and, Bool.and_true, Bool.and_false, Bool.not_false, Bool.not_true, Bool.false_eq_true, beq_self_eq_true, BEq.rfl, zCat1, zCat2, zCat3, zKdI, zKdL, zKdR, true_and, and_true, zSI, zSL, zSR, zu_at, and_self, and_false, false_and, lv_args, zKdZ, zKdO, zB01, zB11, Option.toList_none, Option.toList_some, List.nil_append, List.cons_append, true_or, or_true, zRow_rd, zu_rd, zo_if_ne, zo_iconst, zo_ireturn, zo_aload_n, zi_m1, zRt, zKn_s, zKn_0, zFind, zb1_t, zN10, zN01, not_true_eq_false, not_false_eq_true, false_implies, true_implies, implies_true, eq_self, nI_1, nI_40, nI_7, vz0, vz1, zb1_e0, zb1_n0]
    refine z_cV0 (M' := mX10_plainRun) (R' := rX10_plainRun) (i := 87) [] [] eX10_plainRun k10_513 (by decide +kernel : decode cX10_way 32 = .ok (.invokevirtual 513, 3)) (Nat.le_of_ble_eq_true rfl) ⟨Nat.le_of_ble_eq_true rfl, Nat.le_of_ble_eq_true rfl, Nat.le_of_ble_eq_true rfl, Nat.le_of_ble_eq_true rfl, Nat.le_of_ble_eq_true rfl⟩ rfl rfl rfl sh_87 ?_
    refine mo_plainRun hR (fun I1 k1 hM => ?_)
    have hR1 := zRl_t k1 zKpt_rfl hR
    have f12 := hR1.2.2.1.2.1
    have f55 := hR1.2.2.2.2.1.2.1
    refine zBlkR (M := mX10_way) (nL := 7) (rt := (Option.some .int)) (blk := bX10_way_35) (T := []) 0 hX10_way_35 zChks_nil rfl rfl rfl (Nat.le_of_ble_eq_true rfl) (Nat.le_of_ble_eq_true rfl) ?_
    simp (implicitDefEqProofs := false) only [bX10_way_35, zRun_cons, zRun_nil, zLk, zSto, zIns, zFil, zf0, zf1, zf2, zf3, List.filter_cons, List.filter_nil, Nat.reduceAdd, Nat.reduceEqDiff, Nat.reduceLT, Nat.reduceLeDiff, Nat.reduceBEq, Nat.reduceBNe, reduceIte, if_true, if_false, Bool.false_and, Bool.true_and, Bool.and_true, Bool.and_false, Bool.not_false, Bool.not_true, Bool.false_eq_true, beq_self_eq_true, BEq.rfl, zCat1, zCat2, zCat3, zKdI, zKdL, zKdR, true_and, and_true, zSI, zSL, zSR, zu_at, and_self, and_false, false_and, lv_args, zKdZ, zKdO, zB01, zB11, Option.toList_none, Option.toList_some, List.nil_append, List.cons_append, true_or, or_true, zRow_rd, zu_rd, zo_aload_n, zo_getfield, zo_putfield, zo_putfield_2, zo_putfield_3, zo_iconst, zo_istore_n, zo_istore, zi_m1, zKd_10_12, zKd_10_75, zTy_10_75, zKd_10_55, zKd_10_76, zTy_10_76, sh_87, zPutC, zKn_0, f12, f55, zN10, zN01, not_true_eq_false, not_false_eq_true, false_implies, true_implies, implies_true, eq_self, nI_1, nI_40, nI_7, vz0, vz1, zb1_e0, zb1_n0]
    have k2 : zKpt SRt I1 (zu (zu I1 87 75 (nI (pNp P))) 87 76 (nI t)) := by
      refine (zKpt_rfl.u ?_).u ?_ <;> unfold SRt <;> omega
    have hR2 := zRl_t k2 zKpt_rfl hR1
    have hM2 : ∀ J : Nat → Nat → Int32, (∀ b, 67 ≤ b → b ≤ 74 → J 87 b = I1 87 b) → J 87 75 = nI (pNp P) → J 87 76 = nI t → ∀ l, (∀ b, b < pNp P → J 122 b = nI (l.getD b 0)) → zRefM J (mTold P) (rtO (pNp P) t l) := by
      intro J hJ a1 a2 l a3
      obtain ⟨m1, m2, m3, m4, m5, m6, m7, m8, -, -, -⟩ := hM
      exact ⟨by rw [hJ 67 (by omega) (by omega), m1], by rw [hJ 72 (by omega) (by omega), m2], by rw [hJ 73 (by omega) (by omega), m3], by rw [hJ 68 (by omega) (by omega), m4], by rw [hJ 69 (by omega) (by omega), m5], by rw [hJ 70 (by omega) (by omega), m6], by rw [hJ 71 (by omega) (by omega), m7], by rw [hJ 74 (by omega) (by omega), m8], a1, a2, a3⟩
    have q75 : (zu (zu I1 87 75 (nI (pNp P))) 87 76 (nI t)) 87 75 = nI (pNp P) := by simp [zu_at]
    have q76 : (zu (zu I1 87 75 (nI (pNp P))) 87 76 (nI t)) 87 76 = nI t := by simp [zu_at]
    have qlo : ∀ b, 67 ≤ b → b ≤ 74 → (zu (zu I1 87 75 (nI (pNp P))) 87 76 (nI t)) 87 b = I1 87 b := by
      intro b h1 h2
      rw [zu_at, zu_at, if_neg (by omega), if_neg (by omega)]
    generalize zu (zu I1 87 75 (nI (pNp P))) 87 76 (nI t) = I2 at *
    refine z_cV0 (M' := mX10_firstOrder) (R' := rX10_firstOrder) (i := 87) [] [] eX10_firstOrder k10_546 (by decide +kernel : decode cX10_way 57 = .ok (.invokevirtual 546, 3)) (Nat.le_of_ble_eq_true rfl) ⟨Nat.le_of_ble_eq_true rfl, Nat.le_of_ble_eq_true rfl, Nat.le_of_ble_eq_true rfl, Nat.le_of_ble_eq_true rfl, Nat.le_of_ble_eq_true rfl⟩ rfl rfl rfl sh_87 ?_
    refine mo_firstOrder hnp (fun I3 k3 o3 => ?_)
    refine zBlkR (M := mX10_way) (nL := 7) (rt := (Option.some .int)) (blk := bX10_way_60) (T := []) 0 hX10_way_60 zChks_nil rfl rfl rfl (Nat.le_of_ble_eq_true rfl) (Nat.le_of_ble_eq_true rfl) ?_
    simp (implicitDefEqProofs := false) only [bX10_way_60, zRun_cons, zRun_nil, zLk, zSto, zIns, zFil, zf0, zf1, zf2, zf3, List.filter_cons, List.filter_nil, Nat.reduceAdd, Nat.reduceEqDiff, Nat.reduceLT, Nat.reduceLeDiff, Nat.reduceBEq, Nat.reduceBNe, reduceIte, if_true, if_false, Bool.false_and, Bool.true_and, Bool.and_true, Bool.and_false, Bool.not_false, Bool.not_true, Bool.false_eq_true, beq_self_eq_true, BEq.rfl, zCat1, zCat2, zCat3, zKdI, zKdL, zKdR, true_and, and_true, zSI, zSL, zSR, zu_at, and_self, and_false, false_and, lv_args, zKdZ, zKdO, zB01, zB11, Option.toList_none, Option.toList_some, List.nil_append, List.cons_append, true_or, or_true, zRow_rd, zu_rd, zo_iconst, zo_istore, zi_1, zcl_1, zKn_0, zN10, zN01, not_true_eq_false, not_false_eq_true, false_implies, true_implies, implies_true, eq_self, nI_1, nI_40, nI_7, vz0, vz1, zb1_e0, zb1_n0]
    have lp : ∀ k, k ≤ 120 → ∀ J K l, zKpt SRt I J → zKpt SRtL L K → zRl J K P V d t kc rt → (∀ b, 67 ≤ b → b ≤ 74 → J 87 b = I1 87 b) → J 87 75 = nI (pNp P) → J 87 76 = nI t → oSO (pNp P) k = some l → zOrd (J 128) l → zX w mX10_way rX10_way Q 0 0 63 [(0, Value.ref 87), (1, Value.int (nI n)), (2, Value.int wt), (3, Value.int (if k = 0 then -1 else (oFold (pNp P) (uWay f (gPk P)) (-1, 0) k).2)), (4, Value.int (oFold (pNp P) (uWay f (gPk P)) (-1, 0) k).1), (5, Value.int 1)] [] (SH, J, K, RF p s r) := by
      refine zLoop (n := 120) (fun k hk ih => ?_)
      intro J K l hJ hK hRJ jlo j75 j76 hso hO
      by_cases hke : k = 120
      · rw [hke, oSO_end (pNp P) (by omega) hn1] at hso; cases hso
      have hl := lOk_SO hn1 hso
      have ih := ih (by omega)
      rw [if_neg (show ¬ k + 1 = 0 by omega)] at ih
      have e120 := fun h => oFold_120 (upd := uWay f (gPk P)) (s0 := ((-1 : Int32), (0 : Int32))) hn1 hnp hso h
      have es := oFold_s (upd := uWay f (gPk P)) (s0 := ((-1 : Int32), (0 : Int32))) hso
      have hfirst : k = 0 → oFold (pNp P) (uWay f (gPk P)) (-1, 0) k = (-1, 0) ∧ (-1 : Int32) < f l := by
        intro g; subst g; cases hso; exact ⟨rfl, hf0⟩
      generalize oFold (pNp P) (uWay f (gPk P)) (-1, 0) k = z at *
      have hR16 : ROk P (rtO (pNp P) t l) t := ⟨by show pNp P ≤ 8; omega, Nat.le_refl _, fun q hq => hl.2 q hq⟩
      refine zBlkR (M := mX10_way) (nL := 7) (rt := (Option.some .int)) (blk := bX10_way_63) (T := [(145, bX10_way_145), (154, bX10_way_154), (155, bX10_way_155)]) 2 hX10_way_63 (zChks_cons hX10_way_145 (zChks_cons hX10_way_154 (zChks_cons hX10_way_155 zChks_nil))) rfl rfl rfl (Nat.le_of_ble_eq_true rfl) (Nat.le_of_ble_eq_true rfl) ?_
      simp (implicitDefEqProofs := false) only [bX10_way_63, bX10_way_145, bX10_way_154, bX10_way_155, zRun_cons, zRun_nil, zLk, zSto, zIns, zFil, zf0, zf1, zf2, zf3, List.filter_cons, List.filter_nil, Nat.reduceAdd, Nat.reduceEqDiff, Nat.reduceLT, Nat.reduceLeDiff, Nat.reduceBEq, Nat.reduceBNe, reduceIte, if_true, if_false, Bool.false_and, Bool.true_and, Bool.and_true, Bool.and_false, Bool.not_false, Bool.not_true, Bool.false_eq_true, beq_self_eq_true, BEq.rfl, zCat1, zCat2, zCat3, zKdI, zKdL, zKdR, true_and, and_true, zSI, zSL, zSR, zu_at, and_self, and_false, false_and, lv_args, zKdZ, zKdO, zB01, zB11, Option.toList_none, Option.toList_some, List.nil_append, List.cons_append, true_or, or_true, zRow_rd, zu_rd, zo_iload, zo_if_eq, zo_iconst, zo_istore, zo_iload_n, zo_if_ne, zo_goto, zo_ireturn, zi_0, zcl_0, zRt, zKn_s, zKn_0, zFind, zN10, zN01, not_true_eq_false, not_false_eq_true, false_implies, true_implies, implies_true, eq_self, nI_1, nI_40, nI_7, vz0, vz1, zb1_e0, zb1_n0]
      have g12 := hRJ.2.2.1.2.1
      refine zLoop (n := pNp P) (P := fun b => ∀ J3, zKpt (zOne 122) J J3 → (∀ c, c < b → J3 122 c = nI (l.getD c 0)) → zX w mX10_way rX10_way Q 0 0 71 [(0, Value.ref 87), (1, Value.int (nI n)), (2, Value.int wt), (3, Value.int (if k = 0 then -1 else z.2)), (4, Value.int z.1), (5, Value.int 1), (6, Value.int (nI b))] [] (SH, J3, K, RF p s r)) (fun b hb ihb => ?_) 0 (Nat.zero_le _) J zKpt_rfl (fun c hc => absurd hc (by omega))
      intro J3 k4 hr3
      have g12 : J3 87 12 = nI (pNp P) := by rw [k4 87 12 (by unfold zOne; omega), g12]
      have kt : zKpt SRt J J3 := k4.mono (fun i k g => by unfold zOne at g; unfold SRt; omega)
      have o128 : zOrd (J3 128) l := by
        have e : J3 128 = J 128 := funext fun c => k4 128 c (by unfold zOne; omega)
        rw [e]; exact hO
      by_cases hbe : b = pNp P
      · subst hbe
        have hRJ3 := zRl_t kt zKpt_rfl hRJ
        have hM3 := hM2 J3 (fun c h1 h2 => by rw [k4 87 c (by unfold zOne; omega), jlo c h1 h2]) (by rw [k4 87 75 (by unfold zOne; omega), j75]) (by rw [k4 87 76 (by unfold zOne; omega), j76]) l hr3
        refine zBlkR (M := mX10_way) (nL := 7) (rt := (Option.some .int)) (blk := bX10_way_71) (T := [(100, bX10_way_100)]) 1 hX10_way_71 (zChks_cons hX10_way_100 zChks_nil) rfl rfl rfl (Nat.le_of_ble_eq_true rfl) (Nat.le_of_ble_eq_true rfl) ?_
        simp (implicitDefEqProofs := false) only [bX10_way_71, bX10_way_100, zRun_cons, zRun_nil, zLk, zSto, zIns, zFil, zf0, zf1, zf2, zf3, List.filter_cons, List.filter_nil, Nat.reduceAdd, Nat.reduceEqDiff, Nat.reduceLT, Nat.reduceLeDiff, Nat.reduceBEq, Nat.reduceBNe, reduceIte, if_true, if_false, Bool.false_and, Bool.true_and, Bool.and_true, Bool.and_false, Bool.not_false, Bool.not_true, Bool.false_eq_true, beq_self_eq_true, BEq.rfl, zCat1, zCat2, zCat3, zKdI, zKdL, zKdR, true_and, and_true, zSI, zSL, zSR, zu_at, and_self, and_false, false_and, lv_args, zKdZ, zKdO, zB01, zB11, Option.toList_none, Option.toList_some, List.nil_append, List.cons_append, true_or, or_true, zRow_rd, zu_rd, zo_iload, zo_aload_n, zo_getfield, zo_icmp_ge, zo_iaload, zo_iastore, zo_iinc, zo_goto, zi_1, zKd_10_12, zKd_10_77, zKd_10_84, sh_87, rf_87_77, sh_122, rf_87_84, sh_128, zKn_s, zKn_0, zFind, g12, zle_nat (a := pNp P) (b := pNp P) (by omega) (by omega), Nat.le_refl, zN10, zN01, not_true_eq_false, not_false_eq_true, false_implies, true_implies, implies_true, eq_self, nI_1, nI_40, nI_7, vz0, vz1, zb1_e0, zb1_n0]
        refine z_cV0 (M' := mX10_layRun) (R' := rX10_layRun) (i := 87) [] [] eX10_layRun k10_534 (by decide +kernel : decode cX10_way 101 = .ok (.invokevirtual 534, 3)) (Nat.le_of_ble_eq_true rfl) ⟨Nat.le_of_ble_eq_true rfl, Nat.le_of_ble_eq_true rfl, Nat.le_of_ble_eq_true rfl, Nat.le_of_ble_eq_true rfl, Nat.le_of_ble_eq_true rfl⟩ rfl rfl rfl sh_87 ?_
        refine mo_layRun hRJ3.2.2.2.2.1.1 hRJ3.2.2.2.2.1.2.2.2.2.2.2 hpa (fun I4 L4 k5 k6 v4 d4 => ?_)
        refine zBlkR (M := mX10_way) (nL := 7) (rt := (Option.some .int)) (blk := bX10_way_104) (T := []) 0 hX10_way_104 zChks_nil rfl rfl rfl (Nat.le_of_ble_eq_true rfl) (Nat.le_of_ble_eq_true rfl) ?_
        simp (implicitDefEqProofs := false) only [bX10_way_104, zRun_cons, zRun_nil, zLk, zSto, zIns, zFil, zf0, zf1, zf2, zf3, List.filter_cons, List.filter_nil, Nat.reduceAdd, Nat.reduceEqDiff, Nat.reduceLT, Nat.reduceLeDiff, Nat.reduceBEq, Nat.reduceBNe, reduceIte, if_true, if_false, Bool.false_and, Bool.true_and, Bool.and_true, Bool.and_false, Bool.not_false, Bool.not_true, Bool.false_eq_true, beq_self_eq_true, BEq.rfl, zCat1, zCat2, zCat3, zKdI, zKdL, zKdR, true_and, and_true, zSI, zSL, zSR, zu_at, and_self, and_false, false_and, lv_args, zKdZ, zKdO, zB01, zB11, Option.toList_none, Option.toList_some, List.nil_append, List.cons_append, true_or, or_true, zRow_rd, zu_rd, zo_aload_n, zo_iload_n, zKn_0, zN10, zN01, not_true_eq_false, not_false_eq_true, false_implies, true_implies, implies_true, eq_self, nI_1, nI_40, nI_7, vz0, vz1, zb1_e0, zb1_n0]
        refine z_cV0 (M' := mX10_runs) (R' := rX10_runs) (i := 87) [.int (nI n)] [] eX10_runs k10_537 (by decide +kernel : decode cX10_way 106 = .ok (.invokevirtual 537, 3)) (Nat.le_of_ble_eq_true rfl) ⟨Nat.le_of_ble_eq_true rfl, Nat.le_of_ble_eq_true rfl, Nat.le_of_ble_eq_true rfl, Nat.le_of_ble_eq_true rfl, Nat.le_of_ble_eq_true rfl⟩ rfl rfl rfl sh_87 ?_
        refine mo_runs (m := mTold P) (rt := rtO (pNp P) t l) (S := (V, d)) hn (by rw [zFR_87 k5 (by omega)]; exact hRJ3.2.2.2.2.1.2.1) hR.1 hR16 (zRefP_R k5 hRJ3.2.2.1) (zRefM_R k5 hM3) v4 d4 hok (fun I5 L5 l1 l2 l3 l4 => ?_)
        have kk := (kt.trans (zFR1_SRt k5)).trans (zFR1_SRt l1)
        have kl := (zFRL1_SRt k6).trans (zFRL1_SRt l2)
        have hRJ5 := zRl_t kk kl hRJ
        have h12 := hRJ5.2.2.1.2.1
        have o5 : zOrd (I5 128) l := by
          have e : I5 128 = J3 128 := by rw [zFR_row l1 (by omega), zFR_row k5 (by omega)]
          rw [e]; exact o128
        have e7 : I5 119 7 = f l := by
          rw [← hf]
          have : vR 1 I5 8 0 = I5 119 7 := vR_8 (b := 1) (by omega)
          rw [← this, l3]; rfl
        have jl5 : ∀ c, 67 ≤ c → c ≤ 76 → I5 87 c = J 87 c := fun c h1 h2 => by rw [zFR_87 l1 (by omega), zFR_87 k5 (by omega), k4 87 c (by unfold zOne; omega)]
        have fin : ∀ z', uWay f (gPk P) z l = z' → ∀ b3, (b3 : Int32) = z'.2 → zX w mX10_way rX10_way Q 0 0 137 [(0, Value.ref 87), (1, Value.int (nI n)), (2, Value.int wt), (3, Value.int b3), (4, Value.int z'.1), (5, Value.int 1), (6, Value.int (nI (pNp P)))] [Value.ref 87] (SH, I5, L5, RF p s r) := by
          intro z' hz' b3 hb3
          rw [hb3]
          rw [hz'] at e120 es
          refine z_cV0 (M' := mX10_nextOrder) (R' := rX10_nextOrder) (i := 87) [] [] eX10_nextOrder k10_551 (by decide +kernel : decode cX10_way 137 = .ok (.invokevirtual 551, 3)) (Nat.le_of_ble_eq_true rfl) ⟨Nat.le_of_ble_eq_true rfl, Nat.le_of_ble_eq_true rfl, Nat.le_of_ble_eq_true rfl, Nat.le_of_ble_eq_true rfl, Nat.le_of_ble_eq_true rfl⟩ rfl rfl rfl sh_87 ?_
          refine mo_nextOrder hn1 hnp h12 hl o5 (fun h => ?_) (fun l' I6 h k7 o6 => ?_)
          · have hQ := hQ I5 L5 (hJ.trans kk) (hK.trans kl)
            rw [e120 h] at hQ
            refine zBlkR (M := mX10_way) (nL := 7) (rt := (Option.some .int)) (blk := bX10_way_140) (T := []) 0 hX10_way_140 zChks_nil rfl rfl rfl (Nat.le_of_ble_eq_true rfl) (Nat.le_of_ble_eq_true rfl) ?_
            simp (implicitDefEqProofs := false) only [bX10_way_140, zRun_cons, zRun_nil, zLk, zSto, zIns, zFil, zf0, zf1, zf2, zf3, List.filter_cons, List.filter_nil, Nat.reduceAdd, Nat.reduceEqDiff, Nat.reduceLT, Nat.reduceLeDiff, Nat.reduceBEq, Nat.reduceBNe, reduceIte, if_true, if_false, Bool.false_and, Bool.true_and, Bool.and_true, Bool.and_false, Bool.not_false, Bool.not_true, Bool.false_eq_true, beq_self_eq_true, BEq.rfl, zCat1, zCat2, zCat3, zKdI, zKdL, zKdR, true_and, and_true, zSI, zSL, zSR, zu_at, and_self, and_false, false_and, lv_args, zKdZ, zKdO, zB01, zB11, Option.toList_none, Option.toList_some, List.nil_append, List.cons_append, true_or, or_true, zRow_rd, zu_rd, zo_istore, zo_goto, zKn_0, zN10, zN01, not_true_eq_false, not_false_eq_true, false_implies, true_implies, implies_true, eq_self, nI_1, nI_40, nI_7, vz0, vz1, zb1_e0, zb1_n0]
            refine zBlkR (M := mX10_way) (nL := 7) (rt := (Option.some .int)) (blk := bX10_way_63) (T := [(145, bX10_way_145), (154, bX10_way_154), (155, bX10_way_155)]) 2 hX10_way_63 (zChks_cons hX10_way_145 (zChks_cons hX10_way_154 (zChks_cons hX10_way_155 zChks_nil))) rfl rfl rfl (Nat.le_of_ble_eq_true rfl) (Nat.le_of_ble_eq_true rfl) ?_
            simp (implicitDefEqProofs := false) only [bX10_way_63, bX10_way_145, bX10_way_154, bX10_way_155, zRun_cons, zRun_nil, zLk, zSto, zIns, zFil, zf0, zf1, zf2, zf3, List.filter_cons, List.filter_nil, Nat.reduceAdd, Nat.reduceEqDiff, Nat.reduceLT, Nat.reduceLeDiff, Nat.reduceBEq, Nat.reduceBNe, reduceIte, if_true, if_false, Bool.false_and, Bool.true_and, Bool.and_true, Bool.and_false, Bool.not_false, Bool.not_true, Bool.false_eq_true, beq_self_eq_true, BEq.rfl, zCat1, zCat2, zCat3, zKdI, zKdL, zKdR, true_and, and_true, zSI, zSL, zSR, zu_at, and_self, and_false, false_and, lv_args, zKdZ, zKdO, zB01, zB11, Option.toList_none, Option.toList_some, List.nil_append, List.cons_append, true_or, or_true, zRow_rd, zu_rd, zo_iload, zo_if_eq, zo_iconst, zo_istore, zo_iload_n, zo_if_ne, zo_goto, zo_ireturn, zi_0, zcl_0, zRt, zKn_s, zKn_0, zFind, zN10, zN01, not_true_eq_false, not_false_eq_true, false_implies, true_implies, implies_true, eq_self, nI_1, nI_40, nI_7, vz0, vz1, zb1_e0, zb1_n0]
            refine ⟨fun g => ?_, fun g => ?_⟩
            · rw [if_neg g] at hQ; exact hQ
            · rw [if_pos g] at hQ; exact hQ
          · have kx := kk.trans (SRt_128 k7)
            have ih := ih I6 L5 l' (hJ.trans kx) (hK.trans kl) (zRl_t kx kl hRJ) (fun c h1 h2 => by rw [k7 87 c (by unfold zOne; omega), jl5 c h1 (by omega), jlo c h1 h2]) (by rw [k7 87 75 (by unfold zOne; omega), jl5 75 (by omega) (by omega), j75]) (by rw [k7 87 76 (by unfold zOne; omega), jl5 76 (by omega) (by omega), j76]) (by rw [oSO, hso, Option.bind_some, h]) o6
            rw [es] at ih
            refine zBlkR (M := mX10_way) (nL := 7) (rt := (Option.some .int)) (blk := bX10_way_140) (T := []) 0 hX10_way_140 zChks_nil rfl rfl rfl (Nat.le_of_ble_eq_true rfl) (Nat.le_of_ble_eq_true rfl) ?_
            simp (implicitDefEqProofs := false) only [bX10_way_140, zRun_cons, zRun_nil, zLk, zSto, zIns, zFil, zf0, zf1, zf2, zf3, List.filter_cons, List.filter_nil, Nat.reduceAdd, Nat.reduceEqDiff, Nat.reduceLT, Nat.reduceLeDiff, Nat.reduceBEq, Nat.reduceBNe, reduceIte, if_true, if_false, Bool.false_and, Bool.true_and, Bool.and_true, Bool.and_false, Bool.not_false, Bool.not_true, Bool.false_eq_true, beq_self_eq_true, BEq.rfl, zCat1, zCat2, zCat3, zKdI, zKdL, zKdR, true_and, and_true, zSI, zSL, zSR, zu_at, and_self, and_false, false_and, lv_args, zKdZ, zKdO, zB01, zB11, Option.toList_none, Option.toList_some, List.nil_append, List.cons_append, true_or, or_true, zRow_rd, zu_rd, zo_istore, zo_goto, zKn_0, zN10, zN01, not_true_eq_false, not_false_eq_true, false_implies, true_implies, implies_true, eq_self, nI_1, nI_40, nI_7, vz0, vz1, zb1_e0, zb1_n0]
            exact zX.sub' ih (by simp)
        refine zBlkR (M := mX10_way) (nL := 7) (rt := (Option.some .int)) (blk := bX10_way_109) (T := [(136, bX10_way_136)]) 1 hX10_way_109 (zChks_cons hX10_way_136 zChks_nil) rfl rfl rfl (Nat.le_of_ble_eq_true rfl) (Nat.le_of_ble_eq_true rfl) ?_
        simp (implicitDefEqProofs := false) only [bX10_way_109, bX10_way_136, zRun_cons, zRun_nil, zLk, zSto, zIns, zFil, zf0, zf1, zf2, zf3, List.filter_cons, List.filter_nil, Nat.reduceAdd, Nat.reduceEqDiff, Nat.reduceLT, Nat.reduceLeDiff, Nat.reduceBEq, Nat.reduceBNe, reduceIte, if_true, if_false, Bool.false_and, Bool.true_and, Bool.and_true, Bool.and_false, Bool.not_false, Bool.not_true, Bool.false_eq_true, beq_self_eq_true, BEq.rfl, zCat1, zCat2, zCat3, zKdI, zKdL, zKdR, true_and, and_true, zSI, zSL, zSR, zu_at, and_self, and_false, false_and, lv_args, zKdZ, zKdO, zB01, zB11, Option.toList_none, Option.toList_some, List.nil_append, List.cons_append, true_or, or_true, zRow_rd, zu_rd, zo_pop, zo_aload_n, zo_getfield, zo_bipush, zo_iaload, zo_iload, zo_icmp_le, zo_istore, zb_7, zKd_10_62, sh_87, rf_87_62, sh_119, zcl_7, zvi_7_14, zKn_s, zKn_0, zFind, e7, zvi_7_14, zN10, zN01, not_true_eq_false, not_false_eq_true, false_implies, true_implies, implies_true, eq_self, nI_1, nI_40, nI_7, vz0, vz1, zb1_e0, zb1_n0]
        refine ⟨fun h => ?_, fun h => ?_⟩
        · have hk0 : k ≠ 0 := by
            intro g
            obtain ⟨a1, a2⟩ := hfirst g
            rw [a1] at h
            exact absurd a2 (Int32.not_lt.mpr h)
          refine fin z (by rw [uWay, if_neg (Int32.not_lt.mpr h)]) _ (if_neg hk0)
        · refine z_cV0 (M' := mX10_packed_) (R' := rX10_packed_) (i := 87) [] [] eX10_packed_ k10_549 (by decide +kernel : decode cX10_way 132 = .ok (.invokevirtual 549, 3)) (Nat.le_of_ble_eq_true rfl) ⟨Nat.le_of_ble_eq_true rfl, Nat.le_of_ble_eq_true rfl, Nat.le_of_ble_eq_true rfl, Nat.le_of_ble_eq_true rfl, Nat.le_of_ble_eq_true rfl⟩ rfl rfl rfl sh_87 ?_
          refine mo_packed_ hnp h12 hl o5 ?_
          refine zBlkR (M := mX10_way) (nL := 7) (rt := (Option.some .int)) (blk := bX10_way_135) (T := []) 0 hX10_way_135 zChks_nil rfl rfl rfl (Nat.le_of_ble_eq_true rfl) (Nat.le_of_ble_eq_true rfl) ?_
          simp (implicitDefEqProofs := false) only [bX10_way_135, zRun_cons, zRun_nil, zLk, zSto, zIns, zFil, zf0, zf1, zf2, zf3, List.filter_cons, List.filter_nil, Nat.reduceAdd, Nat.reduceEqDiff, Nat.reduceLT, Nat.reduceLeDiff, Nat.reduceBEq, Nat.reduceBNe, reduceIte, if_true, if_false, Bool.false_and, Bool.true_and, Bool.and_true, Bool.and_false, Bool.not_false, Bool.not_true, Bool.false_eq_true, beq_self_eq_true, BEq.rfl, zCat1, zCat2, zCat3, zKdI, zKdL, zKdR, true_and, and_true, zSI, zSL, zSR, zu_at, and_self, and_false, false_and, lv_args, zKdZ, zKdO, zB01, zB11, Option.toList_none, Option.toList_some, List.nil_append, List.cons_append, true_or, or_true, zRow_rd, zu_rd, zo_istore_n, zo_aload_n, zKn_0, zN10, zN01, not_true_eq_false, not_false_eq_true, false_implies, true_implies, implies_true, eq_self, nI_1, nI_40, nI_7, vz0, vz1, zb1_e0, zb1_n0]
          exact fin (f l, gPk P l) (by rw [uWay, if_pos (Int32.not_le.mp h)]) _ rfl
      · have hx : (nI (pNp P) ≤ nI b) = False := eq_false (by rw [zle_nat (by omega) (by omega)]; omega)
        have hv : vp_in (nI b) 8 := zvn (by omega) (by omega)
        have hv5 : vp_in (nI b) 5 := zvn (by omega) (by omega)
        have e1 := o128 b (by rw [hl.1]; omega)
        refine zBlkR (M := mX10_way) (nL := 7) (rt := (Option.some .int)) (blk := bX10_way_71) (T := [(100, bX10_way_100)]) 1 hX10_way_71 (zChks_cons hX10_way_100 zChks_nil) rfl rfl rfl (Nat.le_of_ble_eq_true rfl) (Nat.le_of_ble_eq_true rfl) ?_
        simp (implicitDefEqProofs := false) only [bX10_way_71, bX10_way_100, zRun_cons, zRun_nil, zLk, zSto, zIns, zFil, zf0, zf1, zf2, zf3, List.filter_cons, List.filter_nil, Nat.reduceAdd, Nat.reduceEqDiff, Nat.reduceLT, Nat.reduceLeDiff, Nat.reduceBEq, Nat.reduceBNe, reduceIte, if_true, if_false, Bool.false_and, Bool.true_and, Bool.and_true, Bool.and_false, Bool.not_false, Bool.not_true, Bool.false_eq_true, beq_self_eq_true, BEq.rfl, zCat1, zCat2, zCat3, zKdI, zKdL, zKdR, true_and, and_true, zSI, zSL, zSR, zu_at, and_self, and_false, false_and, lv_args, zKdZ, zKdO, zB01, zB11, Option.toList_none, Option.toList_some, List.nil_append, List.cons_append, true_or, or_true, zRow_rd, zu_rd, zo_iload, zo_aload_n, zo_getfield, zo_icmp_ge, zo_iaload, zo_iastore, zo_iinc, zo_goto, zi_1, zKd_10_12, zKd_10_77, zKd_10_84, sh_87, rf_87_77, sh_122, rf_87_84, sh_128, zKn_s, zKn_0, zFind, g12, hx, hv, hv5, e1, nI_clamp (n := b) (by omega), zN10, zN01, not_true_eq_false, not_false_eq_true, false_implies, true_implies, implies_true, eq_self, nI_1, nI_40, nI_7, vz0, vz1, zb1_e0, zb1_n0]
        refine ihb (by omega) _ (k4.u (show zOne 122 122 _ from rfl)) (fun c hc => ?_)
        rw [zu_at]
        by_cases e : c = b
        · subst e; simp
        · rw [if_neg (fun g => e g.2)]; exact hr3 c (by omega)
    have kI3 : zKpt SRt I I3 := ((h0.trans k1).trans k2).trans (SRt_128 k3)
    exact lp 0 (by omega) I3 L _ kI3 zKpt_rfl (zRl_t (SRt_128 k3) zKpt_rfl hR2) (fun b h1 h2 => by rw [k3 87 b (by unfold zOne; omega), qlo b h1 h2]) (by rw [k3 87 75 (by unfold zOne; omega), q75]) (by rw [k3 87 76 (by unfold zOne; omega), q76]) rfl o3
end ZW81
