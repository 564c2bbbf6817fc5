/-! ===== CALLS: run, best, second: what both answer ===== -/
def oBalG (P : oPn) (m : oTm) (rt : oRt) (t n : Nat) (S : oS) : Int32 := oBal P (oGs P m rt t n S).1
/-- the first of the greatest, and how great -/
def oArg (f : Nat → Int32) : Nat → Nat × Int32
  | 0 => (0, -2147483648)
  | k + 1 => if (oArg f k).2 < f k then (k, f k) else oArg f k
def aRun (P : oPn) (V : Nat → Nat → Int32) (d : Int64) (t : Nat) (rt : oRt) (x : Int32) : Int32 := if pRun t x = true then oBalG P (mTold P) rt t x.toNatClampNeg (V, d) else -2147483648
def mPri (P : oPn) (k : Nat) : oTm := (nI k, -1, -1, false, false, false, false, false)
def m2nd (P : oPn) : oTm := (pR P 102 5, -1, -1, false, false, false, false, true)
def aBest (P : oPn) (V : Nat → Nat → Int32) (d : Int64) (t : Nat) (rt : oRt) (x wt : Int32) : Int32 := if pRun t x = true ∧ oIn wt 2 = true then (if wt = 0 then nI (oArg (fun k => oBalG P (mPri P k) rt t x.toNatClampNeg (V, d)) 21).1 else (oArg (fun k => oBalG P (mPri P k) rt t x.toNatClampNeg (V, d)) 21).2) else -2147483648
def aSecond (P : oPn) (V : Nat → Nat → Int32) (d : Int64) (t : Nat) (rt : oRt) (x : Int32) : Int32 := if pRun t x = true ∧ rt.1 ≠ 0 then oBalG P (m2nd P) rt t x.toNatClampNeg (V, d) - oBalG P (mTold P) rt t x.toNatClampNeg (V, d) - pR P 102 6 else -2147483648
section ZA74
variable {w : zP} {Q : Option Value → zMem → Prop} {μ : zMem} {I J V V' : Nat → Nat → Int32} {L : Nat → Nat → Int64} {p s B T t kc : Nat} {r : Option Nat} {P : oPn} {m : oTm} {c i k q wh ch n : Nat} {x till br wt : Int32} {S : oS} {rt rr : oRt} {d : Int64}
theorem zIter_congr {α : Type} {f g : Nat → α → α} : ∀ {n : Nat} {a : α}, (∀ j, j < n → ∀ b, f j b = g j b) → zIter f n a = zIter g n a
  | 0, _, _ => rfl
  | n + 1, a, h => by rw [zIter, zIter, zIter_congr (n := n) (fun j hj b => h j (by omega) b), h n (by omega)]
theorem nI_m1 {a : Nat} (ha : a < 2 ^ 31) : ¬ (-1 : Int32) = nI a := by
  intro g
  have h0 : ¬ nI a < 0 := nI_nn ha
  rw [← g] at h0
  exact h0 (by decide)
theorem oGsb_m1 (htn : t + n ≤ 96) : oGsb (-1) P m rt t n S = oGs P m rt t n S := by
  unfold oGsb oGs
  refine zIter_congr (fun j hj b => ?_)
  unfold oGb
  rw [if_neg (nI_m1 (by omega))]
theorem oIn2 : (x < 0 ∨ ¬ x ≤ 1) ↔ oIn x 2 = false := by
  unfold oIn
  have h : (nI 2 ≤ x) ↔ ¬ x ≤ 1 := by
    rw [Int32.le_iff_toInt_le, Int32.le_iff_toInt_le, nI_toInt (by omega), show (1 : Int32).toInt = 1 from rfl]
    omega
  by_cases h1 : x < 0 <;> by_cases h2 : x ≤ 1 <;> simp [h1, h2, h]
theorem oArg_ref {f : Nat → Int32} (hk : 0 < k) (h : ¬ (oArg f k).2 < f k) : oArg f (k + 1) = oArg f k := by rw [oArg, if_neg h]
theorem oArg_1 {f : Nat → Int32} : oArg f 1 = (0, f 0) := by
  rw [oArg, oArg]
  split
  · rfl
  · rename_i h
    have h1 := Int32.not_lt.mp h
    rw [Int32.le_iff_toInt_le, show (-2147483648 : Int32).toInt = -2147483648 from rfl] at h1
    have h2 := Int32.le_toInt (f 0)
    have : f 0 = -2147483648 := by apply Int32.toInt_inj.mp; rw [show (-2147483648 : Int32).toInt = -2147483648 from rfl]; omega
    rw [this]
theorem oArg_lt {f : Nat → Int32} : ∀ k, (oArg f k).1 < k + 1
  | 0 => by simp [oArg]
  | k + 1 => by
    rw [oArg]
    have := oArg_lt (f := f) k
    split
    · show k < k + 1 + 1; omega
    · omega
/-- how the reference keeps the greatest so far -/
def oRef (f : Nat → Int32) (k : Nat) : Int32 × Int32 := if k = 0 then (-1, 0) else (nI (oArg f k).1, (oArg f k).2)
theorem oRef_s {f : Nat → Int32} (hk : k < 1000) : oRef f (k + 1) = if (oRef f k).1 < 0 ∨ (oRef f k).2 < f k then (nI k, f k) else oRef f k := by
  by_cases h0 : k = 0
  · subst h0
    have h : (oRef f 0).1 < 0 := (by decide : (-1 : Int32) < 0)
    rw [oRef, if_neg (by omega), oArg_1, if_pos (Or.inl h)]
  · have h1 : (oRef f k).1 = nI (oArg f k).1 := by rw [oRef, if_neg h0]
    have h2 : (oRef f k).2 = (oArg f k).2 := by rw [oRef, if_neg h0]
    have hn : ¬ nI (oArg f k).1 < 0 := nI_nn (by have := oArg_lt (f := f) k; omega)
    rw [h1, h2, oRef, if_neg (by omega), oArg]
    by_cases g : (oArg f k).2 < f k
    · rw [if_pos g, if_pos (Or.inr g)]
    · rw [if_neg g, if_neg (fun q => q.elim hn g), oRef, if_neg h0]
set_option maxRecDepth 20000 in
theorem cl_run (hw : zOk w) (hC : zKl I L p P V d t kc rt) (hQ : ∀ I' L', zKpt SCt I I' → zKpt SCtL L L' → Q (some (.int (aRun P V d t rt x))) (SH, I', L', RF p s r)) : zXM w mX9_run rX9_run [.ref 0, .int x] (SH, I, L, RF p s r) Q := by
  unfold zXM
  have h9 := hC.2.2.2.2.2.2.2.1
  refine zBlkR (M := mX9_run) (nL := 2) (rt := (Option.some .int)) (blk := bX9_run_0) (T := []) 0 hX9_run_0 zChks_nil rfl rfl rfl (Nat.le_of_ble_eq_true rfl) (Nat.le_of_ble_eq_true rfl) ?_
  simp only [bX9_run_0, zRun_cons, zRun_nil, zLk, zSto, zIns, zFil, zf0, zf1, zf2, zf3, List.filter_cons, List.filter_nil, Nat.reduceAdd, Nat.reduceEqDiff, Nat.reduceLT, Nat.reduceLeDiff, Nat.reduceBEq, Nat.reduceBNe, reduceIte, if_true, if_false, Bool.false_and, Bool.true_and, Bool.and_true, Bool.and_false, Bool.not_false, Bool.not_true, Bool.false_eq_true, beq_self_eq_true, BEq.rfl, zCat1, zCat2, zCat3, zKdI, zKdL, zKdR, true_and, and_true, zSI, zSL, zSR, zu_at, and_self, and_false, false_and, lv_args, zKdZ, zKdO, zB01, zB11, Option.toList_none, Option.toList_some, List.nil_append, List.cons_append, true_or, or_true, zRow_rd, zu_rd, zo_aload_n, zo_iload_n, zKn_0, zN10, zN01, not_true_eq_false, not_false_eq_true, false_implies, true_implies, implies_true, eq_self, nI_1, nI_40, nI_7, vz0, vz1, zb1_e0, zb1_n0]
  refine z_cV0 (M' := mX9_hasRun) (R' := rX9_hasRun) (i := 0) [.int x] [] eX9_hasRun k9_217 (by decide +kernel : decode cX9_run 2 = .ok (.invokevirtual 217, 3)) (Nat.le_of_ble_eq_true rfl) ⟨Nat.le_of_ble_eq_true rfl, Nat.le_of_ble_eq_true rfl, Nat.le_of_ble_eq_true rfl, Nat.le_of_ble_eq_true rfl, Nat.le_of_ble_eq_true rfl⟩ rfl rfl rfl sh_0 ?_
  refine cl_hasRun hC.2.2.2.2.1.2.1 h9 ?_
  unfold aRun at hQ
  cases hr : pRun t x with
  | false =>
    rw [hr, if_neg (by decide)] at hQ
    refine zBlkR (M := mX9_run) (nL := 2) (rt := (Option.some .int)) (blk := bX9_run_5) (T := [(11, bX9_run_11)]) 1 hX9_run_5 (zChks_cons hX9_run_11 zChks_nil) rfl rfl rfl (Nat.le_of_ble_eq_true rfl) (Nat.le_of_ble_eq_true rfl) ?_
    simp (implicitDefEqProofs := false) only [bX9_run_5, bX9_run_11, zRun_cons, zRun_nil, zLk, zSto, zIns, zFil, zf0, zf1, zf2, zf3, List.filter_cons, List.filter_nil, Nat.reduceAdd, Nat.reduceEqDiff, Nat.reduceLT, Nat.reduceLeDiff, Nat.reduceBEq, Nat.reduceBNe, reduceIte, if_true, if_false, Bool.false_and, Bool.true_and, Bool.and_true, Bool.and_false, Bool.not_false, Bool.not_true, Bool.false_eq_true, beq_self_eq_true, BEq.rfl, zCat1, zCat2, zCat3, zKdI, zKdL, zKdR, true_and, and_true, zSI, zSL, zSR, zu_at, and_self, and_false, false_and, lv_args, zKdZ, zKdO, zB01, zB11, Option.toList_none, Option.toList_some, List.nil_append, List.cons_append, true_or, or_true, zRow_rd, zu_rd, zo_if_ne, zo_ldc, zo_ireturn, zo_aload_n, zi_m2147483648, zRt, zKn_s, zKn_0, zFind, zb1_f, zN10, zN01, not_true_eq_false, not_false_eq_true, false_implies, true_implies, implies_true, eq_self, nI_1, nI_40, nI_7, vz0, vz1, zb1_e0, zb1_n0]
    exact hQ I L zKpt_rfl zKpt_rfl
  | true =>
    obtain ⟨n, e, hn⟩ := pRun_t hr h9
    subst e
    rw [hr, if_pos rfl, nI_clamp (by omega)] at hQ
    refine zBlkR (M := mX9_run) (nL := 2) (rt := (Option.some .int)) (blk := bX9_run_5) (T := [(11, bX9_run_11)]) 1 hX9_run_5 (zChks_cons hX9_run_11 zChks_nil) rfl rfl rfl (Nat.le_of_ble_eq_true rfl) (Nat.le_of_ble_eq_true rfl) ?_
    simp (implicitDefEqProofs := false) only [bX9_run_5, bX9_run_11, zRun_cons, zRun_nil, zLk, zSto, zIns, zFil, zf0, zf1, zf2, zf3, List.filter_cons, List.filter_nil, Nat.reduceAdd, Nat.reduceEqDiff, Nat.reduceLT, Nat.reduceLeDiff, Nat.reduceBEq, Nat.reduceBNe, reduceIte, if_true, if_false, Bool.false_and, Bool.true_and, Bool.and_true, Bool.and_false, Bool.not_false, Bool.not_true, Bool.false_eq_true, beq_self_eq_true, BEq.rfl, zCat1, zCat2, zCat3, zKdI, zKdL, zKdR, true_and, and_true, zSI, zSL, zSR, zu_at, and_self, and_false, false_and, lv_args, zKdZ, zKdO, zB01, zB11, Option.toList_none, Option.toList_some, List.nil_append, List.cons_append, true_or, or_true, zRow_rd, zu_rd, zo_if_ne, zo_ldc, zo_ireturn, zo_aload_n, zi_m2147483648, zRt, zKn_s, zKn_0, zFind, zb1_t, zN10, zN01, not_true_eq_false, not_false_eq_true, false_implies, true_implies, implies_true, eq_self, nI_1, nI_40, nI_7, vz0, vz1, zb1_e0, zb1_n0]
    refine z_cV0 (M' := mX9_prepare) (R' := rX9_prepare) (i := 0) [] [] eX9_prepare k9_233 (by decide +kernel : decode cX9_run 12 = .ok (.invokevirtual 233, 3)) (Nat.le_of_ble_eq_true rfl) ⟨Nat.le_of_ble_eq_true rfl, Nat.le_of_ble_eq_true rfl, Nat.le_of_ble_eq_true rfl, Nat.le_of_ble_eq_true rfl, Nat.le_of_ble_eq_true rfl⟩ rfl rfl rfl sh_0 ?_
    refine cl_prepare hC (fun I1 L1 k1 k2 hT => ?_)
    refine zBlkR (M := mX9_run) (nL := 2) (rt := (Option.some .int)) (blk := bX9_run_15) (T := []) 0 hX9_run_15 zChks_nil rfl rfl rfl (Nat.le_of_ble_eq_true rfl) (Nat.le_of_ble_eq_true rfl) ?_
    simp only [bX9_run_15, zRun_cons, zRun_nil, zLk, zSto, zIns, zFil, zf0, zf1, zf2, zf3, List.filter_cons, List.filter_nil, Nat.reduceAdd, Nat.reduceEqDiff, Nat.reduceLT, Nat.reduceLeDiff, Nat.reduceBEq, Nat.reduceBNe, reduceIte, if_true, if_false, Bool.false_and, Bool.true_and, Bool.and_true, Bool.and_false, Bool.not_false, Bool.not_true, Bool.false_eq_true, beq_self_eq_true, BEq.rfl, zCat1, zCat2, zCat3, zKdI, zKdL, zKdR, true_and, and_true, zSI, zSL, zSR, zu_at, and_self, and_false, false_and, lv_args, zKdZ, zKdO, zB01, zB11, Option.toList_none, Option.toList_some, List.nil_append, List.cons_append, true_or, or_true, zRow_rd, zu_rd, zo_aload_n, zo_iload_n, zKn_0, zN10, zN01, not_true_eq_false, not_false_eq_true, false_implies, true_implies, implies_true, eq_self, nI_1, nI_40, nI_7, vz0, vz1, zb1_e0, zb1_n0]
    refine z_cV0 (M' := mX9_balanceAfter) (R' := rX9_balanceAfter) (i := 0) [.int (nI n)] [] eX9_balanceAfter k9_236 (by decide +kernel : decode cX9_run 17 = .ok (.invokevirtual 236, 3)) (Nat.le_of_ble_eq_true rfl) ⟨Nat.le_of_ble_eq_true rfl, Nat.le_of_ble_eq_true rfl, Nat.le_of_ble_eq_true rfl, Nat.le_of_ble_eq_true rfl, Nat.le_of_ble_eq_true rfl⟩ rfl rfl rfl sh_0 ?_
    refine cl_balanceAfter hw hT hn (fun I2 L2 k3 k4 => ?_)
    rw [oGsb_m1 hn]
    refine zBlkR (M := mX9_run) (nL := 2) (rt := (Option.some .int)) (blk := bX9_run_20) (T := []) 0 hX9_run_20 zChks_nil rfl rfl rfl (Nat.le_of_ble_eq_true rfl) (Nat.le_of_ble_eq_true rfl) ?_
    simp only [bX9_run_20, zRun_cons, zRun_nil, zLk, zSto, zIns, zFil, zf0, zf1, zf2, zf3, List.filter_cons, List.filter_nil, Nat.reduceAdd, Nat.reduceEqDiff, Nat.reduceLT, Nat.reduceLeDiff, Nat.reduceBEq, Nat.reduceBNe, reduceIte, if_true, if_false, Bool.false_and, Bool.true_and, Bool.and_true, Bool.and_false, Bool.not_false, Bool.not_true, Bool.false_eq_true, beq_self_eq_true, BEq.rfl, zCat1, zCat2, zCat3, zKdI, zKdL, zKdR, true_and, and_true, zSI, zSL, zSR, zu_at, and_self, and_false, false_and, lv_args, zKdZ, zKdO, zB01, zB11, Option.toList_none, Option.toList_some, List.nil_append, List.cons_append, true_or, or_true, zRow_rd, zu_rd, zo_ireturn, zRt, zKn_0, zN10, zN01, not_true_eq_false, not_false_eq_true, false_implies, true_implies, implies_true, eq_self, nI_1, nI_40, nI_7, vz0, vz1, zb1_e0, zb1_n0]
    exact hQ I2 L2 (k1.trans k3) (k2.trans k4)
set_option maxRecDepth 20000 in
theorem mo_run (hR : zRl I L P V d t kc rt) (hQ : ∀ I' L', zKpt SRt I I' → zKpt SRtL L L' → Q (some (.int (aRun P V d t rt x))) (SH, I', L', RF p s r)) : zXM w mX10_run rX10_run [.ref 87, .int x] (SH, I, L, RF p s r) Q := by
  unfold zXM
  refine zBlkR (M := mX10_run) (nL := 2) (rt := (Option.some .int)) (blk := bX10_run_0) (T := []) 0 hX10_run_0 zChks_nil rfl rfl rfl (Nat.le_of_ble_eq_true rfl) (Nat.le_of_ble_eq_true rfl) ?_
  simp only [bX10_run_0, zRun_cons, zRun_nil, zLk, zSto, zIns, zFil, zf0, zf1, zf2, zf3, List.filter_cons, List.filter_nil, Nat.reduceAdd, Nat.reduceEqDiff, Nat.reduceLT, Nat.reduceLeDiff, Nat.reduceBEq, Nat.reduceBNe, reduceIte, if_true, if_false, Bool.false_and, Bool.true_and, Bool.and_true, Bool.and_false, Bool.not_false, Bool.not_true, Bool.false_eq_true, beq_self_eq_true, BEq.rfl, zCat1, zCat2, zCat3, zKdI, zKdL, zKdR, true_and, and_true, zSI, zSL, zSR, zu_at, and_self, and_false, false_and, lv_args, zKdZ, zKdO, zB01, zB11, Option.toList_none, Option.toList_some, List.nil_append, List.cons_append, true_or, or_true, zRow_rd, zu_rd, zo_aload_n, zo_iconst, zo_putfield, zo_putfield_2, zo_putfield_3, zo_iload_n, zi_0, zKd_10_2, zTy_10_2, zcl_0, sh_87, zPutC, zKn_0, zN10, zN01, not_true_eq_false, not_false_eq_true, false_implies, true_implies, implies_true, eq_self, nI_1, nI_40, nI_7, vz0, vz1, zb1_e0, zb1_n0]
  have h0 : zKpt SRt I (zu I 87 2 0) := zKpt_rfl.u (by unfold SRt; omega)
  have hR := zRl_t h0 zKpt_rfl hR
  have h9 := hR.2.2.2.2.2.2.2.1
  have hpa : ∀ c, c < 40 → V 5 c = 0 ∨ V 5 c = 1 := fun c hc => oOk_pa hR.2.2.2.2.2.1 hc
  generalize zu I 87 2 0 = I0 at *
  refine z_cV0 (M' := mX10_isRun) (R' := rX10_isRun) (i := 87) [.int x] [] eX10_isRun k10_530 (by decide +kernel : decode cX10_run 7 = .ok (.invokevirtual 530, 3)) (Nat.le_of_ble_eq_true rfl) ⟨Nat.le_of_ble_eq_true rfl, Nat.le_of_ble_eq_true rfl, Nat.le_of_ble_eq_true rfl, Nat.le_of_ble_eq_true rfl, Nat.le_of_ble_eq_true rfl⟩ rfl rfl rfl sh_87 ?_
  refine mo_isRun hR.2.2.2.2.1.2.1 h9 ?_
  unfold aRun at hQ
  cases hr : pRun t x with
  | false =>
    rw [hr, if_neg (by decide)] at hQ
    refine zBlkR (M := mX10_run) (nL := 2) (rt := (Option.some .int)) (blk := bX10_run_10) (T := [(17, bX10_run_17)]) 1 hX10_run_10 (zChks_cons hX10_run_17 zChks_nil) rfl rfl rfl (Nat.le_of_ble_eq_true rfl) (Nat.le_of_ble_eq_true rfl) ?_
    simp (implicitDefEqProofs := false) only [bX10_run_10, bX10_run_17, zRun_cons, zRun_nil, zLk, zSto, zIns, zFil, zf0, zf1, zf2, zf3, List.filter_cons, List.filter_nil, Nat.reduceAdd, Nat.reduceEqDiff, Nat.reduceLT, Nat.reduceLeDiff, Nat.reduceBEq, Nat.reduceBNe, reduceIte, if_true, if_false, Bool.false_and, Bool.true_and, Bool.and_true, Bool.and_false, Bool.not_false, Bool.not_true, Bool.false_eq_true, beq_self_eq_true, BEq.rfl, zCat1, zCat2, zCat3, zKdI, zKdL, zKdR, true_and, and_true, zSI, zSL, zSR, zu_at, and_self, and_false, false_and, lv_args, zKdZ, zKdO, zB01, zB11, Option.toList_none, Option.toList_some, List.nil_append, List.cons_append, true_or, or_true, zRow_rd, zu_rd, zo_if_ne, zo_ldc_w, zo_ireturn, zo_aload_n, zi_m2147483648, zRt, zKn_s, zKn_0, zFind, zb1_f, zN10, zN01, not_true_eq_false, not_false_eq_true, false_implies, true_implies, implies_true, eq_self, nI_1, nI_40, nI_7, vz0, vz1, zb1_e0, zb1_n0]
    exact hQ _ L h0 zKpt_rfl
  | true =>
    obtain ⟨n, e, hn⟩ := pRun_t hr h9
    subst e
    rw [hr, if_pos rfl, nI_clamp (by omega)] at hQ
    refine zBlkR (M := mX10_run) (nL := 2) (rt := (Option.some .int)) (blk := bX10_run_10) (T := [(17, bX10_run_17)]) 1 hX10_run_10 (zChks_cons hX10_run_17 zChks_nil) rfl rfl rfl (Nat.le_of_ble_eq_true rfl) (Nat.le_of_ble_eq_true rfl) ?_
    simp (implicitDefEqProofs := false) only [bX10_run_10, bX10_run_17, zRun_cons, zRun_nil, zLk, zSto, zIns, zFil, zf0, zf1, zf2, zf3, List.filter_cons, List.filter_nil, Nat.reduceAdd, Nat.reduceEqDiff, Nat.reduceLT, Nat.reduceLeDiff, Nat.reduceBEq, Nat.reduceBNe, reduceIte, if_true, if_false, Bool.false_and, Bool.true_and, Bool.and_true, Bool.and_false, Bool.not_false, Bool.not_true, Bool.false_eq_true, beq_self_eq_true, BEq.rfl, zCat1, zCat2, zCat3, zKdI, zKdL, zKdR, true_and, and_true, zSI, zSL, zSR, zu_at, and_self, and_false, false_and, lv_args, zKdZ, zKdO, zB01, zB11, Option.toList_none, Option.toList_some, List.nil_append, List.cons_append, true_or, or_true, zRow_rd, zu_rd, zo_if_ne, zo_ldc_w, zo_ireturn, zo_aload_n, zi_m2147483648, zRt, zKn_s, zKn_0, zFind, zb1_t, zN10, zN01, not_true_eq_false, not_false_eq_true, false_implies, true_implies, implies_true, eq_self, nI_1, nI_40, nI_7, vz0, vz1, zb1_e0, zb1_n0]
    refine z_cV0 (M' := mX10_plainRun) (R' := rX10_plainRun) (i := 87) [] [] eX10_plainRun k10_513 (by decide +kernel : decode cX10_run 18 = .ok (.invokevirtual 513, 3)) (Nat.le_of_ble_eq_true rfl) ⟨Nat.le_of_ble_eq_true rfl, Nat.le_of_ble_eq_true rfl, Nat.le_of_ble_eq_true rfl, Nat.le_of_ble_eq_true rfl, Nat.le_of_ble_eq_true rfl⟩ rfl rfl rfl sh_87 ?_
    refine mo_plainRun hR (fun I1 k1 hM => ?_)
    have hR1 := zRl_t k1 zKpt_rfl hR
    refine zBlkR (M := mX10_run) (nL := 2) (rt := (Option.some .int)) (blk := bX10_run_21) (T := []) 0 hX10_run_21 zChks_nil rfl rfl rfl (Nat.le_of_ble_eq_true rfl) (Nat.le_of_ble_eq_true rfl) ?_
    simp only [bX10_run_21, zRun_cons, zRun_nil, zLk, zSto, zIns, zFil, zf0, zf1, zf2, zf3, List.filter_cons, List.filter_nil, Nat.reduceAdd, Nat.reduceEqDiff, Nat.reduceLT, Nat.reduceLeDiff, Nat.reduceBEq, Nat.reduceBNe, reduceIte, if_true, if_false, Bool.false_and, Bool.true_and, Bool.and_true, Bool.and_false, Bool.not_false, Bool.not_true, Bool.false_eq_true, beq_self_eq_true, BEq.rfl, zCat1, zCat2, zCat3, zKdI, zKdL, zKdR, true_and, and_true, zSI, zSL, zSR, zu_at, and_self, and_false, false_and, lv_args, zKdZ, zKdO, zB01, zB11, Option.toList_none, Option.toList_some, List.nil_append, List.cons_append, true_or, or_true, zRow_rd, zu_rd, zo_aload_n, zKn_0, zN10, zN01, not_true_eq_false, not_false_eq_true, false_implies, true_implies, implies_true, eq_self, nI_1, nI_40, nI_7, vz0, vz1, zb1_e0, zb1_n0]
    refine z_cV0 (M' := mX10_layRun) (R' := rX10_layRun) (i := 87) [] [] eX10_layRun k10_534 (by decide +kernel : decode cX10_run 22 = .ok (.invokevirtual 534, 3)) (Nat.le_of_ble_eq_true rfl) ⟨Nat.le_of_ble_eq_true rfl, Nat.le_of_ble_eq_true rfl, Nat.le_of_ble_eq_true rfl, Nat.le_of_ble_eq_true rfl, Nat.le_of_ble_eq_true rfl⟩ rfl rfl rfl sh_87 ?_
    refine mo_layRun hR1.2.2.2.2.1.1 hR1.2.2.2.2.1.2.2.2.2.2.2 hpa (fun I2 L2 k2 k3 v2 d2 => ?_)
    refine zBlkR (M := mX10_run) (nL := 2) (rt := (Option.some .int)) (blk := bX10_run_25) (T := []) 0 hX10_run_25 zChks_nil rfl rfl rfl (Nat.le_of_ble_eq_true rfl) (Nat.le_of_ble_eq_true rfl) ?_
    simp only [bX10_run_25, zRun_cons, zRun_nil, zLk, zSto, zIns, zFil, zf0, zf1, zf2, zf3, List.filter_cons, List.filter_nil, Nat.reduceAdd, Nat.reduceEqDiff, Nat.reduceLT, Nat.reduceLeDiff, Nat.reduceBEq, Nat.reduceBNe, reduceIte, if_true, if_false, Bool.false_and, Bool.true_and, Bool.and_true, Bool.and_false, Bool.not_false, Bool.not_true, Bool.false_eq_true, beq_self_eq_true, BEq.rfl, zCat1, zCat2, zCat3, zKdI, zKdL, zKdR, true_and, and_true, zSI, zSL, zSR, zu_at, and_self, and_false, false_and, lv_args, zKdZ, zKdO, zB01, zB11, Option.toList_none, Option.toList_some, List.nil_append, List.cons_append, true_or, or_true, zRow_rd, zu_rd, zo_aload_n, zo_iload_n, zKn_0, zN10, zN01, not_true_eq_false, not_false_eq_true, false_implies, true_implies, implies_true, eq_self, nI_1, nI_40, nI_7, vz0, vz1, zb1_e0, zb1_n0]
    refine z_cV0 (M' := mX10_runs) (R' := rX10_runs) (i := 87) [.int (nI n)] [] eX10_runs k10_537 (by decide +kernel : decode cX10_run 27 = .ok (.invokevirtual 537, 3)) (Nat.le_of_ble_eq_true rfl) ⟨Nat.le_of_ble_eq_true rfl, Nat.le_of_ble_eq_true rfl, Nat.le_of_ble_eq_true rfl, Nat.le_of_ble_eq_true rfl, Nat.le_of_ble_eq_true rfl⟩ rfl rfl rfl sh_87 ?_
    refine mo_runs (m := mTold P) (rt := rt) (S := (V, d)) hn (by rw [zFR_87 k2 (by omega)]; exact hR1.2.2.2.2.1.2.1) hR.1 hR.2.2.2.2.2.2.1 (zRefP_R k2 hR1.2.2.1) (zRefM_R k2 hM) v2 d2 hR.2.2.2.2.2.1 (fun I3 L3 l1 l2 _ _ => ?_)
    refine zBlkR (M := mX10_run) (nL := 2) (rt := (Option.some .int)) (blk := bX10_run_30) (T := []) 0 hX10_run_30 zChks_nil rfl rfl rfl (Nat.le_of_ble_eq_true rfl) (Nat.le_of_ble_eq_true rfl) ?_
    simp only [bX10_run_30, zRun_cons, zRun_nil, zLk, zSto, zIns, zFil, zf0, zf1, zf2, zf3, List.filter_cons, List.filter_nil, Nat.reduceAdd, Nat.reduceEqDiff, Nat.reduceLT, Nat.reduceLeDiff, Nat.reduceBEq, Nat.reduceBNe, reduceIte, if_true, if_false, Bool.false_and, Bool.true_and, Bool.and_true, Bool.and_false, Bool.not_false, Bool.not_true, Bool.false_eq_true, beq_self_eq_true, BEq.rfl, zCat1, zCat2, zCat3, zKdI, zKdL, zKdR, true_and, and_true, zSI, zSL, zSR, zu_at, and_self, and_false, false_and, lv_args, zKdZ, zKdO, zB01, zB11, Option.toList_none, Option.toList_some, List.nil_append, List.cons_append, true_or, or_true, zRow_rd, zu_rd, zo_ireturn, zRt, zKn_0, zN10, zN01, not_true_eq_false, not_false_eq_true, false_implies, true_implies, implies_true, eq_self, nI_1, nI_40, nI_7, vz0, vz1, zb1_e0, zb1_n0]
    exact hQ I3 L3 (((h0.trans k1).trans (zFR1_SRt k2)).trans (zFR1_SRt l1)) ((zFRL1_SRt k3).trans (zFRL1_SRt l2))
end ZA74
