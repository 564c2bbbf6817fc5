section
/-! ===== THE CLASS: a walk; its plan, terms and front beside the pure ones ===== -/
/-- a knot as the class writes it -/
def jEnc (k a : Int32) : Int32 := if k = 0 then a else if k = 1 then (if a = 6 then -27 else if a = 7 then -26 else -(a + 20)) else if k = 2 then -46 else if k = 3 then -45 else if k = 4 then -44 else -(k + 2)
/-- the rows of a plan of the class -/
def zClsR (g : Nat → Nat → Int32) (P : oPn) : Prop :=
  (g 0 0 = nI (pNp P) ∧ g 0 5 = nI (pNc P) ∧ g 0 9 = nI (pNb P) ∧ g 0 14 = nI (pNg P) ∧ g 0 16 = nI (pNk P)) ∧
  (∀ k, k < pNp P → g 1 k = pR P 90 k ∧ g 2 k = pR P 91 k ∧ g 3 k = pR P 92 k ∧ g 4 k = pR P 93 k) ∧
  (∀ k, k < pNc P → g 5 k = pR P 94 k ∧ g 6 k = pR P 95 k) ∧
  (∀ k, k < 96 → g 7 k = oSky (pR P 96) (pR P 97) (nI k) (pNs P) false) ∧
  (∀ k, k < pNb P → g 8 k = pR P 98 k ∧ g 9 k = pR P 99 k ∧ g 10 k = pR P 100 k) ∧
  (g 11 0 = pR P 102 5 ∧ g 11 1 = pR P 102 1 ∧ g 11 2 = pR P 102 6 ∧ g 11 3 = pR P 102 7 ∧ g 11 4 = pR P 102 8 ∧ g 11 5 = pR P 102 9 ∧ g 11 6 = pR P 102 10) ∧
  (∀ k, k < pNg P → g 12 k = pR P 101 k) ∧
  (∀ wh, wh < 3 → g 14 wh = (if pTold P wh = true then nI (pF P wh) else -1) ∧ (pTold P wh = true → g 15 wh = nI (pT P wh) ∧ ∀ i, pF P wh ≤ i → i < pT P wh → g 13 i = jEnc (pR P 107 i) (pR P 108 i)))
def zClsP (I : Nat → Nat → Int32) (a : Nat) (P : oPn) : Prop := zClsR (fun j => I (a + j)) P
/-- what else of a plan the class's way needs -/
def POk2 (P : oPn) : Prop := pNg P ≤ 4 ∧ (∀ k, k < pNp P → pR P 93 k = -1 ∨ ∃ n, n < 96 ∧ pR P 93 k = nI n) ∧
  (∀ wh, wh < 3 → pTold P wh = true → ∀ i, pF P wh ≤ i → i < pT P wh → ∃ k, k ≤ 14 ∧ pR P 107 i = nI k ∧ (k = 0 → ∃ n, n ≤ 9999 ∧ pR P 108 i = nI n)) ∧
  (∀ k, k < pNs P → ∃ n x, n < 96 ∧ x ≤ 2 ∧ pR P 96 k = nI n ∧ pR P 97 k = nI x) ∧ 0 < (pR P 102 8).toInt
def zClsM (g : Nat → Int32) (m : oTm) : Prop := g 0 = mPr m ∧ g 1 = zb1 (m2 m) ∧ g 3 = zb1 (mNr m) ∧ g 4 = zb1 (mNb m) ∧ g 5 = zb1 (mNd m) ∧ g 6 = zb1 (mNw m) ∧ g 7 = mSh m ∧ g 8 = mAb m
/-- a walk W over the front B by the terms T and the plan p -/
def zCw (I : Nat → Nat → Int32) (W B T p : Nat) (P : oPn) (m : oTm) (t : Nat) (V : Nat → Nat → Int32) : Prop :=
  zWc W B T ∧ zPc p ∧ POk P ∧ POk2 P ∧ zClsP I p P ∧ zClsM (I T) m ∧ zFC B I (pCh P) V ∧ I B 10 = nI t ∧ t < 96 ∧ oOk (pCh P) (pNp P) (pR P 102 8) V
/-- longs that a walk may change -/
def zFWL (W B i k : Nat) : Prop := i = W + 1 ∨ i = W + 2 ∨ (i = B ∧ k = 15)
def zWS (W i _k : Nat) : Prop := i = W + 1
section ZW64
variable {w : zP} {Q : Option Value → zMem → Prop} {μ : zMem} {I J V V' : Nat → Nat → Int32} {L : Nat → Nat → Int64} {p s W B T t : Nat} {r : Option Nat} {P : oPn} {m : oTm} {c i k q : Nat}
theorem zFB_out (hB : zBc B) (h : zKpt (zFB B) I J) (hi : i < 10 ∨ 36 < i) : J i = I i := by
  funext k
  refine h i k ?_
  unfold zFB
  rcases hB with rfl | rfl | rfl <;> omega
theorem zFB_B (h : zKpt (zFB B) I J) (hk : k ≠ 9) : J B k = I B k := by
  refine h B k ?_
  unfold zFB
  omega
theorem zClsP_row (h : ∀ j, J (p + j) = I (p + j)) (hP : zClsP I p P) : zClsP J p P := by
  unfold zClsP
  rw [show (fun j => J (p + j)) = fun j => I (p + j) from funext h]
  exact hP
theorem zPc_gt (h : zPc p) : 36 < p := by rcases h with rfl | rfl <;> omega
theorem zWc_T (h : zWc W B T) : T < 10 := by rcases h with ⟨-, -, rfl⟩ | ⟨-, -, rfl⟩ <;> omega
theorem zCw_u (hC : zCw I W B T p P m t V) (h : zKpt (zFB B) I J) (hF : zFC B J (pCh P) V') (hok : oOk (pCh P) (pNp P) (pR P 102 8) V') : zCw J W B T p P m t V' := by
  obtain ⟨h1, h2, h3, h4, h5, h6, h7, h8, h9, h10⟩ := hC
  refine ⟨h1, h2, h3, h4, zClsP_row (fun j => zFB_out (wB h1) h ?_) h5, ?_, hF, ?_, h9, hok⟩
  · have := zPc_gt h2; omega
  · rw [zFB_out (wB h1) h (Or.inl (zWc_T h1))]; exact h6
  · rw [zFB_B h (by decide)]; exact h8
theorem zCw.hW (hC : zCw I W B T p P m t V) : zWc W B T := hC.1
theorem zCw.hp (hC : zCw I W B T p P m t V) : zPc p := hC.2.1
theorem zCw.hO (hC : zCw I W B T p P m t V) : POk P := hC.2.2.1
theorem zCw.hO2 (hC : zCw I W B T p P m t V) : POk2 P := hC.2.2.2.1
theorem zCw.hP (hC : zCw I W B T p P m t V) : zClsP I p P := hC.2.2.2.2.1
theorem zCw.hM (hC : zCw I W B T p P m t V) : zClsM (I T) m := hC.2.2.2.2.2.1
theorem zCw.hF (hC : zCw I W B T p P m t V) : zFC B I (pCh P) V := hC.2.2.2.2.2.2.1
theorem zCw.ht (hC : zCw I W B T p P m t V) : I B 10 = nI t := hC.2.2.2.2.2.2.2.1
theorem zCw.t9 (hC : zCw I W B T p P m t V) : t < 96 := hC.2.2.2.2.2.2.2.2.1
theorem zCw.ok (hC : zCw I W B T p P m t V) : oOk (pCh P) (pNp P) (pR P 102 8) V := hC.2.2.2.2.2.2.2.2.2
theorem zCw.ch (hC : zCw I W B T p P m t V) : pCh P ≤ 40 := hC.2.2.1.1
theorem zCw.np (hC : zCw I W B T p P m t V) : pNp P ≤ 5 := hC.2.2.1.2.1
theorem zCw.i0 (hC : zCw I W B T p P m t V) : I p 0 = nI (pNp P) := hC.hP.1.1
theorem zCw.i5 (hC : zCw I W B T p P m t V) : I p 5 = nI (pNc P) := hC.hP.1.2.1
theorem zCw.i9 (hC : zCw I W B T p P m t V) : I p 9 = nI (pNb P) := hC.hP.1.2.2.1
theorem zCw.vw (hC : zCw I W B T p P m t V) (hk : k < pNp P) : I (p + 2) k = pR P 91 k := (hC.hP.2.1 k hk).2.1
theorem zCw.fr (hC : zCw I W B T p P m t V) (hk : k < pNp P) : I (p + 3) k = pR P 92 k := (hC.hP.2.1 k hk).2.2.1
theorem zCw.td (hC : zCw I W B T p P m t V) (hk : k < pNp P) : I (p + 4) k = pR P 93 k := (hC.hP.2.1 k hk).2.2.2
theorem zWc_37 (h : zWc W B T) : W = 37 ∨ W = 40 := by rcases h with ⟨rfl, -, -⟩ | ⟨rfl, -, -⟩ <;> omega
set_option maxRecDepth 20000 in
theorem cl_skyNow (hC : zCw I W B T p P m t V) (hQ : Q (some (.int (oSky (pR P 96) (pR P 97) (nI t) (pNs P) (mNr m)))) (SH, I, L, RF p s r)) : zXM w mX8_skyNow rX8_skyNow [.ref W] (SH, I, L, RF p s r) Q := by
  unfold zXM
  have hW := hC.hW
  have hB := wB hW
  have hp := hC.hp
  have h9 := hC.t9
  have e1 : ¬ nI t < 0 := nI_nn (by omega)
  have e2 : ¬ (96 : Int32) ≤ nI t := by rw [show (96 : Int32) = nI 96 from rfl, zle_nat (by omega) (by omega)]; omega
  have hv : vp_in (nI t) 96 := zvn h9 (by omega)
  have e3 : I (p + 7) t = oSky (pR P 96) (pR P 97) (nI t) (pNs P) false := hC.hP.2.2.2.1 t h9
  have hM3 := hC.hM.2.2.1
  have ht := hC.ht
  refine zBlkR (M := mX8_skyNow) (nL := 3) (rt := (Option.some .int)) (blk := bX8_skyNow_0) (T := [(30, bX8_skyNow_30), (31, bX8_skyNow_31), (51, bX8_skyNow_51), (52, bX8_skyNow_52)]) 2 hX8_skyNow_0 (zChks_cons hX8_skyNow_30 (zChks_cons hX8_skyNow_31 (zChks_cons hX8_skyNow_51 (zChks_cons hX8_skyNow_52 zChks_nil)))) rfl rfl rfl (Nat.le_of_ble_eq_true rfl) (Nat.le_of_ble_eq_true rfl) ?_
  simp only [bX8_skyNow_0, bX8_skyNow_30, bX8_skyNow_31, bX8_skyNow_51, bX8_skyNow_52, zRun_cons, zRun_nil, zLk, zSto, zIns, zFil, zf0, zf1, zf2, zf3, List.filter_cons, List.filter_nil, Nat.reduceAdd, Nat.reduceEqDiff, Nat.reduceLT, Nat.reduceLeDiff, Nat.reduceBEq, Nat.reduceBNe, reduceIte, if_true, if_false, Bool.false_and, Bool.true_and, Bool.and_true, Bool.and_false, Bool.not_false, Bool.not_true, Bool.false_eq_true, beq_self_eq_true, BEq.rfl, zCat1, zCat2, zCat3, zKdI, zKdL, zKdR, true_and, and_true, zSI, zSL, zSR, zu_at, and_self, and_false, false_and, lv_args, zKdZ, zKdO, zB01, zB11, Option.toList_none, Option.toList_some, List.nil_append, List.cons_append, true_or, or_true, zRow_rd, zu_rd, zo_aload_n, zo_getfield, zo_istore_n, zo_iload_n, zo_if_lt, zo_bipush, zo_icmp_ge, zo_iaload, zo_goto, zo_iconst, zo_icmp_ne, zo_if_eq, zo_ireturn, zb_96, zi_0, zi_2, zi_1, zKd_8_0, zKd_2_10, zKd_8_4, zKd_4_8, zKd_8_1, zKd_6_3, sh_37, rf_37_0, sh_10, sh_40, rf_40_0, sh_19, sh_28, zcl_96, rf_37_4, rf_40_4, sh_55, rf_55_8, sh_62, sh_71, rf_71_8, sh_78, zcl_0, zcl_2, rf_37_1, sh_8, rf_40_1, sh_9, zcl_1, zvi_0_96, zvi_2_96, zvi_1_96, zRt, zKn_s, zKn_0, zFind, (wsh_0 hW), (wsh_1 hW), (wsh_2 hW), (wsh_3 hW), (wrf_0 hW), (wrf_1 hW), (wrf_2 hW), (wrf_3 hW), (wrf_4 hW), Nat.add_left_cancel_iff, Nat.left_eq_add, Nat.add_eq_left, (fsh_0 hB), (fsh_1 hB), (fsh_2 hB), (fsh_3 hB), (fsh_4 hB), (fsh_5 hB), (fsh_6 hB), (fsh_7 hB), (fsh_8 hB), (frf_0 hB), (frf_1 hB), (frf_2 hB), (frf_3 hB), (frf_4 hB), (frf_5 hB), (frf_6 hB), (frf_7 hB), Nat.add_left_cancel_iff, Nat.left_eq_add, Nat.add_eq_left, (psh_0 hp), (psh_1 hp), (psh_2 hp), (psh_3 hp), (psh_4 hp), (psh_5 hp), (psh_6 hp), (psh_7 hp), (psh_8 hp), (psh_9 hp), (psh_10 hp), (psh_11 hp), (psh_12 hp), (psh_13 hp), (psh_14 hp), (psh_15 hp), (prf_1 hp), (prf_2 hp), (prf_3 hp), (prf_4 hp), (prf_6 hp), (prf_7 hp), (prf_8 hp), (prf_10 hp), (prf_11 hp), (prf_12 hp), (prf_13 hp), (prf_15 hp), (prf_17 hp), (prf_18 hp), (prf_19 hp), Nat.add_left_cancel_iff, Nat.left_eq_add, Nat.add_eq_left, ht, e1, e2, hv, e3, hM3, nI_clamp (n := t) (by omega), zN10, zN01, not_true_eq_false, not_false_eq_true, false_implies, true_implies, implies_true, eq_self, nI_1, nI_40, nI_7, vz0, vz1, zb1_e0, zb1_n0]
  unfold oSky at hQ ⊢
  simp only [Bool.false_eq_true, false_and, if_false]
  by_cases g : (oSkyF (pR P 96) (pR P 97) (nI t) (pNs P)).2 = 2
  · cases hn : mNr m <;> simp [hn, g] at hQ ⊢ <;> exact hQ
  · simp [g] at hQ ⊢; exact hQ
set_option maxRecDepth 20000 in
theorem cl_letSittersGo (hC : zCw I W B T p P m t V) (hQ : ∀ I', zKpt (zFB B) I I' → zCw I' W B T p P m t (zIter (oGo (nI t)) (pCh P) V) → Q none (SH, I', L, RF p s r)) : zXM w mX8_letSittersGo rX8_letSittersGo [.ref W] (SH, I, L, RF p s r) Q := by
  unfold zXM
  have hW := hC.hW
  have hB := wB hW
  have hch := hC.ch
  refine zBlkR (M := mX8_letSittersGo) (nL := 2) (rt := (Option.none : Option Jvm.ClassFile.FieldType)) (blk := bX8_letSittersGo_0) (T := []) 0 hX8_letSittersGo_0 zChks_nil rfl rfl rfl (Nat.le_of_ble_eq_true rfl) (Nat.le_of_ble_eq_true rfl) ?_
  simp only [bX8_letSittersGo_0, zRun_cons, zRun_nil, zLk, zSto, zIns, zFil, zf0, zf1, zf2, zf3, List.filter_cons, List.filter_nil, Nat.reduceAdd, Nat.reduceEqDiff, Nat.reduceLT, Nat.reduceLeDiff, Nat.reduceBEq, Nat.reduceBNe, reduceIte, if_true, if_false, Bool.false_and, Bool.true_and, Bool.and_true, Bool.and_false, Bool.not_false, Bool.not_true, Bool.false_eq_true, beq_self_eq_true, BEq.rfl, zCat1, zCat2, zCat3, zKdI, zKdL, zKdR, true_and, and_true, zSI, zSL, zSR, zu_at, and_self, and_false, false_and, lv_args, zKdZ, zKdO, zB01, zB11, Option.toList_none, Option.toList_some, List.nil_append, List.cons_append, true_or, or_true, zRow_rd, zu_rd, zo_iconst, zo_istore_n, zi_0, zcl_0, zKn_0, zN10, zN01, not_true_eq_false, not_false_eq_true, false_implies, true_implies, implies_true, eq_self, nI_1, nI_40, nI_7, vz0, vz1, zb1_e0, zb1_n0]
  refine zLoop (n := pCh P) (P := fun c => ∀ J, zKpt (zFB B) I J → zCw J W B T p P m t (zIter (oGo (nI t)) c V) → zX w mX8_letSittersGo rX8_letSittersGo Q 0 0 2 [(0, Value.ref W), (1, Value.int (nI c))] [] (SH, J, L, RF p s r)) (fun c hc ih => ?_) 0 (Nat.zero_le _) I zKpt_rfl hC
  intro J hJ hCJ
  generalize hW' : zIter (oGo (nI t)) c V = U at *
  have ihW : zIter (oGo (nI t)) (c + 1) V = oGo (nI t) c U := by rw [zIter, hW']
  rw [ihW] at ih
  have h8 := hCJ.hF.2.1
  by_cases hcc : c = pCh P
  · refine zBlkR (M := mX8_letSittersGo) (nL := 2) (rt := (Option.none : Option Jvm.ClassFile.FieldType)) (blk := bX8_letSittersGo_2) (T := [(53, bX8_letSittersGo_53), (59, bX8_letSittersGo_59)]) 1 hX8_letSittersGo_2 (zChks_cons hX8_letSittersGo_53 (zChks_cons hX8_letSittersGo_59 zChks_nil)) rfl rfl rfl (Nat.le_of_ble_eq_true rfl) (Nat.le_of_ble_eq_true rfl) ?_
    simp only [bX8_letSittersGo_2, bX8_letSittersGo_53, bX8_letSittersGo_59, zRun_cons, zRun_nil, zLk, zSto, zIns, zFil, zf0, zf1, zf2, zf3, List.filter_cons, List.filter_nil, Nat.reduceAdd, Nat.reduceEqDiff, Nat.reduceLT, Nat.reduceLeDiff, Nat.reduceBEq, Nat.reduceBNe, reduceIte, if_true, if_false, Bool.false_and, Bool.true_and, Bool.and_true, Bool.and_false, Bool.not_false, Bool.not_true, Bool.false_eq_true, beq_self_eq_true, BEq.rfl, zCat1, zCat2, zCat3, zKdI, zKdL, zKdR, true_and, and_true, zSI, zSL, zSR, zu_at, and_self, and_false, false_and, lv_args, zKdZ, zKdO, zB01, zB11, Option.toList_none, Option.toList_some, List.nil_append, List.cons_append, true_or, or_true, zRow_rd, zu_rd, zo_iload_n, zo_aload_n, zo_getfield, zo_icmp_ge, zo_iaload, zo_iconst, zo_icmp_ne, zo_iinc, zo_goto, zo_return_, zi_2, zi_1, zKd_8_0, zKd_2_8, zKd_2_0, zKd_2_3, zKd_2_10, sh_37, rf_37_0, sh_10, sh_40, rf_40_0, sh_19, sh_28, rf_10_0, sh_11, rf_19_0, sh_20, rf_28_0, sh_29, zcl_2, rf_10_3, sh_14, rf_19_3, sh_23, rf_28_3, sh_32, zvi_2_40, zKn_s, zKn_0, zFind, (wsh_0 hW), (wsh_1 hW), (wsh_2 hW), (wsh_3 hW), (wrf_0 hW), (wrf_1 hW), (wrf_2 hW), (wrf_3 hW), (wrf_4 hW), Nat.add_left_cancel_iff, Nat.left_eq_add, Nat.add_eq_left, (fsh_0 hB), (fsh_1 hB), (fsh_2 hB), (fsh_3 hB), (fsh_4 hB), (fsh_5 hB), (fsh_6 hB), (fsh_7 hB), (fsh_8 hB), (frf_0 hB), (frf_1 hB), (frf_2 hB), (frf_3 hB), (frf_4 hB), (frf_5 hB), (frf_6 hB), (frf_7 hB), Nat.add_left_cancel_iff, Nat.left_eq_add, Nat.add_eq_left, h8, zle_nat (a := pCh P) (b := c) (by omega) (by omega), zN10, zN01, not_true_eq_false, not_false_eq_true, false_implies, true_implies, implies_true, eq_self, nI_1, nI_40, nI_7, vz0, vz1, zb1_e0, zb1_n0]
    exact ⟨fun _ => hQ J hJ (by rw [← hcc, hW']; exact hCJ), fun h => absurd (by omega) h⟩
  have hc4 : c < 40 := by omega
  have hv : vp_in (nI c) 40 := zvn (by omega) (by omega)
  have ht := hCJ.ht
  refine zBlkR (M := mX8_letSittersGo) (nL := 2) (rt := (Option.none : Option Jvm.ClassFile.FieldType)) (blk := bX8_letSittersGo_2) (T := [(53, bX8_letSittersGo_53), (59, bX8_letSittersGo_59)]) 1 hX8_letSittersGo_2 (zChks_cons hX8_letSittersGo_53 (zChks_cons hX8_letSittersGo_59 zChks_nil)) rfl rfl rfl (Nat.le_of_ble_eq_true rfl) (Nat.le_of_ble_eq_true rfl) ?_
  simp only [bX8_letSittersGo_2, bX8_letSittersGo_53, bX8_letSittersGo_59, zRun_cons, zRun_nil, zLk, zSto, zIns, zFil, zf0, zf1, zf2, zf3, List.filter_cons, List.filter_nil, Nat.reduceAdd, Nat.reduceEqDiff, Nat.reduceLT, Nat.reduceLeDiff, Nat.reduceBEq, Nat.reduceBNe, reduceIte, if_true, if_false, Bool.false_and, Bool.true_and, Bool.and_true, Bool.and_false, Bool.not_false, Bool.not_true, Bool.false_eq_true, beq_self_eq_true, BEq.rfl, zCat1, zCat2, zCat3, zKdI, zKdL, zKdR, true_and, and_true, zSI, zSL, zSR, zu_at, and_self, and_false, false_and, lv_args, zKdZ, zKdO, zB01, zB11, Option.toList_none, Option.toList_some, List.nil_append, List.cons_append, true_or, or_true, zRow_rd, zu_rd, zo_iload_n, zo_aload_n, zo_getfield, zo_icmp_ge, zo_iaload, zo_iconst, zo_icmp_ne, zo_iinc, zo_goto, zo_return_, zi_2, zi_1, zKd_8_0, zKd_2_8, zKd_2_0, zKd_2_3, zKd_2_10, sh_37, rf_37_0, sh_10, sh_40, rf_40_0, sh_19, sh_28, rf_10_0, sh_11, rf_19_0, sh_20, rf_28_0, sh_29, zcl_2, rf_10_3, sh_14, rf_19_3, sh_23, rf_28_3, sh_32, zvi_2_40, zKn_s, zKn_0, zFind, (wsh_0 hW), (wsh_1 hW), (wsh_2 hW), (wsh_3 hW), (wrf_0 hW), (wrf_1 hW), (wrf_2 hW), (wrf_3 hW), (wrf_4 hW), Nat.add_left_cancel_iff, Nat.left_eq_add, Nat.add_eq_left, (fsh_0 hB), (fsh_1 hB), (fsh_2 hB), (fsh_3 hB), (fsh_4 hB), (fsh_5 hB), (fsh_6 hB), (fsh_7 hB), (fsh_8 hB), (frf_0 hB), (frf_1 hB), (frf_2 hB), (frf_3 hB), (frf_4 hB), (frf_5 hB), (frf_6 hB), (frf_7 hB), Nat.add_left_cancel_iff, Nat.left_eq_add, Nat.add_eq_left, h8, hv, ht, zle_nat (a := pCh P) (b := c) (by omega) (by omega), nI_clamp (n := c) (by omega), hCJ.hF.v1 hc4, hCJ.hF.v4 hc4, zN10, zN01, not_true_eq_false, not_false_eq_true, false_implies, true_implies, implies_true, eq_self, nI_1, nI_40, nI_7, vz0, vz1, zb1_e0, zb1_n0]
  refine ⟨fun h => absurd h (by omega), fun _ => ⟨fun h1 => ?_, fun h1 => ⟨fun h2 => ?_, fun h2 => ?_⟩⟩⟩
  · rw [oGo, if_neg (fun q => h1 q.1)] at ih
    exact ih (by omega) J hJ hCJ
  · rw [oGo, if_neg (fun q => h2 q.2)] at ih
    exact ih (by omega) J hJ hCJ
  · refine z_cV0 (M' := mX2_unseat) (R' := rX2_unseat) (i := B) [.int (nI c)] [] eX2_unseat k8_99 (by decide +kernel : decode cX8_letSittersGo 50 = .ok (.invokevirtual 99, 3)) (Nat.le_of_ble_eq_true rfl) ⟨Nat.le_of_ble_eq_true rfl, Nat.le_of_ble_eq_true rfl, Nat.le_of_ble_eq_true rfl, Nat.le_of_ble_eq_true rfl, Nat.le_of_ble_eq_true rfl⟩ rfl rfl rfl (fsh_0 hB) ?_
    refine cl_unseat hB (by omega) hch hCJ.np hCJ.hF hCJ.ok (fun I1 k1 f1 => ?_)
    refine zBlkR (M := mX8_letSittersGo) (nL := 2) (rt := (Option.none : Option Jvm.ClassFile.FieldType)) (blk := bX8_letSittersGo_53) (T := []) 0 hX8_letSittersGo_53 zChks_nil rfl rfl rfl (Nat.le_of_ble_eq_true rfl) (Nat.le_of_ble_eq_true rfl) ?_
    simp only [bX8_letSittersGo_53, zRun_cons, zRun_nil, zLk, zSto, zIns, zFil, zf0, zf1, zf2, zf3, List.filter_cons, List.filter_nil, Nat.reduceAdd, Nat.reduceEqDiff, Nat.reduceLT, Nat.reduceLeDiff, Nat.reduceBEq, Nat.reduceBNe, reduceIte, if_true, if_false, Bool.false_and, Bool.true_and, Bool.and_true, Bool.and_false, Bool.not_false, Bool.not_true, Bool.false_eq_true, beq_self_eq_true, BEq.rfl, zCat1, zCat2, zCat3, zKdI, zKdL, zKdR, true_and, and_true, zSI, zSL, zSR, zu_at, and_self, and_false, false_and, lv_args, zKdZ, zKdO, zB01, zB11, Option.toList_none, Option.toList_some, List.nil_append, List.cons_append, true_or, or_true, zRow_rd, zu_rd, zo_iinc, zo_goto, zi_1, zKn_0, zN10, zN01, not_true_eq_false, not_false_eq_true, false_implies, true_implies, implies_true, eq_self, nI_1, nI_40, nI_7, vz0, vz1, zb1_e0, zb1_n0]
    rw [oUn, if_pos h1] at f1
    rw [oGo, if_pos ⟨h1, h2⟩] at ih
    exact ih (by omega) I1 (hJ.trans k1) (zCw_u hCJ k1 f1 (oOk_out hCJ.ok (Or.inr h1)))
set_option maxRecDepth 20000 in
theorem cl_wet (hC : zCw I W B T p P m t V) (hc : c < pCh P) (h1 : V 1 c = 1) (hQ : ∀ I', zKpt (zFB B) I I' → zCw I' W B T p P m t (oRain false (pR P 102 8) c V) → Q none (SH, I', L, RF p s r)) : zXM w mX8_wet rX8_wet [.ref W, .int (nI c)] (SH, I, L, RF p s r) Q := by
  unfold zXM
  have hW := hC.hW
  have hB := wB hW
  have hp := hC.hp
  have hch := hC.ch
  have hc4 : c < 40 := by omega
  have hv : vp_in (nI c) 40 := zvn (by omega) (by omega)
  have x1 : (p + 11 = B + 3) = False := eq_false (by rcases hB with rfl | rfl | rfl <;> rcases hp with rfl | rfl <;> omega)
  have e4 : I (p + 11) 4 = pR P 102 8 := hC.hP.2.2.2.2.2.1.2.2.2.2.1
  have e3 := hC.hF.v3 hc4
  refine zBlkR (M := mX8_wet) (nL := 2) (rt := (Option.none : Option Jvm.ClassFile.FieldType)) (blk := bX8_wet_0) (T := [(56, bX8_wet_56)]) 1 hX8_wet_0 (zChks_cons hX8_wet_56 zChks_nil) rfl rfl rfl (Nat.le_of_ble_eq_true rfl) (Nat.le_of_ble_eq_true rfl) ?_
  simp only [bX8_wet_0, bX8_wet_56, zRun_cons, zRun_nil, zLk, zSto, zIns, zFil, zf0, zf1, zf2, zf3, List.filter_cons, List.filter_nil, Nat.reduceAdd, Nat.reduceEqDiff, Nat.reduceLT, Nat.reduceLeDiff, Nat.reduceBEq, Nat.reduceBNe, reduceIte, if_true, if_false, Bool.false_and, Bool.true_and, Bool.and_true, Bool.and_false, Bool.not_false, Bool.not_true, Bool.false_eq_true, beq_self_eq_true, BEq.rfl, zCat1, zCat2, zCat3, zKdI, zKdL, zKdR, true_and, and_true, zSI, zSL, zSR, zu_at, and_self, and_false, false_and, lv_args, zKdZ, zKdO, zB01, zB11, Option.toList_none, Option.toList_some, List.nil_append, List.cons_append, true_or, or_true, zRow_rd, zu_rd, zo_aload_n, zo_getfield, zo_iload_n, zo_dup2, zo_dup2_2, zo_iaload, zo_iconst, zo_iadd, zo_iastore, zo_icmp_lt, zo_return_, zi_1, zi_4, zKd_8_0, zKd_2_2, zKd_8_4, zKd_4_13, sh_37, rf_37_0, sh_10, sh_40, rf_40_0, sh_19, rf_10_2, sh_13, rf_19_2, sh_22, sh_28, rf_28_2, sh_31, zcl_1, rf_37_4, rf_40_4, sh_55, rf_55_13, sh_66, sh_71, rf_71_13, sh_82, zcl_4, zvi_1_7, zvi_1_40, zvi_4_7, zvi_4_40, zKn_s, zKn_0, zFind, (wsh_0 hW), (wsh_1 hW), (wsh_2 hW), (wsh_3 hW), (wrf_0 hW), (wrf_1 hW), (wrf_2 hW), (wrf_3 hW), (wrf_4 hW), Nat.add_left_cancel_iff, Nat.left_eq_add, Nat.add_eq_left, (fsh_0 hB), (fsh_1 hB), (fsh_2 hB), (fsh_3 hB), (fsh_4 hB), (fsh_5 hB), (fsh_6 hB), (fsh_7 hB), (fsh_8 hB), (frf_0 hB), (frf_1 hB), (frf_2 hB), (frf_3 hB), (frf_4 hB), (frf_5 hB), (frf_6 hB), (frf_7 hB), Nat.add_left_cancel_iff, Nat.left_eq_add, Nat.add_eq_left, (psh_0 hp), (psh_1 hp), (psh_2 hp), (psh_3 hp), (psh_4 hp), (psh_5 hp), (psh_6 hp), (psh_7 hp), (psh_8 hp), (psh_9 hp), (psh_10 hp), (psh_11 hp), (psh_12 hp), (psh_13 hp), (psh_14 hp), (psh_15 hp), (prf_1 hp), (prf_2 hp), (prf_3 hp), (prf_4 hp), (prf_6 hp), (prf_7 hp), (prf_8 hp), (prf_10 hp), (prf_11 hp), (prf_12 hp), (prf_13 hp), (prf_15 hp), (prf_17 hp), (prf_18 hp), (prf_19 hp), Nat.add_left_cancel_iff, Nat.left_eq_add, Nat.add_eq_left, hv, x1, e4, zvi_4_7, e3, nI_clamp (n := c) (by omega), zN10, zN01, not_true_eq_false, not_false_eq_true, false_implies, true_implies, implies_true, eq_self, nI_1, nI_40, nI_7, vz0, vz1, zb1_e0, zb1_n0]
  have k1 : zKpt (zFB B) I (zu I (B + 3) c (V 3 c + 1)) := zKpt_rfl.u (by unfold zFB; omega)
  have f1 : zFC B (zu I (B + 3) c (V 3 c + 1)) (pCh P) (oWet false c V) := by
    obtain ⟨a1, a2, a3, a4, a5⟩ := hC.hF
    have o1 : ∀ y x, oCnt (oWet false c V) y x (pCh P) = oCnt V y x (pCh P) := fun y x => by unfold oCnt; simp [oWet_at]
    have o2 : oStk (oWet false c V) (pCh P) = oStk V (pCh P) := by unfold oStk; simp [oWet_at]
    refine ⟨?_, ?_, fun q hq => ?_, fun q hq => ?_, ?_⟩
    · rw [vCu3 hc4, a1]; rfl
    · simp [zu_at]; exact a2
    · simp [zu_at]; rw [o1]; exact a3 q hq
    · simp [zu_at]; rw [o1]; exact a4 q hq
    · simp [zu_at]; rw [o2]; exact a5
  have hr : oRain false (pR P 102 8) c V = if V 3 c + 1 < pR P 102 8 then zu (oOff c (oWet false c V)) 1 c 1 else zu (oLose c (oWet false c V)) 8 6 (V 8 6 + 1) := by rw [oRain, if_pos (Or.inl h1)]; rfl
  have hok := oOk_rain (nw := false) hc4 hC.ok
  have ho := oOk_1 hC.ok hc4 h1
  rw [hr] at hQ hok
  refine ⟨fun h => ?_, fun h => ?_⟩
  · rw [if_pos h] at hQ hok
    have e : zu (oOff c (oWet false c V)) 1 c 1 = oWet false c V := by
      funext i d
      simp only [zu_at, oOff_at, oWet_at]
      grind
    rw [e] at hQ hok
    exact hQ _ k1 (zCw_u hC k1 f1 hok)
  · rw [if_neg h] at hQ hok
    refine z_cV0 (M' := mX2_lose) (R' := rX2_lose) (i := B) [.int (nI c)] [] eX2_lose k8_114 (by decide +kernel : decode cX8_wet 39 = .ok (.invokevirtual 114, 3)) (Nat.le_of_ble_eq_true rfl) ⟨Nat.le_of_ble_eq_true rfl, Nat.le_of_ble_eq_true rfl, Nat.le_of_ble_eq_true rfl, Nat.le_of_ble_eq_true rfl, Nat.le_of_ble_eq_true rfl⟩ rfl rfl rfl (fsh_0 hB) ?_
    refine zXM_lose hB hc hch hC.np f1 ?_ h1 ho.1 ho.2 (fun I2 k2 f2 => ?_)
    · obtain ⟨-, hq, -⟩ := oOk_front hC.ok hc4 (Or.inl h1)
      exact hq
    refine zBlkR (M := mX8_wet) (nL := 2) (rt := (Option.none : Option Jvm.ClassFile.FieldType)) (blk := bX8_wet_42) (T := []) 0 hX8_wet_42 zChks_nil rfl rfl rfl (Nat.le_of_ble_eq_true rfl) (Nat.le_of_ble_eq_true rfl) ?_
    simp only [bX8_wet_42, zRun_cons, zRun_nil, zLk, zSto, zIns, zFil, zf0, zf1, zf2, zf3, List.filter_cons, List.filter_nil, Nat.reduceAdd, Nat.reduceEqDiff, Nat.reduceLT, Nat.reduceLeDiff, Nat.reduceBEq, Nat.reduceBNe, reduceIte, if_true, if_false, Bool.false_and, Bool.true_and, Bool.and_true, Bool.and_false, Bool.not_false, Bool.not_true, Bool.false_eq_true, beq_self_eq_true, BEq.rfl, zCat1, zCat2, zCat3, zKdI, zKdL, zKdR, true_and, and_true, zSI, zSL, zSR, zu_at, and_self, and_false, false_and, lv_args, zKdZ, zKdO, zB01, zB11, Option.toList_none, Option.toList_some, List.nil_append, List.cons_append, true_or, or_true, zRow_rd, zu_rd, zo_aload_n, zo_getfield, zo_bipush, zo_dup2, zo_dup2_2, zo_iaload, zo_iconst, zo_iadd, zo_iastore, zo_return_, zb_6, zi_1, zKd_8_0, zKd_2_7, sh_37, rf_37_0, sh_10, sh_40, rf_40_0, sh_19, rf_10_7, sh_18, rf_19_7, sh_27, sh_28, rf_28_7, sh_36, zcl_6, zcl_1, zvi_6_7, zvi_1_7, zKn_0, (wsh_0 hW), (wsh_1 hW), (wsh_2 hW), (wsh_3 hW), (wrf_0 hW), (wrf_1 hW), (wrf_2 hW), (wrf_3 hW), (wrf_4 hW), Nat.add_left_cancel_iff, Nat.left_eq_add, Nat.add_eq_left, (fsh_0 hB), (fsh_1 hB), (fsh_2 hB), (fsh_3 hB), (fsh_4 hB), (fsh_5 hB), (fsh_6 hB), (fsh_7 hB), (fsh_8 hB), (frf_0 hB), (frf_1 hB), (frf_2 hB), (frf_3 hB), (frf_4 hB), (frf_5 hB), (frf_6 hB), (frf_7 hB), Nat.add_left_cancel_iff, Nat.left_eq_add, Nat.add_eq_left, zvi_6_7, f2.v8 (c := 6) (by omega), zN10, zN01, not_true_eq_false, not_false_eq_true, false_implies, true_implies, implies_true, eq_self, nI_1, nI_40, nI_7, vz0, vz1, zb1_e0, zb1_n0]
    have e6 : oLose c (oWet false c V) 8 6 = V 8 6 := by simp [oLose_at, oOff_at, oWet_at]
    have k3 : zKpt (zFB B) I (zu I2 (B + 8) 6 (oLose c (oWet false c V) 8 6 + 1)) := (k1.trans k2).u (by unfold zFB; omega)
    refine hQ _ k3 (zCw_u hC k3 ?_ hok)
    obtain ⟨a1, a2, a3, a4, a5⟩ := f2
    refine ⟨?_, ?_, fun q hq => ?_, fun q hq => ?_, ?_⟩
    · rw [vC_u8 (by omega), a1, e6]
    · simp [zu_at]; exact a2
    · simp [zu_at]; exact a3 q hq
    · simp [zu_at]; exact a4 q hq
    · simp [zu_at]; exact a5
end ZW64
end

section
/-! ===== THE CLASS: two values joined ===== -/
section ZJ65
variable {w : zP} {Q : Option Value → zMem → Prop} {μ : zMem} {a b x y : Int64}
set_option maxRecDepth 20000 in
theorem sp_absL (hQ : Q (some (.long (jAb x))) μ) : zXM w mJ9_abs_067f4 rJ9_abs_067f4 [.long x] μ Q := by
  unfold zXM
  refine zBlkR (M := mJ9_abs_067f4) (nL := 2) (rt := (Option.some .long)) (blk := bJ9_abs_067f4_0) (T := [(11, bJ9_abs_067f4_11), (12, bJ9_abs_067f4_12)]) 1 hJ9_abs_067f4_0 (zChks_cons hJ9_abs_067f4_11 (zChks_cons hJ9_abs_067f4_12 zChks_nil)) rfl rfl rfl (Nat.le_of_ble_eq_true rfl) (Nat.le_of_ble_eq_true rfl) ?_
  simp only [bJ9_abs_067f4_0, bJ9_abs_067f4_11, bJ9_abs_067f4_12, zRun_cons, zRun_nil, zLk, zSto, zIns, zFil, zf0, zf1, zf2, zf3, List.filter_cons, List.filter_nil, Nat.reduceAdd, Nat.reduceEqDiff, Nat.reduceLT, Nat.reduceLeDiff, Nat.reduceBEq, Nat.reduceBNe, reduceIte, if_true, if_false, Bool.false_and, Bool.true_and, Bool.and_true, Bool.and_false, Bool.not_false, Bool.not_true, Bool.false_eq_true, beq_self_eq_true, BEq.rfl, zCat1, zCat2, zCat3, zKdI, zKdL, zKdR, true_and, and_true, zSI, zSL, zSR, zu_at, and_self, and_false, false_and, lv_args, zKdZ, zKdO, zB01, zB11, Option.toList_none, Option.toList_some, List.nil_append, List.cons_append, true_or, or_true, zRow_rd, zu_rd, zo_lload_n, zo_lconst, zo_lcmp, zo_if_ge, zo_lneg, zo_goto, zo_lreturn, zl_0, zKn_s, zKn_0, zFind, zCat2, lc_ge, zN10, zN01, not_true_eq_false, not_false_eq_true, false_implies, true_implies, implies_true, eq_self, nI_1, nI_40, nI_7, vz0, vz1, zb1_e0, zb1_n0]
  unfold jAb at hQ
  refine ⟨fun h => ?_, fun h => ?_⟩
  · rw [if_neg (Int64.not_lt.mpr h)] at hQ; exact hQ
  · rw [if_pos (Int64.not_le.mp h)] at hQ; exact hQ
set_option maxRecDepth 20000 in
theorem sp_minL (hQ : Q (some (.long (if y < x then y else x))) μ) : zXM w mJ9_min_f86c9 rJ9_min_f86c9 [.long x, .long y] μ Q := by
  unfold zXM
  refine zBlkR (M := mJ9_min_f86c9) (nL := 4) (rt := (Option.some .long)) (blk := bJ9_min_f86c9_0) (T := [(10, bJ9_min_f86c9_10), (11, bJ9_min_f86c9_11)]) 1 hJ9_min_f86c9_0 (zChks_cons hJ9_min_f86c9_10 (zChks_cons hJ9_min_f86c9_11 zChks_nil)) rfl rfl rfl (Nat.le_of_ble_eq_true rfl) (Nat.le_of_ble_eq_true rfl) ?_
  simp only [bJ9_min_f86c9_0, bJ9_min_f86c9_10, bJ9_min_f86c9_11, zRun_cons, zRun_nil, zLk, zSto, zIns, zFil, zf0, zf1, zf2, zf3, List.filter_cons, List.filter_nil, Nat.reduceAdd, Nat.reduceEqDiff, Nat.reduceLT, Nat.reduceLeDiff, Nat.reduceBEq, Nat.reduceBNe, reduceIte, if_true, if_false, Bool.false_and, Bool.true_and, Bool.and_true, Bool.and_false, Bool.not_false, Bool.not_true, Bool.false_eq_true, beq_self_eq_true, BEq.rfl, zCat1, zCat2, zCat3, zKdI, zKdL, zKdR, true_and, and_true, zSI, zSL, zSR, zu_at, and_self, and_false, false_and, lv_args, zKdZ, zKdO, zB01, zB11, Option.toList_none, Option.toList_some, List.nil_append, List.cons_append, true_or, or_true, zRow_rd, zu_rd, zo_lload_n, zo_lcmp, zo_if_gt, zo_goto, zo_lreturn, zKn_s, zKn_0, zFind, zCat2, lc_gt, zN10, zN01, not_true_eq_false, not_false_eq_true, false_implies, true_implies, implies_true, eq_self, nI_1, nI_40, nI_7, vz0, vz1, zb1_e0, zb1_n0]
  refine ⟨fun h => ?_, fun h => ?_⟩
  · rw [if_pos h] at hQ; exact hQ
  · rw [if_neg h] at hQ; exact hQ
set_option maxRecDepth 20000 in
theorem sp_maxL (hQ : Q (some (.long (if x < y then y else x))) μ) : zXM w mJ9_max_f86c9 rJ9_max_f86c9 [.long x, .long y] μ Q := by
  unfold zXM
  refine zBlkR (M := mJ9_max_f86c9) (nL := 4) (rt := (Option.some .long)) (blk := bJ9_max_f86c9_0) (T := [(10, bJ9_max_f86c9_10), (11, bJ9_max_f86c9_11)]) 1 hJ9_max_f86c9_0 (zChks_cons hJ9_max_f86c9_10 (zChks_cons hJ9_max_f86c9_11 zChks_nil)) rfl rfl rfl (Nat.le_of_ble_eq_true rfl) (Nat.le_of_ble_eq_true rfl) ?_
  simp only [bJ9_max_f86c9_0, bJ9_max_f86c9_10, bJ9_max_f86c9_11, zRun_cons, zRun_nil, zLk, zSto, zIns, zFil, zf0, zf1, zf2, zf3, List.filter_cons, List.filter_nil, Nat.reduceAdd, Nat.reduceEqDiff, Nat.reduceLT, Nat.reduceLeDiff, Nat.reduceBEq, Nat.reduceBNe, reduceIte, if_true, if_false, Bool.false_and, Bool.true_and, Bool.and_true, Bool.and_false, Bool.not_false, Bool.not_true, Bool.false_eq_true, beq_self_eq_true, BEq.rfl, zCat1, zCat2, zCat3, zKdI, zKdL, zKdR, true_and, and_true, zSI, zSL, zSR, zu_at, and_self, and_false, false_and, lv_args, zKdZ, zKdO, zB01, zB11, Option.toList_none, Option.toList_some, List.nil_append, List.cons_append, true_or, or_true, zRow_rd, zu_rd, zo_lload_n, zo_lcmp, zo_if_lt, zo_goto, zo_lreturn, zKn_s, zKn_0, zFind, zCat2, lc_lt, zN10, zN01, not_true_eq_false, not_false_eq_true, false_implies, true_implies, implies_true, eq_self, nI_1, nI_40, nI_7, vz0, vz1, zb1_e0, zb1_n0]
  refine ⟨fun h => ?_, fun h => ?_⟩
  · rw [if_pos h] at hQ; exact hQ
  · rw [if_neg h] at hQ; exact hQ
set_option maxRecDepth 20000 in
theorem sp_max {x y : Int32} (hQ : Q (some (.int (if x < y then y else x))) μ) : zXM w mJ9_max_7cf53 rJ9_max_7cf53 [.int x, .int y] μ Q := by
  unfold zXM
  refine zBlkR (M := mJ9_max_7cf53) (nL := 2) (rt := (Option.some .int)) (blk := bJ9_max_7cf53_0) (T := [(9, bJ9_max_7cf53_9), (10, bJ9_max_7cf53_10)]) 1 hJ9_max_7cf53_0 (zChks_cons hJ9_max_7cf53_9 (zChks_cons hJ9_max_7cf53_10 zChks_nil)) rfl rfl rfl (Nat.le_of_ble_eq_true rfl) (Nat.le_of_ble_eq_true rfl) ?_
  simp only [bJ9_max_7cf53_0, bJ9_max_7cf53_9, bJ9_max_7cf53_10, zRun_cons, zRun_nil, zLk, zSto, zIns, zFil, zf0, zf1, zf2, zf3, List.filter_cons, List.filter_nil, Nat.reduceAdd, Nat.reduceEqDiff, Nat.reduceLT, Nat.reduceLeDiff, Nat.reduceBEq, Nat.reduceBNe, reduceIte, if_true, if_false, Bool.false_and, Bool.true_and, Bool.and_true, Bool.and_false, Bool.not_false, Bool.not_true, Bool.false_eq_true, beq_self_eq_true, BEq.rfl, zCat1, zCat2, zCat3, zKdI, zKdL, zKdR, true_and, and_true, zSI, zSL, zSR, zu_at, and_self, and_false, false_and, lv_args, zKdZ, zKdO, zB01, zB11, Option.toList_none, Option.toList_some, List.nil_append, List.cons_append, true_or, or_true, zRow_rd, zu_rd, zo_iload_n, zo_icmp_lt, zo_goto, zo_ireturn, zRt, zKn_s, zKn_0, zFind, zN10, zN01, not_true_eq_false, not_false_eq_true, false_implies, true_implies, implies_true, eq_self, nI_1, nI_40, nI_7, vz0, vz1, zb1_e0, zb1_n0]
  refine ⟨fun h => ?_, fun h => ?_⟩
  · rw [if_pos h] at hQ; exact hQ
  · rw [if_neg h] at hQ; exact hQ
set_option maxRecDepth 20000 in
theorem sp_min {x y : Int32} (hQ : Q (some (.int (if y < x then y else x))) μ) : zXM w mJ9_min_7cf53 rJ9_min_7cf53 [.int x, .int y] μ Q := by
  unfold zXM
  refine zBlkR (M := mJ9_min_7cf53) (nL := 2) (rt := (Option.some .int)) (blk := bJ9_min_7cf53_0) (T := [(9, bJ9_min_7cf53_9), (10, bJ9_min_7cf53_10)]) 1 hJ9_min_7cf53_0 (zChks_cons hJ9_min_7cf53_9 (zChks_cons hJ9_min_7cf53_10 zChks_nil)) rfl rfl rfl (Nat.le_of_ble_eq_true rfl) (Nat.le_of_ble_eq_true rfl) ?_
  simp only [bJ9_min_7cf53_0, bJ9_min_7cf53_9, bJ9_min_7cf53_10, zRun_cons, zRun_nil, zLk, zSto, zIns, zFil, zf0, zf1, zf2, zf3, List.filter_cons, List.filter_nil, Nat.reduceAdd, Nat.reduceEqDiff, Nat.reduceLT, Nat.reduceLeDiff, Nat.reduceBEq, Nat.reduceBNe, reduceIte, if_true, if_false, Bool.false_and, Bool.true_and, Bool.and_true, Bool.and_false, Bool.not_false, Bool.not_true, Bool.false_eq_true, beq_self_eq_true, BEq.rfl, zCat1, zCat2, zCat3, zKdI, zKdL, zKdR, true_and, and_true, zSI, zSL, zSR, zu_at, and_self, and_false, false_and, lv_args, zKdZ, zKdO, zB01, zB11, Option.toList_none, Option.toList_some, List.nil_append, List.cons_append, true_or, or_true, zRow_rd, zu_rd, zo_iload_n, zo_icmp_gt, zo_goto, zo_ireturn, zRt, zKn_s, zKn_0, zFind, zN10, zN01, not_true_eq_false, not_false_eq_true, false_implies, true_implies, implies_true, eq_self, nI_1, nI_40, nI_7, vz0, vz1, zb1_e0, zb1_n0]
  refine ⟨fun h => ?_, fun h => ?_⟩
  · rw [if_pos h] at hQ; exact hQ
  · rw [if_neg h] at hQ; exact hQ
set_option maxRecDepth 20000 in
theorem sp_abs {x : Int32} (hQ : Q (some (.int (if x < 0 then -x else x))) μ) : zXM w mJ9_abs_0f7a4 rJ9_abs_0f7a4 [.int x] μ Q := by
  unfold zXM
  refine zBlkR (M := mJ9_abs_0f7a4) (nL := 1) (rt := (Option.some .int)) (blk := bJ9_abs_0f7a4_0) (T := [(9, bJ9_abs_0f7a4_9), (10, bJ9_abs_0f7a4_10)]) 1 hJ9_abs_0f7a4_0 (zChks_cons hJ9_abs_0f7a4_9 (zChks_cons hJ9_abs_0f7a4_10 zChks_nil)) rfl rfl rfl (Nat.le_of_ble_eq_true rfl) (Nat.le_of_ble_eq_true rfl) ?_
  simp only [bJ9_abs_0f7a4_0, bJ9_abs_0f7a4_9, bJ9_abs_0f7a4_10, zRun_cons, zRun_nil, zLk, zSto, zIns, zFil, zf0, zf1, zf2, zf3, List.filter_cons, List.filter_nil, Nat.reduceAdd, Nat.reduceEqDiff, Nat.reduceLT, Nat.reduceLeDiff, Nat.reduceBEq, Nat.reduceBNe, reduceIte, if_true, if_false, Bool.false_and, Bool.true_and, Bool.and_true, Bool.and_false, Bool.not_false, Bool.not_true, Bool.false_eq_true, beq_self_eq_true, BEq.rfl, zCat1, zCat2, zCat3, zKdI, zKdL, zKdR, true_and, and_true, zSI, zSL, zSR, zu_at, and_self, and_false, false_and, lv_args, zKdZ, zKdO, zB01, zB11, Option.toList_none, Option.toList_some, List.nil_append, List.cons_append, true_or, or_true, zRow_rd, zu_rd, zo_iload_n, zo_if_ge, zo_ineg, zo_goto, zo_ireturn, zRt, zKn_s, zKn_0, zFind, zN10, zN01, not_true_eq_false, not_false_eq_true, false_implies, true_implies, implies_true, eq_self, nI_1, nI_40, nI_7, vz0, vz1, zb1_e0, zb1_n0]
  refine ⟨fun h => ?_, fun h => ?_⟩
  · rw [if_neg (Int32.not_lt.mpr h)] at hQ; exact hQ
  · rw [if_pos (Int32.not_le.mp h)] at hQ; exact hQ
set_option maxRecDepth 20000 in
theorem sp_floorMod {m n : Nat} (hm : m < 2 ^ 31) (h0 : 0 < n) (hn : n < 2 ^ 31) (hQ : Q (some (.int (nI (m % n)))) μ) : zXM w mJ9_floorMod_7cf53 rJ9_floorMod_7cf53 [.int (nI m), .int (nI n)] μ Q := by
  unfold zXM
  have e1 : ¬ nI n = 0 := nI_ne0 h0 hn
  have e2 : nI m - nI m / nI n * nI n = nI (m % n) := pk_rem hm h0 hn
  have e3 : 0 ≤ nI m ^^^ nI n := by
    rw [Int32.le_iff_toInt_le]
    have h1 : (nI m).toBitVec.msb = false := by rw [BitVec.msb_eq_false_iff_two_mul_lt, pk_tn (by omega)]; omega
    have h2 : (nI n).toBitVec.msb = false := by rw [BitVec.msb_eq_false_iff_two_mul_lt, pk_tn (by omega)]; omega
    have h3 : (nI m ^^^ nI n).toBitVec.msb = false := by rw [Int32.toBitVec_xor, BitVec.msb_xor, h1, h2]; rfl
    show (0 : Int) ≤ (nI m ^^^ nI n).toBitVec.toInt
    have := BitVec.toInt_nonneg_of_msb_false h3
    exact this
  refine zBlkR (M := mJ9_floorMod_7cf53) (nL := 3) (rt := (Option.some .int)) (blk := bJ9_floorMod_7cf53_0) (T := [(18, bJ9_floorMod_7cf53_18)]) 1 hJ9_floorMod_7cf53_0 (zChks_cons hJ9_floorMod_7cf53_18 zChks_nil) rfl rfl rfl (Nat.le_of_ble_eq_true rfl) (Nat.le_of_ble_eq_true rfl) ?_
  simp only [bJ9_floorMod_7cf53_0, bJ9_floorMod_7cf53_18, zRun_cons, zRun_nil, zLk, zSto, zIns, zFil, zf0, zf1, zf2, zf3, List.filter_cons, List.filter_nil, Nat.reduceAdd, Nat.reduceEqDiff, Nat.reduceLT, Nat.reduceLeDiff, Nat.reduceBEq, Nat.reduceBNe, reduceIte, if_true, if_false, Bool.false_and, Bool.true_and, Bool.and_true, Bool.and_false, Bool.not_false, Bool.not_true, Bool.false_eq_true, beq_self_eq_true, BEq.rfl, zCat1, zCat2, zCat3, zKdI, zKdL, zKdR, true_and, and_true, zSI, zSL, zSR, zu_at, and_self, and_false, false_and, lv_args, zKdZ, zKdO, zB01, zB11, Option.toList_none, Option.toList_some, List.nil_append, List.cons_append, true_or, or_true, zRow_rd, zu_rd, zo_iload_n, zo_irem, zo_istore_n, zo_ixor, zo_if_ge, zo_if_eq, zo_iadd, zo_ireturn, zRt, zKn_s, zKn_0, zFind, e1, e2, e3, zN10, zN01, not_true_eq_false, not_false_eq_true, false_implies, true_implies, implies_true, eq_self, nI_1, nI_40, nI_7, vz0, vz1, zb1_e0, zb1_n0]
  exact hQ
def jMin : Int64 := -9223372036854775808
/-- within the bound -/
def jB (x : Int64) : Prop := -1000000000000 ≤ x.toInt ∧ x.toInt ≤ 1000000000000
theorem jB_min (h : jB x) : ¬ x = jMin := by
  intro e
  subst e
  have : jMin.toInt = -9223372036854775808 := by decide
  unfold jB at h
  omega
theorem jB_01 (c : Prop) [Decidable c] : jB (if c then 1 else 0) := by
  split
  · exact ⟨by decide, by decide⟩
  · exact ⟨by decide, by decide⟩
theorem jBd_iff {n : Int64} : (1000000000000 < n ∨ n < -1000000000000) ↔ ¬ jB n := by
  unfold jB
  rw [Int64.lt_iff_toInt_lt, Int64.lt_iff_toInt_lt, show (1000000000000 : Int64).toInt = 1000000000000 by decide, show (-1000000000000 : Int64).toInt = -1000000000000 by decide]
  omega
theorem jBd_b {n v : Int64} (h : jBd n = some v) : jB v := by
  unfold jBd at h
  split at h
  · cases h
  · rename_i g
    cases h
    rw [jBd_iff] at g
    exact Classical.not_not.mp g
theorem jAb_toInt (h : jB x) : (jAb x).toInt = (x.toInt.natAbs : Int) := by
  unfold jB at h
  unfold jAb
  have hlt : (x < 0) = (x.toInt < 0) := by rw [Int64.lt_iff_toInt_lt]; rfl
  split
  · rename_i g
    rw [hlt] at g
    rw [Int64.toInt_neg, Int.bmod_eq_of_le (by omega) (by omega)]
    omega
  · rename_i g
    rw [hlt] at g
    omega
theorem jAb_lN (h : jB x) : jAb x = lN x.toInt.natAbs := by
  apply Int64.toInt_inj.mp
  unfold jB at h
  rw [jAb_toInt h, pk_lT (by omega)]
theorem jMu_key (ha : jB a) (hb : jB b) (h0 : ¬ a = 0) : (1000000000000 / jAb a < jAb b) ↔ 1000000000000 < a.toInt.natAbs * b.toInt.natAbs := by
  have ha' := ha
  have hb' := hb
  unfold jB at ha' hb'
  have hp : 0 < a.toInt.natAbs := by
    rcases Nat.eq_zero_or_pos a.toInt.natAbs with h | h
    · exact absurd (Int64.toInt_inj.mp (by rw [Int.natAbs_eq_zero.mp h]; rfl)) h0
    · exact h
  rw [jAb_lN ha, jAb_lN hb, show (1000000000000 : Int64) = lN 1000000000000 from rfl, pk_lDiv (by decide) hp (by omega), pk_lLT (Nat.lt_of_le_of_lt (Nat.div_le_self _ _) (by decide)) (by omega), Nat.div_lt_iff_lt_mul hp, Nat.mul_comm]
theorem jMu_b {v : Int64} (ha : jB a) (hb : jB b) (h : jMu a b = some v) : jB v := by
  have ha' := ha
  have hb' := hb
  unfold jB at ha' hb'
  have key : a.toInt.natAbs * b.toInt.natAbs ≤ 1000000000000 := by
    unfold jMu at h
    split at h
    · cases h
    · rename_i g
      by_cases h0 : a = 0
      · subst h0; simp
      by_cases h1 : b = 0
      · subst h1; simp
      · rw [jMu_key ha hb h0] at g
        have : ¬ 1000000000000 < a.toInt.natAbs * b.toInt.natAbs := fun q => g ⟨h0, h1, q⟩
        omega
  rw [← jMu_some h]
  have e : (a.toInt * b.toInt).natAbs = a.toInt.natAbs * b.toInt.natAbs := Int.natAbs_mul _ _
  unfold jB
  rw [Int64.toInt_mul, Int.bmod_eq_of_le (by omega) (by omega)]
  omega
theorem jDiv_b (ha : jB a) : jB (a / b) := by
  unfold jB at ha ⊢
  have e : (a.toInt.tdiv b.toInt).natAbs ≤ a.toInt.natAbs := by rw [Int.natAbs_tdiv]; exact Nat.div_le_self _ _
  rw [Int64.toInt_div, Int.bmod_eq_of_le (by omega) (by omega)]
  omega
theorem jBin_b {k : Int32} {v : Int64} (ha : jB a) (hb : jB b) (h : jBin k a b = some v) : jB v := by
  unfold jBin at h
  split at h
  · cases h; exact jB_01 _
  · split at h
    · cases h; exact jB_01 _
    · split at h
      · exact jBd_b h
      · split at h
        · exact jBd_b h
        · split at h
          · exact jMu_b ha hb h
          · split at h
            · split at h
              · cases h
              · cases h; exact jDiv_b ha
            · cases h; exact jB_01 _
theorem jAb_gt (h : -4000000000000 ≤ x.toInt ∧ x.toInt ≤ 4000000000000) : (jAb x ≤ 1000000000000) ↔ ¬ (1000000000000 < x ∨ x < -1000000000000) := by
  rw [jBd_iff, Classical.not_not, Int64.le_iff_toInt_le, show (1000000000000 : Int64).toInt = 1000000000000 by decide]
  have hlt : (x < 0) = (x.toInt < 0) := by rw [Int64.lt_iff_toInt_lt]; rfl
  unfold jB jAb
  split
  · rename_i g
    rw [hlt] at g
    rw [Int64.toInt_neg, Int.bmod_eq_of_le (by omega) (by omega)]
    omega
  · rename_i g
    rw [hlt] at g
    omega
set_option maxRecDepth 20000 in
theorem cl_join44 (hQ : Q (some (.long (if a ≠ 0 ∨ b ≠ 0 then 1 else 0))) μ) : zXM w mX8_join rX8_join [.int 44, .long a, .long b] μ Q := by
  unfold zXM
  refine zBlkR (M := mX8_join) (nL := 6) (rt := (Option.some .long)) (blk := bX8_join_0) (T := []) 0 hX8_join_0 zChks_nil rfl rfl rfl (Nat.le_of_ble_eq_true rfl) (Nat.le_of_ble_eq_true rfl) ?_
  simp only [bX8_join_0, zRun_cons, zRun_nil, zLk, zSto, zIns, zFil, zf0, zf1, zf2, zf3, List.filter_cons, List.filter_nil, Nat.reduceAdd, Nat.reduceEqDiff, Nat.reduceLT, Nat.reduceLeDiff, Nat.reduceBEq, Nat.reduceBNe, reduceIte, if_true, if_false, Bool.false_and, Bool.true_and, Bool.and_true, Bool.and_false, Bool.not_false, Bool.not_true, Bool.false_eq_true, beq_self_eq_true, BEq.rfl, zCat1, zCat2, zCat3, zKdI, zKdL, zKdR, true_and, and_true, zSI, zSL, zSR, zu_at, and_self, and_false, false_and, lv_args, zKdZ, zKdO, zB01, zB11, Option.toList_none, Option.toList_some, List.nil_append, List.cons_append, true_or, or_true, zRow_rd, zu_rd, zo_iload_n, zKn_0, zCat2, zN10, zN01, not_true_eq_false, not_false_eq_true, false_implies, true_implies, implies_true, eq_self, nI_1, nI_40, nI_7, vz0, vz1, zb1_e0, zb1_n0]
  refine z_tsw (dt := 370) [(7, 208), (8, 220), (9, 232), (10, 244), (11, 256), (12, 268), (13, 280), (14, 303), (15, 326), (16, 370), (17, 370), (18, 370), (19, 370), (20, 370), (21, 370), (22, 370), (23, 370), (24, 370), (25, 370), (26, 370), (27, 370), (28, 370), (29, 370), (30, 370), (31, 370), (32, 370), (33, 370), (34, 370), (35, 370), (36, 370), (37, 370), (38, 370), (39, 370), (40, 370), (41, 370), (42, 370), (43, 370), (44, 172), (45, 190)] (by decide +kernel : decode cX8_join 1 = .ok (.tableswitch 369 7 45 #[207, 219, 231, 243, 255, 267, 279, 302, 325, 369, 369, 369, 369, 369, 369, 369, 369, 369, 369, 369, 369, 369, 369, 369, 369, 369, 369, 369, 369, 369, 369, 369, 369, 369, 369, 369, 369, 171, 189], 171)) (by decide) (by decide) (by decide) (zSw_of (t := 172) (by decide) ?_)
  refine zBlkR (M := mX8_join) (nL := 6) (rt := (Option.some .long)) (blk := bX8_join_172) (T := [(184, bX8_join_184), (188, bX8_join_188), (189, bX8_join_189)]) 2 hX8_join_172 (zChks_cons hX8_join_184 (zChks_cons hX8_join_188 (zChks_cons hX8_join_189 zChks_nil))) rfl rfl rfl (Nat.le_of_ble_eq_true rfl) (Nat.le_of_ble_eq_true rfl) ?_
  simp only [bX8_join_172, bX8_join_184, bX8_join_188, bX8_join_189, zRun_cons, zRun_nil, zLk, zSto, zIns, zFil, zf0, zf1, zf2, zf3, List.filter_cons, List.filter_nil, Nat.reduceAdd, Nat.reduceEqDiff, Nat.reduceLT, Nat.reduceLeDiff, Nat.reduceBEq, Nat.reduceBNe, reduceIte, if_true, if_false, Bool.false_and, Bool.true_and, Bool.and_true, Bool.and_false, Bool.not_false, Bool.not_true, Bool.false_eq_true, beq_self_eq_true, BEq.rfl, zCat1, zCat2, zCat3, zKdI, zKdL, zKdR, true_and, and_true, zSI, zSL, zSR, zu_at, and_self, and_false, false_and, lv_args, zKdZ, zKdO, zB01, zB11, Option.toList_none, Option.toList_some, List.nil_append, List.cons_append, true_or, or_true, zRow_rd, zu_rd, zo_lload_n, zo_lconst, zo_lcmp, zo_if_ne, zo_if_eq, zo_goto, zo_lreturn, zl_0, zl_1, zKn_s, zKn_0, zFind, zCat2, lc_eq, zN10, zN01, not_true_eq_false, not_false_eq_true, false_implies, true_implies, implies_true, eq_self, nI_1, nI_40, nI_7, vz0, vz1, zb1_e0, zb1_n0]
  by_cases h1 : a = 0 <;> by_cases h2 : b = 0 <;> simp [h1, h2] at hQ ⊢ <;> exact hQ
set_option maxRecDepth 20000 in
theorem cl_join45 (hQ : Q (some (.long (if a ≠ 0 ∧ b ≠ 0 then 1 else 0))) μ) : zXM w mX8_join rX8_join [.int 45, .long a, .long b] μ Q := by
  unfold zXM
  refine zBlkR (M := mX8_join) (nL := 6) (rt := (Option.some .long)) (blk := bX8_join_0) (T := []) 0 hX8_join_0 zChks_nil rfl rfl rfl (Nat.le_of_ble_eq_true rfl) (Nat.le_of_ble_eq_true rfl) ?_
  simp only [bX8_join_0, zRun_cons, zRun_nil, zLk, zSto, zIns, zFil, zf0, zf1, zf2, zf3, List.filter_cons, List.filter_nil, Nat.reduceAdd, Nat.reduceEqDiff, Nat.reduceLT, Nat.reduceLeDiff, Nat.reduceBEq, Nat.reduceBNe, reduceIte, if_true, if_false, Bool.false_and, Bool.true_and, Bool.and_true, Bool.and_false, Bool.not_false, Bool.not_true, Bool.false_eq_true, beq_self_eq_true, BEq.rfl, zCat1, zCat2, zCat3, zKdI, zKdL, zKdR, true_and, and_true, zSI, zSL, zSR, zu_at, and_self, and_false, false_and, lv_args, zKdZ, zKdO, zB01, zB11, Option.toList_none, Option.toList_some, List.nil_append, List.cons_append, true_or, or_true, zRow_rd, zu_rd, zo_iload_n, zKn_0, zCat2, zN10, zN01, not_true_eq_false, not_false_eq_true, false_implies, true_implies, implies_true, eq_self, nI_1, nI_40, nI_7, vz0, vz1, zb1_e0, zb1_n0]
  refine z_tsw (dt := 370) [(7, 208), (8, 220), (9, 232), (10, 244), (11, 256), (12, 268), (13, 280), (14, 303), (15, 326), (16, 370), (17, 370), (18, 370), (19, 370), (20, 370), (21, 370), (22, 370), (23, 370), (24, 370), (25, 370), (26, 370), (27, 370), (28, 370), (29, 370), (30, 370), (31, 370), (32, 370), (33, 370), (34, 370), (35, 370), (36, 370), (37, 370), (38, 370), (39, 370), (40, 370), (41, 370), (42, 370), (43, 370), (44, 172), (45, 190)] (by decide +kernel : decode cX8_join 1 = .ok (.tableswitch 369 7 45 #[207, 219, 231, 243, 255, 267, 279, 302, 325, 369, 369, 369, 369, 369, 369, 369, 369, 369, 369, 369, 369, 369, 369, 369, 369, 369, 369, 369, 369, 369, 369, 369, 369, 369, 369, 369, 369, 171, 189], 171)) (by decide) (by decide) (by decide) (zSw_of (t := 190) (by decide) ?_)
  refine zBlkR (M := mX8_join) (nL := 6) (rt := (Option.some .long)) (blk := bX8_join_190) (T := [(206, bX8_join_206), (207, bX8_join_207)]) 1 hX8_join_190 (zChks_cons hX8_join_206 (zChks_cons hX8_join_207 zChks_nil)) rfl rfl rfl (Nat.le_of_ble_eq_true rfl) (Nat.le_of_ble_eq_true rfl) ?_
  simp only [bX8_join_190, bX8_join_206, bX8_join_207, zRun_cons, zRun_nil, zLk, zSto, zIns, zFil, zf0, zf1, zf2, zf3, List.filter_cons, List.filter_nil, Nat.reduceAdd, Nat.reduceEqDiff, Nat.reduceLT, Nat.reduceLeDiff, Nat.reduceBEq, Nat.reduceBNe, reduceIte, if_true, if_false, Bool.false_and, Bool.true_and, Bool.and_true, Bool.and_false, Bool.not_false, Bool.not_true, Bool.false_eq_true, beq_self_eq_true, BEq.rfl, zCat1, zCat2, zCat3, zKdI, zKdL, zKdR, true_and, and_true, zSI, zSL, zSR, zu_at, and_self, and_false, false_and, lv_args, zKdZ, zKdO, zB01, zB11, Option.toList_none, Option.toList_some, List.nil_append, List.cons_append, true_or, or_true, zRow_rd, zu_rd, zo_lload_n, zo_lconst, zo_lcmp, zo_if_eq, zo_goto, zo_lreturn, zl_0, zl_1, zKn_s, zKn_0, zFind, zCat2, lc_eq, zN10, zN01, not_true_eq_false, not_false_eq_true, false_implies, true_implies, implies_true, eq_self, nI_1, nI_40, nI_7, vz0, vz1, zb1_e0, zb1_n0]
  by_cases h1 : a = 0 <;> by_cases h2 : b = 0 <;> simp [h1, h2] at hQ ⊢ <;> exact hQ
set_option maxRecDepth 20000 in
theorem cl_join7 (hQ : Q (some (.long (if a < b then 1 else 0))) μ) : zXM w mX8_join rX8_join [.int 7, .long a, .long b] μ Q := by
  unfold zXM
  refine zBlkR (M := mX8_join) (nL := 6) (rt := (Option.some .long)) (blk := bX8_join_0) (T := []) 0 hX8_join_0 zChks_nil rfl rfl rfl (Nat.le_of_ble_eq_true rfl) (Nat.le_of_ble_eq_true rfl) ?_
  simp only [bX8_join_0, zRun_cons, zRun_nil, zLk, zSto, zIns, zFil, zf0, zf1, zf2, zf3, List.filter_cons, List.filter_nil, Nat.reduceAdd, Nat.reduceEqDiff, Nat.reduceLT, Nat.reduceLeDiff, Nat.reduceBEq, Nat.reduceBNe, reduceIte, if_true, if_false, Bool.false_and, Bool.true_and, Bool.and_true, Bool.and_false, Bool.not_false, Bool.not_true, Bool.false_eq_true, beq_self_eq_true, BEq.rfl, zCat1, zCat2, zCat3, zKdI, zKdL, zKdR, true_and, and_true, zSI, zSL, zSR, zu_at, and_self, and_false, false_and, lv_args, zKdZ, zKdO, zB01, zB11, Option.toList_none, Option.toList_some, List.nil_append, List.cons_append, true_or, or_true, zRow_rd, zu_rd, zo_iload_n, zKn_0, zCat2, zN10, zN01, not_true_eq_false, not_false_eq_true, false_implies, true_implies, implies_true, eq_self, nI_1, nI_40, nI_7, vz0, vz1, zb1_e0, zb1_n0]
  refine z_tsw (dt := 370) [(7, 208), (8, 220), (9, 232), (10, 244), (11, 256), (12, 268), (13, 280), (14, 303), (15, 326), (16, 370), (17, 370), (18, 370), (19, 370), (20, 370), (21, 370), (22, 370), (23, 370), (24, 370), (25, 370), (26, 370), (27, 370), (28, 370), (29, 370), (30, 370), (31, 370), (32, 370), (33, 370), (34, 370), (35, 370), (36, 370), (37, 370), (38, 370), (39, 370), (40, 370), (41, 370), (42, 370), (43, 370), (44, 172), (45, 190)] (by decide +kernel : decode cX8_join 1 = .ok (.tableswitch 369 7 45 #[207, 219, 231, 243, 255, 267, 279, 302, 325, 369, 369, 369, 369, 369, 369, 369, 369, 369, 369, 369, 369, 369, 369, 369, 369, 369, 369, 369, 369, 369, 369, 369, 369, 369, 369, 369, 369, 171, 189], 171)) (by decide) (by decide) (by decide) (zSw_of (t := 208) (by decide) ?_)
  refine zBlkR (M := mX8_join) (nL := 6) (rt := (Option.some .long)) (blk := bX8_join_208) (T := [(218, bX8_join_218), (219, bX8_join_219)]) 1 hX8_join_208 (zChks_cons hX8_join_218 (zChks_cons hX8_join_219 zChks_nil)) rfl rfl rfl (Nat.le_of_ble_eq_true rfl) (Nat.le_of_ble_eq_true rfl) ?_
  simp only [bX8_join_208, bX8_join_218, bX8_join_219, zRun_cons, zRun_nil, zLk, zSto, zIns, zFil, zf0, zf1, zf2, zf3, List.filter_cons, List.filter_nil, Nat.reduceAdd, Nat.reduceEqDiff, Nat.reduceLT, Nat.reduceLeDiff, Nat.reduceBEq, Nat.reduceBNe, reduceIte, if_true, if_false, Bool.false_and, Bool.true_and, Bool.and_true, Bool.and_false, Bool.not_false, Bool.not_true, Bool.false_eq_true, beq_self_eq_true, BEq.rfl, zCat1, zCat2, zCat3, zKdI, zKdL, zKdR, true_and, and_true, zSI, zSL, zSR, zu_at, and_self, and_false, false_and, lv_args, zKdZ, zKdO, zB01, zB11, Option.toList_none, Option.toList_some, List.nil_append, List.cons_append, true_or, or_true, zRow_rd, zu_rd, zo_lload_n, zo_lcmp, zo_if_ge, zo_lconst, zo_goto, zo_lreturn, zl_1, zl_0, zKn_s, zKn_0, zFind, zCat2, lc_ge, zN10, zN01, not_true_eq_false, not_false_eq_true, false_implies, true_implies, implies_true, eq_self, nI_1, nI_40, nI_7, vz0, vz1, zb1_e0, zb1_n0]
  refine ⟨fun h => ?_, fun h => ?_⟩
  · rw [if_neg (Int64.not_lt.mpr h)] at hQ; exact hQ
  · rw [if_pos (Int64.not_le.mp h)] at hQ; exact hQ
set_option maxRecDepth 20000 in
theorem cl_join8 (hQ : Q (some (.long (if a ≤ b then 1 else 0))) μ) : zXM w mX8_join rX8_join [.int 8, .long a, .long b] μ Q := by
  unfold zXM
  refine zBlkR (M := mX8_join) (nL := 6) (rt := (Option.some .long)) (blk := bX8_join_0) (T := []) 0 hX8_join_0 zChks_nil rfl rfl rfl (Nat.le_of_ble_eq_true rfl) (Nat.le_of_ble_eq_true rfl) ?_
  simp only [bX8_join_0, zRun_cons, zRun_nil, zLk, zSto, zIns, zFil, zf0, zf1, zf2, zf3, List.filter_cons, List.filter_nil, Nat.reduceAdd, Nat.reduceEqDiff, Nat.reduceLT, Nat.reduceLeDiff, Nat.reduceBEq, Nat.reduceBNe, reduceIte, if_true, if_false, Bool.false_and, Bool.true_and, Bool.and_true, Bool.and_false, Bool.not_false, Bool.not_true, Bool.false_eq_true, beq_self_eq_true, BEq.rfl, zCat1, zCat2, zCat3, zKdI, zKdL, zKdR, true_and, and_true, zSI, zSL, zSR, zu_at, and_self, and_false, false_and, lv_args, zKdZ, zKdO, zB01, zB11, Option.toList_none, Option.toList_some, List.nil_append, List.cons_append, true_or, or_true, zRow_rd, zu_rd, zo_iload_n, zKn_0, zCat2, zN10, zN01, not_true_eq_false, not_false_eq_true, false_implies, true_implies, implies_true, eq_self, nI_1, nI_40, nI_7, vz0, vz1, zb1_e0, zb1_n0]
  refine z_tsw (dt := 370) [(7, 208), (8, 220), (9, 232), (10, 244), (11, 256), (12, 268), (13, 280), (14, 303), (15, 326), (16, 370), (17, 370), (18, 370), (19, 370), (20, 370), (21, 370), (22, 370), (23, 370), (24, 370), (25, 370), (26, 370), (27, 370), (28, 370), (29, 370), (30, 370), (31, 370), (32, 370), (33, 370), (34, 370), (35, 370), (36, 370), (37, 370), (38, 370), (39, 370), (40, 370), (41, 370), (42, 370), (43, 370), (44, 172), (45, 190)] (by decide +kernel : decode cX8_join 1 = .ok (.tableswitch 369 7 45 #[207, 219, 231, 243, 255, 267, 279, 302, 325, 369, 369, 369, 369, 369, 369, 369, 369, 369, 369, 369, 369, 369, 369, 369, 369, 369, 369, 369, 369, 369, 369, 369, 369, 369, 369, 369, 369, 171, 189], 171)) (by decide) (by decide) (by decide) (zSw_of (t := 220) (by decide) ?_)
  refine zBlkR (M := mX8_join) (nL := 6) (rt := (Option.some .long)) (blk := bX8_join_220) (T := [(230, bX8_join_230), (231, bX8_join_231)]) 1 hX8_join_220 (zChks_cons hX8_join_230 (zChks_cons hX8_join_231 zChks_nil)) rfl rfl rfl (Nat.le_of_ble_eq_true rfl) (Nat.le_of_ble_eq_true rfl) ?_
  simp only [bX8_join_220, bX8_join_230, bX8_join_231, zRun_cons, zRun_nil, zLk, zSto, zIns, zFil, zf0, zf1, zf2, zf3, List.filter_cons, List.filter_nil, Nat.reduceAdd, Nat.reduceEqDiff, Nat.reduceLT, Nat.reduceLeDiff, Nat.reduceBEq, Nat.reduceBNe, reduceIte, if_true, if_false, Bool.false_and, Bool.true_and, Bool.and_true, Bool.and_false, Bool.not_false, Bool.not_true, Bool.false_eq_true, beq_self_eq_true, BEq.rfl, zCat1, zCat2, zCat3, zKdI, zKdL, zKdR, true_and, and_true, zSI, zSL, zSR, zu_at, and_self, and_false, false_and, lv_args, zKdZ, zKdO, zB01, zB11, Option.toList_none, Option.toList_some, List.nil_append, List.cons_append, true_or, or_true, zRow_rd, zu_rd, zo_lload_n, zo_lcmp, zo_if_gt, zo_lconst, zo_goto, zo_lreturn, zl_1, zl_0, zKn_s, zKn_0, zFind, zCat2, lc_gt, zN10, zN01, not_true_eq_false, not_false_eq_true, false_implies, true_implies, implies_true, eq_self, nI_1, nI_40, nI_7, vz0, vz1, zb1_e0, zb1_n0]
  refine ⟨fun h => ?_, fun h => ?_⟩
  · rw [if_neg (Int64.not_le.mpr h)] at hQ; exact hQ
  · rw [if_pos (Int64.not_lt.mp h)] at hQ; exact hQ
set_option maxRecDepth 20000 in
theorem cl_join9 (hQ : Q (some (.long (if a = b then 1 else 0))) μ) : zXM w mX8_join rX8_join [.int 9, .long a, .long b] μ Q := by
  unfold zXM
  refine zBlkR (M := mX8_join) (nL := 6) (rt := (Option.some .long)) (blk := bX8_join_0) (T := []) 0 hX8_join_0 zChks_nil rfl rfl rfl (Nat.le_of_ble_eq_true rfl) (Nat.le_of_ble_eq_true rfl) ?_
  simp only [bX8_join_0, zRun_cons, zRun_nil, zLk, zSto, zIns, zFil, zf0, zf1, zf2, zf3, List.filter_cons, List.filter_nil, Nat.reduceAdd, Nat.reduceEqDiff, Nat.reduceLT, Nat.reduceLeDiff, Nat.reduceBEq, Nat.reduceBNe, reduceIte, if_true, if_false, Bool.false_and, Bool.true_and, Bool.and_true, Bool.and_false, Bool.not_false, Bool.not_true, Bool.false_eq_true, beq_self_eq_true, BEq.rfl, zCat1, zCat2, zCat3, zKdI, zKdL, zKdR, true_and, and_true, zSI, zSL, zSR, zu_at, and_self, and_false, false_and, lv_args, zKdZ, zKdO, zB01, zB11, Option.toList_none, Option.toList_some, List.nil_append, List.cons_append, true_or, or_true, zRow_rd, zu_rd, zo_iload_n, zKn_0, zCat2, zN10, zN01, not_true_eq_false, not_false_eq_true, false_implies, true_implies, implies_true, eq_self, nI_1, nI_40, nI_7, vz0, vz1, zb1_e0, zb1_n0]
  refine z_tsw (dt := 370) [(7, 208), (8, 220), (9, 232), (10, 244), (11, 256), (12, 268), (13, 280), (14, 303), (15, 326), (16, 370), (17, 370), (18, 370), (19, 370), (20, 370), (21, 370), (22, 370), (23, 370), (24, 370), (25, 370), (26, 370), (27, 370), (28, 370), (29, 370), (30, 370), (31, 370), (32, 370), (33, 370), (34, 370), (35, 370), (36, 370), (37, 370), (38, 370), (39, 370), (40, 370), (41, 370), (42, 370), (43, 370), (44, 172), (45, 190)] (by decide +kernel : decode cX8_join 1 = .ok (.tableswitch 369 7 45 #[207, 219, 231, 243, 255, 267, 279, 302, 325, 369, 369, 369, 369, 369, 369, 369, 369, 369, 369, 369, 369, 369, 369, 369, 369, 369, 369, 369, 369, 369, 369, 369, 369, 369, 369, 369, 369, 171, 189], 171)) (by decide) (by decide) (by decide) (zSw_of (t := 232) (by decide) ?_)
  refine zBlkR (M := mX8_join) (nL := 6) (rt := (Option.some .long)) (blk := bX8_join_232) (T := [(242, bX8_join_242), (243, bX8_join_243)]) 1 hX8_join_232 (zChks_cons hX8_join_242 (zChks_cons hX8_join_243 zChks_nil)) rfl rfl rfl (Nat.le_of_ble_eq_true rfl) (Nat.le_of_ble_eq_true rfl) ?_
  simp only [bX8_join_232, bX8_join_242, bX8_join_243, zRun_cons, zRun_nil, zLk, zSto, zIns, zFil, zf0, zf1, zf2, zf3, List.filter_cons, List.filter_nil, Nat.reduceAdd, Nat.reduceEqDiff, Nat.reduceLT, Nat.reduceLeDiff, Nat.reduceBEq, Nat.reduceBNe, reduceIte, if_true, if_false, Bool.false_and, Bool.true_and, Bool.and_true, Bool.and_false, Bool.not_false, Bool.not_true, Bool.false_eq_true, beq_self_eq_true, BEq.rfl, zCat1, zCat2, zCat3, zKdI, zKdL, zKdR, true_and, and_true, zSI, zSL, zSR, zu_at, and_self, and_false, false_and, lv_args, zKdZ, zKdO, zB01, zB11, Option.toList_none, Option.toList_some, List.nil_append, List.cons_append, true_or, or_true, zRow_rd, zu_rd, zo_lload_n, zo_lcmp, zo_if_ne, zo_lconst, zo_goto, zo_lreturn, zl_1, zl_0, zKn_s, zKn_0, zFind, zCat2, lc_eq, zN10, zN01, not_true_eq_false, not_false_eq_true, false_implies, true_implies, implies_true, eq_self, nI_1, nI_40, nI_7, vz0, vz1, zb1_e0, zb1_n0]
  refine ⟨fun h => ?_, fun h => ?_⟩
  · rw [if_neg h] at hQ; exact hQ
  · rw [if_pos h] at hQ; exact hQ
set_option maxRecDepth 20000 in
theorem cl_join10 (hQ : Q (some (.long (if ¬ a = b then 1 else 0))) μ) : zXM w mX8_join rX8_join [.int 10, .long a, .long b] μ Q := by
  unfold zXM
  refine zBlkR (M := mX8_join) (nL := 6) (rt := (Option.some .long)) (blk := bX8_join_0) (T := []) 0 hX8_join_0 zChks_nil rfl rfl rfl (Nat.le_of_ble_eq_true rfl) (Nat.le_of_ble_eq_true rfl) ?_
  simp only [bX8_join_0, zRun_cons, zRun_nil, zLk, zSto, zIns, zFil, zf0, zf1, zf2, zf3, List.filter_cons, List.filter_nil, Nat.reduceAdd, Nat.reduceEqDiff, Nat.reduceLT, Nat.reduceLeDiff, Nat.reduceBEq, Nat.reduceBNe, reduceIte, if_true, if_false, Bool.false_and, Bool.true_and, Bool.and_true, Bool.and_false, Bool.not_false, Bool.not_true, Bool.false_eq_true, beq_self_eq_true, BEq.rfl, zCat1, zCat2, zCat3, zKdI, zKdL, zKdR, true_and, and_true, zSI, zSL, zSR, zu_at, and_self, and_false, false_and, lv_args, zKdZ, zKdO, zB01, zB11, Option.toList_none, Option.toList_some, List.nil_append, List.cons_append, true_or, or_true, zRow_rd, zu_rd, zo_iload_n, zKn_0, zCat2, zN10, zN01, not_true_eq_false, not_false_eq_true, false_implies, true_implies, implies_true, eq_self, nI_1, nI_40, nI_7, vz0, vz1, zb1_e0, zb1_n0]
  refine z_tsw (dt := 370) [(7, 208), (8, 220), (9, 232), (10, 244), (11, 256), (12, 268), (13, 280), (14, 303), (15, 326), (16, 370), (17, 370), (18, 370), (19, 370), (20, 370), (21, 370), (22, 370), (23, 370), (24, 370), (25, 370), (26, 370), (27, 370), (28, 370), (29, 370), (30, 370), (31, 370), (32, 370), (33, 370), (34, 370), (35, 370), (36, 370), (37, 370), (38, 370), (39, 370), (40, 370), (41, 370), (42, 370), (43, 370), (44, 172), (45, 190)] (by decide +kernel : decode cX8_join 1 = .ok (.tableswitch 369 7 45 #[207, 219, 231, 243, 255, 267, 279, 302, 325, 369, 369, 369, 369, 369, 369, 369, 369, 369, 369, 369, 369, 369, 369, 369, 369, 369, 369, 369, 369, 369, 369, 369, 369, 369, 369, 369, 369, 171, 189], 171)) (by decide) (by decide) (by decide) (zSw_of (t := 244) (by decide) ?_)
  refine zBlkR (M := mX8_join) (nL := 6) (rt := (Option.some .long)) (blk := bX8_join_244) (T := [(254, bX8_join_254), (255, bX8_join_255)]) 1 hX8_join_244 (zChks_cons hX8_join_254 (zChks_cons hX8_join_255 zChks_nil)) rfl rfl rfl (Nat.le_of_ble_eq_true rfl) (Nat.le_of_ble_eq_true rfl) ?_
  simp only [bX8_join_244, bX8_join_254, bX8_join_255, zRun_cons, zRun_nil, zLk, zSto, zIns, zFil, zf0, zf1, zf2, zf3, List.filter_cons, List.filter_nil, Nat.reduceAdd, Nat.reduceEqDiff, Nat.reduceLT, Nat.reduceLeDiff, Nat.reduceBEq, Nat.reduceBNe, reduceIte, if_true, if_false, Bool.false_and, Bool.true_and, Bool.and_true, Bool.and_false, Bool.not_false, Bool.not_true, Bool.false_eq_true, beq_self_eq_true, BEq.rfl, zCat1, zCat2, zCat3, zKdI, zKdL, zKdR, true_and, and_true, zSI, zSL, zSR, zu_at, and_self, and_false, false_and, lv_args, zKdZ, zKdO, zB01, zB11, Option.toList_none, Option.toList_some, List.nil_append, List.cons_append, true_or, or_true, zRow_rd, zu_rd, zo_lload_n, zo_lcmp, zo_if_eq, zo_lconst, zo_goto, zo_lreturn, zl_1, zl_0, zKn_s, zKn_0, zFind, zCat2, lc_eq, zN10, zN01, not_true_eq_false, not_false_eq_true, false_implies, true_implies, implies_true, eq_self, nI_1, nI_40, nI_7, vz0, vz1, zb1_e0, zb1_n0]
  refine ⟨fun h => ?_, fun h => ?_⟩
  · rw [if_neg (fun g => g h)] at hQ; exact hQ
  · rw [if_pos h] at hQ; exact hQ
set_option maxRecDepth 20000 in
theorem cl_join11 (hQ : Q (some (.long (if b ≤ a then 1 else 0))) μ) : zXM w mX8_join rX8_join [.int 11, .long a, .long b] μ Q := by
  unfold zXM
  refine zBlkR (M := mX8_join) (nL := 6) (rt := (Option.some .long)) (blk := bX8_join_0) (T := []) 0 hX8_join_0 zChks_nil rfl rfl rfl (Nat.le_of_ble_eq_true rfl) (Nat.le_of_ble_eq_true rfl) ?_
  simp only [bX8_join_0, zRun_cons, zRun_nil, zLk, zSto, zIns, zFil, zf0, zf1, zf2, zf3, List.filter_cons, List.filter_nil, Nat.reduceAdd, Nat.reduceEqDiff, Nat.reduceLT, Nat.reduceLeDiff, Nat.reduceBEq, Nat.reduceBNe, reduceIte, if_true, if_false, Bool.false_and, Bool.true_and, Bool.and_true, Bool.and_false, Bool.not_false, Bool.not_true, Bool.false_eq_true, beq_self_eq_true, BEq.rfl, zCat1, zCat2, zCat3, zKdI, zKdL, zKdR, true_and, and_true, zSI, zSL, zSR, zu_at, and_self, and_false, false_and, lv_args, zKdZ, zKdO, zB01, zB11, Option.toList_none, Option.toList_some, List.nil_append, List.cons_append, true_or, or_true, zRow_rd, zu_rd, zo_iload_n, zKn_0, zCat2, zN10, zN01, not_true_eq_false, not_false_eq_true, false_implies, true_implies, implies_true, eq_self, nI_1, nI_40, nI_7, vz0, vz1, zb1_e0, zb1_n0]
  refine z_tsw (dt := 370) [(7, 208), (8, 220), (9, 232), (10, 244), (11, 256), (12, 268), (13, 280), (14, 303), (15, 326), (16, 370), (17, 370), (18, 370), (19, 370), (20, 370), (21, 370), (22, 370), (23, 370), (24, 370), (25, 370), (26, 370), (27, 370), (28, 370), (29, 370), (30, 370), (31, 370), (32, 370), (33, 370), (34, 370), (35, 370), (36, 370), (37, 370), (38, 370), (39, 370), (40, 370), (41, 370), (42, 370), (43, 370), (44, 172), (45, 190)] (by decide +kernel : decode cX8_join 1 = .ok (.tableswitch 369 7 45 #[207, 219, 231, 243, 255, 267, 279, 302, 325, 369, 369, 369, 369, 369, 369, 369, 369, 369, 369, 369, 369, 369, 369, 369, 369, 369, 369, 369, 369, 369, 369, 369, 369, 369, 369, 369, 369, 171, 189], 171)) (by decide) (by decide) (by decide) (zSw_of (t := 256) (by decide) ?_)
  refine zBlkR (M := mX8_join) (nL := 6) (rt := (Option.some .long)) (blk := bX8_join_256) (T := [(266, bX8_join_266), (267, bX8_join_267)]) 1 hX8_join_256 (zChks_cons hX8_join_266 (zChks_cons hX8_join_267 zChks_nil)) rfl rfl rfl (Nat.le_of_ble_eq_true rfl) (Nat.le_of_ble_eq_true rfl) ?_
  simp only [bX8_join_256, bX8_join_266, bX8_join_267, zRun_cons, zRun_nil, zLk, zSto, zIns, zFil, zf0, zf1, zf2, zf3, List.filter_cons, List.filter_nil, Nat.reduceAdd, Nat.reduceEqDiff, Nat.reduceLT, Nat.reduceLeDiff, Nat.reduceBEq, Nat.reduceBNe, reduceIte, if_true, if_false, Bool.false_and, Bool.true_and, Bool.and_true, Bool.and_false, Bool.not_false, Bool.not_true, Bool.false_eq_true, beq_self_eq_true, BEq.rfl, zCat1, zCat2, zCat3, zKdI, zKdL, zKdR, true_and, and_true, zSI, zSL, zSR, zu_at, and_self, and_false, false_and, lv_args, zKdZ, zKdO, zB01, zB11, Option.toList_none, Option.toList_some, List.nil_append, List.cons_append, true_or, or_true, zRow_rd, zu_rd, zo_lload_n, zo_lcmp, zo_if_lt, zo_lconst, zo_goto, zo_lreturn, zl_1, zl_0, zKn_s, zKn_0, zFind, zCat2, lc_lt, zN10, zN01, not_true_eq_false, not_false_eq_true, false_implies, true_implies, implies_true, eq_self, nI_1, nI_40, nI_7, vz0, vz1, zb1_e0, zb1_n0]
  refine ⟨fun h => ?_, fun h => ?_⟩
  · rw [if_neg (Int64.not_le.mpr h)] at hQ; exact hQ
  · rw [if_pos (Int64.not_lt.mp h)] at hQ; exact hQ
set_option maxRecDepth 20000 in
theorem cl_join12 (hQ : Q (some (.long (if b < a then 1 else 0))) μ) : zXM w mX8_join rX8_join [.int 12, .long a, .long b] μ Q := by
  unfold zXM
  refine zBlkR (M := mX8_join) (nL := 6) (rt := (Option.some .long)) (blk := bX8_join_0) (T := []) 0 hX8_join_0 zChks_nil rfl rfl rfl (Nat.le_of_ble_eq_true rfl) (Nat.le_of_ble_eq_true rfl) ?_
  simp only [bX8_join_0, zRun_cons, zRun_nil, zLk, zSto, zIns, zFil, zf0, zf1, zf2, zf3, List.filter_cons, List.filter_nil, Nat.reduceAdd, Nat.reduceEqDiff, Nat.reduceLT, Nat.reduceLeDiff, Nat.reduceBEq, Nat.reduceBNe, reduceIte, if_true, if_false, Bool.false_and, Bool.true_and, Bool.and_true, Bool.and_false, Bool.not_false, Bool.not_true, Bool.false_eq_true, beq_self_eq_true, BEq.rfl, zCat1, zCat2, zCat3, zKdI, zKdL, zKdR, true_and, and_true, zSI, zSL, zSR, zu_at, and_self, and_false, false_and, lv_args, zKdZ, zKdO, zB01, zB11, Option.toList_none, Option.toList_some, List.nil_append, List.cons_append, true_or, or_true, zRow_rd, zu_rd, zo_iload_n, zKn_0, zCat2, zN10, zN01, not_true_eq_false, not_false_eq_true, false_implies, true_implies, implies_true, eq_self, nI_1, nI_40, nI_7, vz0, vz1, zb1_e0, zb1_n0]
  refine z_tsw (dt := 370) [(7, 208), (8, 220), (9, 232), (10, 244), (11, 256), (12, 268), (13, 280), (14, 303), (15, 326), (16, 370), (17, 370), (18, 370), (19, 370), (20, 370), (21, 370), (22, 370), (23, 370), (24, 370), (25, 370), (26, 370), (27, 370), (28, 370), (29, 370), (30, 370), (31, 370), (32, 370), (33, 370), (34, 370), (35, 370), (36, 370), (37, 370), (38, 370), (39, 370), (40, 370), (41, 370), (42, 370), (43, 370), (44, 172), (45, 190)] (by decide +kernel : decode cX8_join 1 = .ok (.tableswitch 369 7 45 #[207, 219, 231, 243, 255, 267, 279, 302, 325, 369, 369, 369, 369, 369, 369, 369, 369, 369, 369, 369, 369, 369, 369, 369, 369, 369, 369, 369, 369, 369, 369, 369, 369, 369, 369, 369, 369, 171, 189], 171)) (by decide) (by decide) (by decide) (zSw_of (t := 268) (by decide) ?_)
  refine zBlkR (M := mX8_join) (nL := 6) (rt := (Option.some .long)) (blk := bX8_join_268) (T := [(278, bX8_join_278), (279, bX8_join_279)]) 1 hX8_join_268 (zChks_cons hX8_join_278 (zChks_cons hX8_join_279 zChks_nil)) rfl rfl rfl (Nat.le_of_ble_eq_true rfl) (Nat.le_of_ble_eq_true rfl) ?_
  simp only [bX8_join_268, bX8_join_278, bX8_join_279, zRun_cons, zRun_nil, zLk, zSto, zIns, zFil, zf0, zf1, zf2, zf3, List.filter_cons, List.filter_nil, Nat.reduceAdd, Nat.reduceEqDiff, Nat.reduceLT, Nat.reduceLeDiff, Nat.reduceBEq, Nat.reduceBNe, reduceIte, if_true, if_false, Bool.false_and, Bool.true_and, Bool.and_true, Bool.and_false, Bool.not_false, Bool.not_true, Bool.false_eq_true, beq_self_eq_true, BEq.rfl, zCat1, zCat2, zCat3, zKdI, zKdL, zKdR, true_and, and_true, zSI, zSL, zSR, zu_at, and_self, and_false, false_and, lv_args, zKdZ, zKdO, zB01, zB11, Option.toList_none, Option.toList_some, List.nil_append, List.cons_append, true_or, or_true, zRow_rd, zu_rd, zo_lload_n, zo_lcmp, zo_if_le, zo_lconst, zo_goto, zo_lreturn, zl_1, zl_0, zKn_s, zKn_0, zFind, zCat2, lc_le, zN10, zN01, not_true_eq_false, not_false_eq_true, false_implies, true_implies, implies_true, eq_self, nI_1, nI_40, nI_7, vz0, vz1, zb1_e0, zb1_n0]
  refine ⟨fun h => ?_, fun h => ?_⟩
  · rw [if_neg (Int64.not_lt.mpr h)] at hQ; exact hQ
  · rw [if_pos (Int64.not_le.mp h)] at hQ; exact hQ
set_option maxRecDepth 20000 in
theorem cl_join13 (ha : jB a) (hb : jB b) (hQ : Q (some (.long ((jBd (a + b)).getD jMin))) μ) : zXM w mX8_join rX8_join [.int 13, .long a, .long b] μ Q := by
  unfold zXM
  refine zBlkR (M := mX8_join) (nL := 6) (rt := (Option.some .long)) (blk := bX8_join_0) (T := []) 0 hX8_join_0 zChks_nil rfl rfl rfl (Nat.le_of_ble_eq_true rfl) (Nat.le_of_ble_eq_true rfl) ?_
  simp only [bX8_join_0, zRun_cons, zRun_nil, zLk, zSto, zIns, zFil, zf0, zf1, zf2, zf3, List.filter_cons, List.filter_nil, Nat.reduceAdd, Nat.reduceEqDiff, Nat.reduceLT, Nat.reduceLeDiff, Nat.reduceBEq, Nat.reduceBNe, reduceIte, if_true, if_false, Bool.false_and, Bool.true_and, Bool.and_true, Bool.and_false, Bool.not_false, Bool.not_true, Bool.false_eq_true, beq_self_eq_true, BEq.rfl, zCat1, zCat2, zCat3, zKdI, zKdL, zKdR, true_and, and_true, zSI, zSL, zSR, zu_at, and_self, and_false, false_and, lv_args, zKdZ, zKdO, zB01, zB11, Option.toList_none, Option.toList_some, List.nil_append, List.cons_append, true_or, or_true, zRow_rd, zu_rd, zo_iload_n, zKn_0, zCat2, zN10, zN01, not_true_eq_false, not_false_eq_true, false_implies, true_implies, implies_true, eq_self, nI_1, nI_40, nI_7, vz0, vz1, zb1_e0, zb1_n0]
  refine z_tsw (dt := 370) [(7, 208), (8, 220), (9, 232), (10, 244), (11, 256), (12, 268), (13, 280), (14, 303), (15, 326), (16, 370), (17, 370), (18, 370), (19, 370), (20, 370), (21, 370), (22, 370), (23, 370), (24, 370), (25, 370), (26, 370), (27, 370), (28, 370), (29, 370), (30, 370), (31, 370), (32, 370), (33, 370), (34, 370), (35, 370), (36, 370), (37, 370), (38, 370), (39, 370), (40, 370), (41, 370), (42, 370), (43, 370), (44, 172), (45, 190)] (by decide +kernel : decode cX8_join 1 = .ok (.tableswitch 369 7 45 #[207, 219, 231, 243, 255, 267, 279, 302, 325, 369, 369, 369, 369, 369, 369, 369, 369, 369, 369, 369, 369, 369, 369, 369, 369, 369, 369, 369, 369, 369, 369, 369, 369, 369, 369, 369, 369, 171, 189], 171)) (by decide) (by decide) (by decide) (zSw_of (t := 280) (by decide) ?_)
  refine zBlkR (M := mX8_join) (nL := 6) (rt := (Option.some .long)) (blk := bX8_join_280) (T := []) 0 hX8_join_280 zChks_nil rfl rfl rfl (Nat.le_of_ble_eq_true rfl) (Nat.le_of_ble_eq_true rfl) ?_
  simp only [bX8_join_280, zRun_cons, zRun_nil, zLk, zSto, zIns, zFil, zf0, zf1, zf2, zf3, List.filter_cons, List.filter_nil, Nat.reduceAdd, Nat.reduceEqDiff, Nat.reduceLT, Nat.reduceLeDiff, Nat.reduceBEq, Nat.reduceBNe, reduceIte, if_true, if_false, Bool.false_and, Bool.true_and, Bool.and_true, Bool.and_false, Bool.not_false, Bool.not_true, Bool.false_eq_true, beq_self_eq_true, BEq.rfl, zCat1, zCat2, zCat3, zKdI, zKdL, zKdR, true_and, and_true, zSI, zSL, zSR, zu_at, and_self, and_false, false_and, lv_args, zKdZ, zKdO, zB01, zB11, Option.toList_none, Option.toList_some, List.nil_append, List.cons_append, true_or, or_true, zRow_rd, zu_rd, zo_lload_n, zo_ladd, zKn_0, zCat2, zN10, zN01, not_true_eq_false, not_false_eq_true, false_implies, true_implies, implies_true, eq_self, nI_1, nI_40, nI_7, vz0, vz1, zb1_e0, zb1_n0]
  refine z_cS0 (M' := mJ9_abs_067f4) (R' := rJ9_abs_067f4) [.long (a + b)] [] eJ9_abs_067f4 k8_245 (by decide +kernel : decode cX8_join 283 = .ok (.invokestatic 245, 3)) (Nat.le_of_ble_eq_true rfl) ⟨Nat.le_of_ble_eq_true rfl, Nat.le_of_ble_eq_true rfl, Nat.le_of_ble_eq_true rfl, Nat.le_of_ble_eq_true rfl, Nat.le_of_ble_eq_true rfl⟩ rfl rfl rfl ?_
  refine sp_absL ?_
  refine zBlkR (M := mX8_join) (nL := 6) (rt := (Option.some .long)) (blk := bX8_join_286) (T := [(299, bX8_join_299), (302, bX8_join_302)]) 1 hX8_join_286 (zChks_cons hX8_join_299 (zChks_cons hX8_join_302 zChks_nil)) rfl rfl rfl (Nat.le_of_ble_eq_true rfl) (Nat.le_of_ble_eq_true rfl) ?_
  simp only [bX8_join_286, bX8_join_299, bX8_join_302, zRun_cons, zRun_nil, zLk, zSto, zIns, zFil, zf0, zf1, zf2, zf3, List.filter_cons, List.filter_nil, Nat.reduceAdd, Nat.reduceEqDiff, Nat.reduceLT, Nat.reduceLeDiff, Nat.reduceBEq, Nat.reduceBNe, reduceIte, if_true, if_false, Bool.false_and, Bool.true_and, Bool.and_true, Bool.and_false, Bool.not_false, Bool.not_true, Bool.false_eq_true, beq_self_eq_true, BEq.rfl, zCat1, zCat2, zCat3, zKdI, zKdL, zKdR, true_and, and_true, zSI, zSL, zSR, zu_at, and_self, and_false, false_and, lv_args, zKdZ, zKdO, zB01, zB11, Option.toList_none, Option.toList_some, List.nil_append, List.cons_append, true_or, or_true, zRow_rd, zu_rd, zo_ldc2_w, zo_lcmp, zo_if_le, zo_goto, zo_lload_n, zo_ladd, zo_lreturn, zL_1000000000000, zL_m9223372036854775808, zKn_s, zKn_0, zFind, zCat2, lc_le, zN10, zN01, not_true_eq_false, not_false_eq_true, false_implies, true_implies, implies_true, eq_self, nI_1, nI_40, nI_7, vz0, vz1, zb1_e0, zb1_n0]
  have hx : -4000000000000 ≤ (a + b).toInt ∧ (a + b).toInt ≤ 4000000000000 := by
    unfold jB at ha hb
    rw [Int64.toInt_add, Int.bmod_eq_of_le (by omega) (by omega)]
    omega
  unfold jBd at hQ
  refine ⟨fun h => ?_, fun h => ?_⟩
  · rw [if_neg ((jAb_gt hx).mp h)] at hQ; exact hQ
  · rw [if_pos (Classical.not_not.mp (fun g => h ((jAb_gt hx).mpr g)))] at hQ; exact hQ
set_option maxRecDepth 20000 in
theorem cl_join14 (ha : jB a) (hb : jB b) (hQ : Q (some (.long ((jBd (a - b)).getD jMin))) μ) : zXM w mX8_join rX8_join [.int 14, .long a, .long b] μ Q := by
  unfold zXM
  refine zBlkR (M := mX8_join) (nL := 6) (rt := (Option.some .long)) (blk := bX8_join_0) (T := []) 0 hX8_join_0 zChks_nil rfl rfl rfl (Nat.le_of_ble_eq_true rfl) (Nat.le_of_ble_eq_true rfl) ?_
  simp only [bX8_join_0, zRun_cons, zRun_nil, zLk, zSto, zIns, zFil, zf0, zf1, zf2, zf3, List.filter_cons, List.filter_nil, Nat.reduceAdd, Nat.reduceEqDiff, Nat.reduceLT, Nat.reduceLeDiff, Nat.reduceBEq, Nat.reduceBNe, reduceIte, if_true, if_false, Bool.false_and, Bool.true_and, Bool.and_true, Bool.and_false, Bool.not_false, Bool.not_true, Bool.false_eq_true, beq_self_eq_true, BEq.rfl, zCat1, zCat2, zCat3, zKdI, zKdL, zKdR, true_and, and_true, zSI, zSL, zSR, zu_at, and_self, and_false, false_and, lv_args, zKdZ, zKdO, zB01, zB11, Option.toList_none, Option.toList_some, List.nil_append, List.cons_append, true_or, or_true, zRow_rd, zu_rd, zo_iload_n, zKn_0, zCat2, zN10, zN01, not_true_eq_false, not_false_eq_true, false_implies, true_implies, implies_true, eq_self, nI_1, nI_40, nI_7, vz0, vz1, zb1_e0, zb1_n0]
  refine z_tsw (dt := 370) [(7, 208), (8, 220), (9, 232), (10, 244), (11, 256), (12, 268), (13, 280), (14, 303), (15, 326), (16, 370), (17, 370), (18, 370), (19, 370), (20, 370), (21, 370), (22, 370), (23, 370), (24, 370), (25, 370), (26, 370), (27, 370), (28, 370), (29, 370), (30, 370), (31, 370), (32, 370), (33, 370), (34, 370), (35, 370), (36, 370), (37, 370), (38, 370), (39, 370), (40, 370), (41, 370), (42, 370), (43, 370), (44, 172), (45, 190)] (by decide +kernel : decode cX8_join 1 = .ok (.tableswitch 369 7 45 #[207, 219, 231, 243, 255, 267, 279, 302, 325, 369, 369, 369, 369, 369, 369, 369, 369, 369, 369, 369, 369, 369, 369, 369, 369, 369, 369, 369, 369, 369, 369, 369, 369, 369, 369, 369, 369, 171, 189], 171)) (by decide) (by decide) (by decide) (zSw_of (t := 303) (by decide) ?_)
  refine zBlkR (M := mX8_join) (nL := 6) (rt := (Option.some .long)) (blk := bX8_join_303) (T := []) 0 hX8_join_303 zChks_nil rfl rfl rfl (Nat.le_of_ble_eq_true rfl) (Nat.le_of_ble_eq_true rfl) ?_
  simp only [bX8_join_303, zRun_cons, zRun_nil, zLk, zSto, zIns, zFil, zf0, zf1, zf2, zf3, List.filter_cons, List.filter_nil, Nat.reduceAdd, Nat.reduceEqDiff, Nat.reduceLT, Nat.reduceLeDiff, Nat.reduceBEq, Nat.reduceBNe, reduceIte, if_true, if_false, Bool.false_and, Bool.true_and, Bool.and_true, Bool.and_false, Bool.not_false, Bool.not_true, Bool.false_eq_true, beq_self_eq_true, BEq.rfl, zCat1, zCat2, zCat3, zKdI, zKdL, zKdR, true_and, and_true, zSI, zSL, zSR, zu_at, and_self, and_false, false_and, lv_args, zKdZ, zKdO, zB01, zB11, Option.toList_none, Option.toList_some, List.nil_append, List.cons_append, true_or, or_true, zRow_rd, zu_rd, zo_lload_n, zo_lsub, zKn_0, zCat2, zN10, zN01, not_true_eq_false, not_false_eq_true, false_implies, true_implies, implies_true, eq_self, nI_1, nI_40, nI_7, vz0, vz1, zb1_e0, zb1_n0]
  refine z_cS0 (M' := mJ9_abs_067f4) (R' := rJ9_abs_067f4) [.long (a - b)] [] eJ9_abs_067f4 k8_245 (by decide +kernel : decode cX8_join 306 = .ok (.invokestatic 245, 3)) (Nat.le_of_ble_eq_true rfl) ⟨Nat.le_of_ble_eq_true rfl, Nat.le_of_ble_eq_true rfl, Nat.le_of_ble_eq_true rfl, Nat.le_of_ble_eq_true rfl, Nat.le_of_ble_eq_true rfl⟩ rfl rfl rfl ?_
  refine sp_absL ?_
  refine zBlkR (M := mX8_join) (nL := 6) (rt := (Option.some .long)) (blk := bX8_join_309) (T := [(322, bX8_join_322), (325, bX8_join_325)]) 1 hX8_join_309 (zChks_cons hX8_join_322 (zChks_cons hX8_join_325 zChks_nil)) rfl rfl rfl (Nat.le_of_ble_eq_true rfl) (Nat.le_of_ble_eq_true rfl) ?_
  simp only [bX8_join_309, bX8_join_322, bX8_join_325, zRun_cons, zRun_nil, zLk, zSto, zIns, zFil, zf0, zf1, zf2, zf3, List.filter_cons, List.filter_nil, Nat.reduceAdd, Nat.reduceEqDiff, Nat.reduceLT, Nat.reduceLeDiff, Nat.reduceBEq, Nat.reduceBNe, reduceIte, if_true, if_false, Bool.false_and, Bool.true_and, Bool.and_true, Bool.and_false, Bool.not_false, Bool.not_true, Bool.false_eq_true, beq_self_eq_true, BEq.rfl, zCat1, zCat2, zCat3, zKdI, zKdL, zKdR, true_and, and_true, zSI, zSL, zSR, zu_at, and_self, and_false, false_and, lv_args, zKdZ, zKdO, zB01, zB11, Option.toList_none, Option.toList_some, List.nil_append, List.cons_append, true_or, or_true, zRow_rd, zu_rd, zo_ldc2_w, zo_lcmp, zo_if_le, zo_goto, zo_lload_n, zo_lsub, zo_lreturn, zL_1000000000000, zL_m9223372036854775808, zKn_s, zKn_0, zFind, zCat2, lc_le, zN10, zN01, not_true_eq_false, not_false_eq_true, false_implies, true_implies, implies_true, eq_self, nI_1, nI_40, nI_7, vz0, vz1, zb1_e0, zb1_n0]
  have hx : -4000000000000 ≤ (a - b).toInt ∧ (a - b).toInt ≤ 4000000000000 := by
    unfold jB at ha hb
    rw [Int64.toInt_sub, Int.bmod_eq_of_le (by omega) (by omega)]
    omega
  unfold jBd at hQ
  refine ⟨fun h => ?_, fun h => ?_⟩
  · rw [if_neg ((jAb_gt hx).mp h)] at hQ; exact hQ
  · rw [if_pos (Classical.not_not.mp (fun g => h ((jAb_gt hx).mpr g)))] at hQ; exact hQ
set_option maxRecDepth 20000 in
theorem cl_join15 (ha : jB a) (hb : jB b) (hQ : Q (some (.long ((jMu a b).getD jMin))) μ) : zXM w mX8_join rX8_join [.int 15, .long a, .long b] μ Q := by
  unfold zXM
  refine zBlkR (M := mX8_join) (nL := 6) (rt := (Option.some .long)) (blk := bX8_join_0) (T := []) 0 hX8_join_0 zChks_nil rfl rfl rfl (Nat.le_of_ble_eq_true rfl) (Nat.le_of_ble_eq_true rfl) ?_
  simp only [bX8_join_0, zRun_cons, zRun_nil, zLk, zSto, zIns, zFil, zf0, zf1, zf2, zf3, List.filter_cons, List.filter_nil, Nat.reduceAdd, Nat.reduceEqDiff, Nat.reduceLT, Nat.reduceLeDiff, Nat.reduceBEq, Nat.reduceBNe, reduceIte, if_true, if_false, Bool.false_and, Bool.true_and, Bool.and_true, Bool.and_false, Bool.not_false, Bool.not_true, Bool.false_eq_true, beq_self_eq_true, BEq.rfl, zCat1, zCat2, zCat3, zKdI, zKdL, zKdR, true_and, and_true, zSI, zSL, zSR, zu_at, and_self, and_false, false_and, lv_args, zKdZ, zKdO, zB01, zB11, Option.toList_none, Option.toList_some, List.nil_append, List.cons_append, true_or, or_true, zRow_rd, zu_rd, zo_iload_n, zKn_0, zCat2, zN10, zN01, not_true_eq_false, not_false_eq_true, false_implies, true_implies, implies_true, eq_self, nI_1, nI_40, nI_7, vz0, vz1, zb1_e0, zb1_n0]
  refine z_tsw (dt := 370) [(7, 208), (8, 220), (9, 232), (10, 244), (11, 256), (12, 268), (13, 280), (14, 303), (15, 326), (16, 370), (17, 370), (18, 370), (19, 370), (20, 370), (21, 370), (22, 370), (23, 370), (24, 370), (25, 370), (26, 370), (27, 370), (28, 370), (29, 370), (30, 370), (31, 370), (32, 370), (33, 370), (34, 370), (35, 370), (36, 370), (37, 370), (38, 370), (39, 370), (40, 370), (41, 370), (42, 370), (43, 370), (44, 172), (45, 190)] (by decide +kernel : decode cX8_join 1 = .ok (.tableswitch 369 7 45 #[207, 219, 231, 243, 255, 267, 279, 302, 325, 369, 369, 369, 369, 369, 369, 369, 369, 369, 369, 369, 369, 369, 369, 369, 369, 369, 369, 369, 369, 369, 369, 369, 369, 369, 369, 369, 369, 171, 189], 171)) (by decide) (by decide) (by decide) (zSw_of (t := 326) (by decide) ?_)
  refine zBlkR (M := mX8_join) (nL := 6) (rt := (Option.some .long)) (blk := bX8_join_326) (T := [(352, bX8_join_352), (366, bX8_join_366), (369, bX8_join_369)]) 2 hX8_join_326 (zChks_cons hX8_join_352 (zChks_cons hX8_join_366 (zChks_cons hX8_join_369 zChks_nil))) rfl rfl rfl (Nat.le_of_ble_eq_true rfl) (Nat.le_of_ble_eq_true rfl) ?_
  simp only [bX8_join_326, bX8_join_352, bX8_join_366, bX8_join_369, zRun_cons, zRun_nil, zLk, zSto, zIns, zFil, zf0, zf1, zf2, zf3, List.filter_cons, List.filter_nil, Nat.reduceAdd, Nat.reduceEqDiff, Nat.reduceLT, Nat.reduceLeDiff, Nat.reduceBEq, Nat.reduceBNe, reduceIte, if_true, if_false, Bool.false_and, Bool.true_and, Bool.and_true, Bool.and_false, Bool.not_false, Bool.not_true, Bool.false_eq_true, beq_self_eq_true, BEq.rfl, zCat1, zCat2, zCat3, zKdI, zKdL, zKdR, true_and, and_true, zSI, zSL, zSR, zu_at, and_self, and_false, false_and, lv_args, zKdZ, zKdO, zB01, zB11, Option.toList_none, Option.toList_some, List.nil_append, List.cons_append, true_or, or_true, zRow_rd, zu_rd, zo_lload_n, zo_lconst, zo_lcmp, zo_if_eq, zo_iconst, zo_istore, zo_iload, zo_ldc2_w, zo_goto, zo_lmul, zo_lreturn, zl_0, zi_0, zL_m9223372036854775808, zcl_0, zKn_s, zKn_0, zFind, zCat2, lc_eq, zN10, zN01, not_true_eq_false, not_false_eq_true, false_implies, true_implies, implies_true, eq_self, nI_1, nI_40, nI_7, vz0, vz1, zb1_e0, zb1_n0]
  refine ⟨fun h => ?_, fun h => ?_⟩
  · rw [jMu, if_neg (fun g => g.1 h)] at hQ
    exact hQ
  · refine z_cS0 (M' := mJ9_abs_067f4) (R' := rJ9_abs_067f4) [.long b] [] eJ9_abs_067f4 k8_245 (by decide +kernel : decode cX8_join 333 = .ok (.invokestatic 245, 3)) (Nat.le_of_ble_eq_true rfl) ⟨Nat.le_of_ble_eq_true rfl, Nat.le_of_ble_eq_true rfl, Nat.le_of_ble_eq_true rfl, Nat.le_of_ble_eq_true rfl, Nat.le_of_ble_eq_true rfl⟩ rfl rfl rfl ?_
    refine sp_absL ?_
    refine zBlkR (M := mX8_join) (nL := 6) (rt := (Option.some .long)) (blk := bX8_join_336) (T := []) 0 hX8_join_336 zChks_nil rfl rfl rfl (Nat.le_of_ble_eq_true rfl) (Nat.le_of_ble_eq_true rfl) ?_
    simp only [bX8_join_336, zRun_cons, zRun_nil, zLk, zSto, zIns, zFil, zf0, zf1, zf2, zf3, List.filter_cons, List.filter_nil, Nat.reduceAdd, Nat.reduceEqDiff, Nat.reduceLT, Nat.reduceLeDiff, Nat.reduceBEq, Nat.reduceBNe, reduceIte, if_true, if_false, Bool.false_and, Bool.true_and, Bool.and_true, Bool.and_false, Bool.not_false, Bool.not_true, Bool.false_eq_true, beq_self_eq_true, BEq.rfl, zCat1, zCat2, zCat3, zKdI, zKdL, zKdR, true_and, and_true, zSI, zSL, zSR, zu_at, and_self, and_false, false_and, lv_args, zKdZ, zKdO, zB01, zB11, Option.toList_none, Option.toList_some, List.nil_append, List.cons_append, true_or, or_true, zRow_rd, zu_rd, zo_ldc2_w, zo_lload_n, zL_1000000000000, zKn_0, zCat2, zN10, zN01, not_true_eq_false, not_false_eq_true, false_implies, true_implies, implies_true, eq_self, nI_1, nI_40, nI_7, vz0, vz1, zb1_e0, zb1_n0]
    refine z_cS0 (M' := mJ9_abs_067f4) (R' := rJ9_abs_067f4) [.long a] [.long 1000000000000, .long (jAb b)] eJ9_abs_067f4 k8_245 (by decide +kernel : decode cX8_join 340 = .ok (.invokestatic 245, 3)) (Nat.le_of_ble_eq_true rfl) ⟨Nat.le_of_ble_eq_true rfl, Nat.le_of_ble_eq_true rfl, Nat.le_of_ble_eq_true rfl, Nat.le_of_ble_eq_true rfl, Nat.le_of_ble_eq_true rfl⟩ rfl rfl rfl ?_
    refine sp_absL ?_
    have hz : ¬ jAb a = 0 := by
      intro e
      have := jAb_toInt ha
      rw [e] at this
      have h2 : a.toInt = 0 := by simpa using this.symm
      exact h (Int64.toInt_inj.mp (by rw [h2]; rfl))
    refine zBlkR (M := mX8_join) (nL := 6) (rt := (Option.some .long)) (blk := bX8_join_343) (T := [(352, bX8_join_352), (353, bX8_join_353), (366, bX8_join_366), (369, bX8_join_369)]) 2 hX8_join_343 (zChks_cons hX8_join_352 (zChks_cons hX8_join_353 (zChks_cons hX8_join_366 (zChks_cons hX8_join_369 zChks_nil)))) rfl rfl rfl (Nat.le_of_ble_eq_true rfl) (Nat.le_of_ble_eq_true rfl) ?_
    simp only [bX8_join_343, bX8_join_352, bX8_join_353, bX8_join_366, bX8_join_369, zRun_cons, zRun_nil, zLk, zSto, zIns, zFil, zf0, zf1, zf2, zf3, List.filter_cons, List.filter_nil, Nat.reduceAdd, Nat.reduceEqDiff, Nat.reduceLT, Nat.reduceLeDiff, Nat.reduceBEq, Nat.reduceBNe, reduceIte, if_true, if_false, Bool.false_and, Bool.true_and, Bool.and_true, Bool.and_false, Bool.not_false, Bool.not_true, Bool.false_eq_true, beq_self_eq_true, BEq.rfl, zCat1, zCat2, zCat3, zKdI, zKdL, zKdR, true_and, and_true, zSI, zSL, zSR, zu_at, and_self, and_false, false_and, lv_args, zKdZ, zKdO, zB01, zB11, Option.toList_none, Option.toList_some, List.nil_append, List.cons_append, true_or, or_true, zRow_rd, zu_rd, zo_ldiv, zo_lcmp, zo_if_le, zo_iconst, zo_goto, zo_istore, zo_iload, zo_if_eq, zo_ldc2_w, zo_lload_n, zo_lmul, zo_lreturn, zi_1, zi_0, zL_m9223372036854775808, zcl_1, zcl_0, zKn_s, zKn_0, zFind, zCat2, lc_le, hz, zN10, zN01, not_true_eq_false, not_false_eq_true, false_implies, true_implies, implies_true, eq_self, nI_1, nI_40, nI_7, vz0, vz1, zb1_e0, zb1_n0]
    have hb0 : ∀ g : b = 0, ¬ (1000000000000 / jAb a < jAb b) := by
      intro g
      rw [jMu_key ha hb h, g]
      simp
    unfold jMu at hQ
    refine ⟨fun g => ?_, fun g => ?_⟩
    · rw [if_neg (fun q => absurd q.2.2 (Int64.not_lt.mpr g))] at hQ; exact hQ
    · rw [if_pos ⟨h, fun q => hb0 q (Int64.not_le.mp g), Int64.not_le.mp g⟩] at hQ; exact hQ
set_option maxRecDepth 20000 in
theorem cl_join16 (hQ : Q (some (.long ((if b = 0 then none else some (a / b) : Option Int64).getD jMin))) μ) : zXM w mX8_join rX8_join [.int 16, .long a, .long b] μ Q := by
  unfold zXM
  refine zBlkR (M := mX8_join) (nL := 6) (rt := (Option.some .long)) (blk := bX8_join_0) (T := []) 0 hX8_join_0 zChks_nil rfl rfl rfl (Nat.le_of_ble_eq_true rfl) (Nat.le_of_ble_eq_true rfl) ?_
  simp only [bX8_join_0, zRun_cons, zRun_nil, zLk, zSto, zIns, zFil, zf0, zf1, zf2, zf3, List.filter_cons, List.filter_nil, Nat.reduceAdd, Nat.reduceEqDiff, Nat.reduceLT, Nat.reduceLeDiff, Nat.reduceBEq, Nat.reduceBNe, reduceIte, if_true, if_false, Bool.false_and, Bool.true_and, Bool.and_true, Bool.and_false, Bool.not_false, Bool.not_true, Bool.false_eq_true, beq_self_eq_true, BEq.rfl, zCat1, zCat2, zCat3, zKdI, zKdL, zKdR, true_and, and_true, zSI, zSL, zSR, zu_at, and_self, and_false, false_and, lv_args, zKdZ, zKdO, zB01, zB11, Option.toList_none, Option.toList_some, List.nil_append, List.cons_append, true_or, or_true, zRow_rd, zu_rd, zo_iload_n, zKn_0, zCat2, zN10, zN01, not_true_eq_false, not_false_eq_true, false_implies, true_implies, implies_true, eq_self, nI_1, nI_40, nI_7, vz0, vz1, zb1_e0, zb1_n0]
  refine z_tsw (dt := 370) [(7, 208), (8, 220), (9, 232), (10, 244), (11, 256), (12, 268), (13, 280), (14, 303), (15, 326), (16, 370), (17, 370), (18, 370), (19, 370), (20, 370), (21, 370), (22, 370), (23, 370), (24, 370), (25, 370), (26, 370), (27, 370), (28, 370), (29, 370), (30, 370), (31, 370), (32, 370), (33, 370), (34, 370), (35, 370), (36, 370), (37, 370), (38, 370), (39, 370), (40, 370), (41, 370), (42, 370), (43, 370), (44, 172), (45, 190)] (by decide +kernel : decode cX8_join 1 = .ok (.tableswitch 369 7 45 #[207, 219, 231, 243, 255, 267, 279, 302, 325, 369, 369, 369, 369, 369, 369, 369, 369, 369, 369, 369, 369, 369, 369, 369, 369, 369, 369, 369, 369, 369, 369, 369, 369, 369, 369, 369, 369, 171, 189], 171)) (by decide) (by decide) (by decide) (zSw_of (t := 370) (by decide) ?_)
  refine zBlkR (M := mX8_join) (nL := 6) (rt := (Option.some .long)) (blk := bX8_join_370) (T := [(382, bX8_join_382), (385, bX8_join_385)]) 1 hX8_join_370 (zChks_cons hX8_join_382 (zChks_cons hX8_join_385 zChks_nil)) rfl rfl rfl (Nat.le_of_ble_eq_true rfl) (Nat.le_of_ble_eq_true rfl) ?_
  simp only [bX8_join_370, bX8_join_382, bX8_join_385, zRun_cons, zRun_nil, zLk, zSto, zIns, zFil, zf0, zf1, zf2, zf3, List.filter_cons, List.filter_nil, Nat.reduceAdd, Nat.reduceEqDiff, Nat.reduceLT, Nat.reduceLeDiff, Nat.reduceBEq, Nat.reduceBNe, reduceIte, if_true, if_false, Bool.false_and, Bool.true_and, Bool.and_true, Bool.and_false, Bool.not_false, Bool.not_true, Bool.false_eq_true, beq_self_eq_true, BEq.rfl, zCat1, zCat2, zCat3, zKdI, zKdL, zKdR, true_and, and_true, zSI, zSL, zSR, zu_at, and_self, and_false, false_and, lv_args, zKdZ, zKdO, zB01, zB11, Option.toList_none, Option.toList_some, List.nil_append, List.cons_append, true_or, or_true, zRow_rd, zu_rd, zo_lload_n, zo_lconst, zo_lcmp, zo_if_ne, zo_ldc2_w, zo_goto, zo_ldiv, zo_lreturn, zl_0, zL_m9223372036854775808, zKn_s, zKn_0, zFind, zCat2, lc_eq, zN10, zN01, not_true_eq_false, not_false_eq_true, false_implies, true_implies, implies_true, eq_self, nI_1, nI_40, nI_7, vz0, vz1, zb1_e0, zb1_n0]
  refine ⟨fun h => ?_, fun h => ?_⟩
  · rw [if_neg h] at hQ; exact ⟨h, hQ⟩
  · rw [if_pos h] at hQ; exact hQ
/-- the kind that the class has for what joins -/
def jKd (k : Nat) : Int32 := if k = 3 then 45 else if k = 4 then 44 else nI (k + 2)
theorem cl_join {k : Nat} (h3 : 3 ≤ k) (h14 : k ≤ 14) (ha : jB a) (hb : jB b) (hQ : Q (some (.long ((jBin (nI k) a b).getD jMin))) μ) : zXM w mX8_join rX8_join [.int (jKd k), .long a, .long b] μ Q := by
  match k, h3, h14 with
  | 3, _, _ => exact cl_join45 hQ
  | 4, _, _ => exact cl_join44 hQ
  | 5, _, _ => exact cl_join7 (by simpa [jBin, zCmp, show nI 5 = (5 : Int32) from rfl] using hQ)
  | 6, _, _ => exact cl_join8 (by simpa [jBin, zCmp, show nI 6 = (6 : Int32) from rfl] using hQ)
  | 7, _, _ => exact cl_join9 (by simpa [jBin, zCmp, show nI 7 = (7 : Int32) from rfl] using hQ)
  | 8, _, _ => exact cl_join10 (by simpa [jBin, zCmp, show nI 8 = (8 : Int32) from rfl] using hQ)
  | 9, _, _ => exact cl_join11 (by simpa [jBin, zCmp, show nI 9 = (9 : Int32) from rfl] using hQ)
  | 10, _, _ => exact cl_join12 (by simpa [jBin, zCmp, show nI 10 = (10 : Int32) from rfl] using hQ)
  | 11, _, _ => exact cl_join13 ha hb hQ
  | 12, _, _ => exact cl_join14 ha hb hQ
  | 13, _, _ => exact cl_join15 ha hb hQ
  | 14, _, _ => exact cl_join16 hQ
end ZJ65
end

section
/-! ===== THE CLASS: rain, tide, a law's value ===== -/
section ZV66
variable {w : zP} {Q : Option Value → zMem → Prop} {μ : zMem} {I J V V' : Nat → Nat → Int32} {L : Nat → Nat → Int64} {p s W B T t : Nat} {r : Option Nat} {P : oPn} {m : oTm} {c i k q wh : Nat}
set_option maxRecDepth 20000 in
theorem cl_letRainFall (hC : zCw I W B T p P m t V) (hQ : ∀ I', zKpt (zFB B) I I' → zCw I' W B T p P m t (zIter (oRain (mNw m) (pR P 102 8)) (pCh P) V) → Q none (SH, I', L, RF p s r)) : zXM w mX8_letRainFall rX8_letRainFall [.ref W] (SH, I, L, RF p s r) Q := by
  unfold zXM
  have hW := hC.hW
  have hB := wB hW
  have hch := hC.ch
  refine zBlkR (M := mX8_letRainFall) (nL := 2) (rt := (Option.none : Option Jvm.ClassFile.FieldType)) (blk := bX8_letRainFall_0) (T := []) 0 hX8_letRainFall_0 zChks_nil rfl rfl rfl (Nat.le_of_ble_eq_true rfl) (Nat.le_of_ble_eq_true rfl) ?_
  simp only [bX8_letRainFall_0, zRun_cons, zRun_nil, zLk, zSto, zIns, zFil, zf0, zf1, zf2, zf3, List.filter_cons, List.filter_nil, Nat.reduceAdd, Nat.reduceEqDiff, Nat.reduceLT, Nat.reduceLeDiff, Nat.reduceBEq, Nat.reduceBNe, reduceIte, if_true, if_false, Bool.false_and, Bool.true_and, Bool.and_true, Bool.and_false, Bool.not_false, Bool.not_true, Bool.false_eq_true, beq_self_eq_true, BEq.rfl, zCat1, zCat2, zCat3, zKdI, zKdL, zKdR, true_and, and_true, zSI, zSL, zSR, zu_at, and_self, and_false, false_and, lv_args, zKdZ, zKdO, zB01, zB11, Option.toList_none, Option.toList_some, List.nil_append, List.cons_append, true_or, or_true, zRow_rd, zu_rd, zo_iconst, zo_istore_n, zi_0, zcl_0, zKn_0, zN10, zN01, not_true_eq_false, not_false_eq_true, false_implies, true_implies, implies_true, eq_self, nI_1, nI_40, nI_7, vz0, vz1, zb1_e0, zb1_n0]
  refine zLoop (n := pCh P) (P := fun c => ∀ J, zKpt (zFB B) I J → zCw J W B T p P m t (zIter (oRain (mNw m) (pR P 102 8)) c V) → zX w mX8_letRainFall rX8_letRainFall Q 0 0 2 [(0, Value.ref W), (1, Value.int (nI c))] [] (SH, J, L, RF p s r)) (fun c hc ih => ?_) 0 (Nat.zero_le _) I zKpt_rfl hC
  intro J hJ hCJ
  generalize hW' : zIter (oRain (mNw m) (pR P 102 8)) c V = U at *
  have ihW : zIter (oRain (mNw m) (pR P 102 8)) (c + 1) V = oRain (mNw m) (pR P 102 8) c U := by rw [zIter, hW']
  rw [ihW] at ih
  have h8 := hCJ.hF.2.1
  by_cases hcc : c = pCh P
  · refine zBlkR (M := mX8_letRainFall) (nL := 2) (rt := (Option.none : Option Jvm.ClassFile.FieldType)) (blk := bX8_letRainFall_2) (T := [(39, bX8_letRainFall_39), (62, bX8_letRainFall_62), (68, bX8_letRainFall_68)]) 1 hX8_letRainFall_2 (zChks_cons hX8_letRainFall_39 (zChks_cons hX8_letRainFall_62 (zChks_cons hX8_letRainFall_68 zChks_nil))) rfl rfl rfl (Nat.le_of_ble_eq_true rfl) (Nat.le_of_ble_eq_true rfl) ?_
    simp only [bX8_letRainFall_2, bX8_letRainFall_39, bX8_letRainFall_62, bX8_letRainFall_68, zRun_cons, zRun_nil, zLk, zSto, zIns, zFil, zf0, zf1, zf2, zf3, List.filter_cons, List.filter_nil, Nat.reduceAdd, Nat.reduceEqDiff, Nat.reduceLT, Nat.reduceLeDiff, Nat.reduceBEq, Nat.reduceBNe, reduceIte, if_true, if_false, Bool.false_and, Bool.true_and, Bool.and_true, Bool.and_false, Bool.not_false, Bool.not_true, Bool.false_eq_true, beq_self_eq_true, BEq.rfl, zCat1, zCat2, zCat3, zKdI, zKdL, zKdR, true_and, and_true, zSI, zSL, zSR, zu_at, and_self, and_false, false_and, lv_args, zKdZ, zKdO, zB01, zB11, Option.toList_none, Option.toList_some, List.nil_append, List.cons_append, true_or, or_true, zRow_rd, zu_rd, zo_iload_n, zo_aload_n, zo_getfield, zo_icmp_ge, zo_iaload, zo_iconst, zo_icmp_eq, zo_icmp_ne, zo_iinc, zo_goto, zo_return_, zi_1, zi_2, zKd_8_0, zKd_2_8, zKd_2_0, sh_37, rf_37_0, sh_10, sh_40, rf_40_0, sh_19, sh_28, rf_10_0, sh_11, rf_19_0, sh_20, rf_28_0, sh_29, zcl_1, zcl_2, zvi_1_40, zvi_2_40, zKn_s, zKn_0, zFind, (wsh_0 hW), (wsh_1 hW), (wsh_2 hW), (wsh_3 hW), (wrf_0 hW), (wrf_1 hW), (wrf_2 hW), (wrf_3 hW), (wrf_4 hW), Nat.add_left_cancel_iff, Nat.left_eq_add, Nat.add_eq_left, (fsh_0 hB), (fsh_1 hB), (fsh_2 hB), (fsh_3 hB), (fsh_4 hB), (fsh_5 hB), (fsh_6 hB), (fsh_7 hB), (fsh_8 hB), (frf_0 hB), (frf_1 hB), (frf_2 hB), (frf_3 hB), (frf_4 hB), (frf_5 hB), (frf_6 hB), (frf_7 hB), Nat.add_left_cancel_iff, Nat.left_eq_add, Nat.add_eq_left, h8, zle_nat (a := pCh P) (b := c) (by omega) (by omega), zN10, zN01, not_true_eq_false, not_false_eq_true, false_implies, true_implies, implies_true, eq_self, nI_1, nI_40, nI_7, vz0, vz1, zb1_e0, zb1_n0]
    exact ⟨fun _ => hQ J hJ (by rw [← hcc, hW']; exact hCJ), fun h => absurd (by omega) h⟩
  have hc4 : c < 40 := by omega
  have hv : vp_in (nI c) 40 := zvn (by omega) (by omega)
  have key : (U 1 c = 1 ∨ U 1 c = 2) → zX w mX8_letRainFall rX8_letRainFall Q 0 0 44 [(0, Value.ref W), (1, Value.int (nI c))] [Value.int (nI c), Value.ref B] (SH, J, L, RF p s r) := by
    intro hf
    have hU1 : oUn c U 1 c = 1 := by
      unfold oUn
      split
      · simp [zu_at]
      · rename_i g; exact hf.resolve_right g
    refine z_cV0 (M' := mX2_unseat) (R' := rX2_unseat) (i := B) [.int (nI c)] [] eX2_unseat k8_99 (by decide +kernel : decode cX8_letRainFall 44 = .ok (.invokevirtual 99, 3)) (Nat.le_of_ble_eq_true rfl) ⟨Nat.le_of_ble_eq_true rfl, Nat.le_of_ble_eq_true rfl, Nat.le_of_ble_eq_true rfl, Nat.le_of_ble_eq_true rfl, Nat.le_of_ble_eq_true rfl⟩ rfl rfl rfl (fsh_0 hB) ?_
    refine cl_unseat hB (by omega) hch hCJ.np hCJ.hF hCJ.ok (fun I1 k1 f1 => ?_)
    have hC1 := zCw_u hCJ k1 f1 (oOk_un hCJ.ok)
    have hM6 := hC1.hM.2.2.2.2.2.1
    refine zBlkR (M := mX8_letRainFall) (nL := 2) (rt := (Option.none : Option Jvm.ClassFile.FieldType)) (blk := bX8_letRainFall_47) (T := [(62, bX8_letRainFall_62)]) 1 hX8_letRainFall_47 (zChks_cons hX8_letRainFall_62 zChks_nil) rfl rfl rfl (Nat.le_of_ble_eq_true rfl) (Nat.le_of_ble_eq_true rfl) ?_
    simp only [bX8_letRainFall_47, bX8_letRainFall_62, zRun_cons, zRun_nil, zLk, zSto, zIns, zFil, zf0, zf1, zf2, zf3, List.filter_cons, List.filter_nil, Nat.reduceAdd, Nat.reduceEqDiff, Nat.reduceLT, Nat.reduceLeDiff, Nat.reduceBEq, Nat.reduceBNe, reduceIte, if_true, if_false, Bool.false_and, Bool.true_and, Bool.and_true, Bool.and_false, Bool.not_false, Bool.not_true, Bool.false_eq_true, beq_self_eq_true, BEq.rfl, zCat1, zCat2, zCat3, zKdI, zKdL, zKdR, true_and, and_true, zSI, zSL, zSR, zu_at, and_self, and_false, false_and, lv_args, zKdZ, zKdO, zB01, zB11, Option.toList_none, Option.toList_some, List.nil_append, List.cons_append, true_or, or_true, zRow_rd, zu_rd, zo_aload_n, zo_getfield, zo_if_ne, zo_iload_n, zo_iinc, zo_goto, zi_1, zKd_8_1, zKd_6_6, sh_37, rf_37_1, sh_8, sh_40, rf_40_1, sh_9, zKn_s, zKn_0, zFind, (wsh_0 hW), (wsh_1 hW), (wsh_2 hW), (wsh_3 hW), (wrf_0 hW), (wrf_1 hW), (wrf_2 hW), (wrf_3 hW), (wrf_4 hW), Nat.add_left_cancel_iff, Nat.left_eq_add, Nat.add_eq_left, hM6, zN10, zN01, not_true_eq_false, not_false_eq_true, false_implies, true_implies, implies_true, eq_self, nI_1, nI_40, nI_7, vz0, vz1, zb1_e0, zb1_n0]
    refine ⟨fun h => ?_, fun h => ?_⟩
    · have hn : mNw m = true := by simpa using h
      have e : oRain (mNw m) (pR P 102 8) c U = oUn c U := by
        have hw := (oOk_front hCJ.ok hc4 hf).2.2
        rw [oRain, if_pos hf, hn, show zb1 (!true) = 0 from rfl, Int32.add_zero, if_pos hw, oUn]
        funext i d
        rcases hf with g | g
        · have ho := oOk_1 hCJ.ok hc4 g
          simp only [zu_at, oOff_at, oWet_at, g, show zb1 (!true) = 0 from rfl, Int32.add_zero]
          grind
        · simp only [zu_at, oOff_at, oWet_at, g, if_true, show zb1 (!true) = 0 from rfl, Int32.add_zero]
          grind
      rw [e] at ih
      exact ih (by omega) I1 (hJ.trans k1) hC1
    · refine z_cV0 (M' := mX8_wet) (R' := rX8_wet) (i := W) [.int (nI c)] [] eX8_wet k8_105 (by decide +kernel : decode cX8_letRainFall 59 = .ok (.invokevirtual 105, 3)) (Nat.le_of_ble_eq_true rfl) ⟨Nat.le_of_ble_eq_true rfl, Nat.le_of_ble_eq_true rfl, Nat.le_of_ble_eq_true rfl, Nat.le_of_ble_eq_true rfl, Nat.le_of_ble_eq_true rfl⟩ rfl rfl rfl (wsh_0 hW) ?_
      refine cl_wet hC1 (by omega) hU1 (fun I2 k2 c2 => ?_)
      refine zBlkR (M := mX8_letRainFall) (nL := 2) (rt := (Option.none : Option Jvm.ClassFile.FieldType)) (blk := bX8_letRainFall_62) (T := []) 0 hX8_letRainFall_62 zChks_nil rfl rfl rfl (Nat.le_of_ble_eq_true rfl) (Nat.le_of_ble_eq_true rfl) ?_
      simp only [bX8_letRainFall_62, zRun_cons, zRun_nil, zLk, zSto, zIns, zFil, zf0, zf1, zf2, zf3, List.filter_cons, List.filter_nil, Nat.reduceAdd, Nat.reduceEqDiff, Nat.reduceLT, Nat.reduceLeDiff, Nat.reduceBEq, Nat.reduceBNe, reduceIte, if_true, if_false, Bool.false_and, Bool.true_and, Bool.and_true, Bool.and_false, Bool.not_false, Bool.not_true, Bool.false_eq_true, beq_self_eq_true, BEq.rfl, zCat1, zCat2, zCat3, zKdI, zKdL, zKdR, true_and, and_true, zSI, zSL, zSR, zu_at, and_self, and_false, false_and, lv_args, zKdZ, zKdO, zB01, zB11, Option.toList_none, Option.toList_some, List.nil_append, List.cons_append, true_or, or_true, zRow_rd, zu_rd, zo_iinc, zo_goto, zi_1, zKn_0, zN10, zN01, not_true_eq_false, not_false_eq_true, false_implies, true_implies, implies_true, eq_self, nI_1, nI_40, nI_7, vz0, vz1, zb1_e0, zb1_n0]
      have e : oRain (mNw m) (pR P 102 8) c U = oRain false (pR P 102 8) c (oUn c U) := by
        have e3 : oUn c U 3 c = U 3 c := by unfold oUn; split <;> simp [zu_at, oOff_at]
        have e86 : oUn c U 8 6 = U 8 6 := by unfold oUn; split <;> simp [zu_at, oOff_at]
        rw [h, oRain, oRain, if_pos hf, if_pos (Or.inl hU1), e3, e86]
        rcases hf with g | g
        · rw [show oUn c U = U from by rw [oUn, if_neg (by rw [g]; decide)]]
        · rw [oUn, if_pos g]
          split
          · funext i d
            simp only [zu_at, oOff_at, oWet_at, g]
            grind
          · congr 1
            funext i d
            simp only [zu_at, oLose_at, oOff_at, oWet_at, g]
            grind
      rw [e] at ih
      exact ih (by omega) I2 ((hJ.trans k1).trans k2) c2
  refine zBlkR (M := mX8_letRainFall) (nL := 2) (rt := (Option.none : Option Jvm.ClassFile.FieldType)) (blk := bX8_letRainFall_2) (T := [(39, bX8_letRainFall_39), (62, bX8_letRainFall_62), (68, bX8_letRainFall_68)]) 1 hX8_letRainFall_2 (zChks_cons hX8_letRainFall_39 (zChks_cons hX8_letRainFall_62 (zChks_cons hX8_letRainFall_68 zChks_nil))) rfl rfl rfl (Nat.le_of_ble_eq_true rfl) (Nat.le_of_ble_eq_true rfl) ?_
  simp only [bX8_letRainFall_2, bX8_letRainFall_39, bX8_letRainFall_62, bX8_letRainFall_68, zRun_cons, zRun_nil, zLk, zSto, zIns, zFil, zf0, zf1, zf2, zf3, List.filter_cons, List.filter_nil, Nat.reduceAdd, Nat.reduceEqDiff, Nat.reduceLT, Nat.reduceLeDiff, Nat.reduceBEq, Nat.reduceBNe, reduceIte, if_true, if_false, Bool.false_and, Bool.true_and, Bool.and_true, Bool.and_false, Bool.not_false, Bool.not_true, Bool.false_eq_true, beq_self_eq_true, BEq.rfl, zCat1, zCat2, zCat3, zKdI, zKdL, zKdR, true_and, and_true, zSI, zSL, zSR, zu_at, and_self, and_false, false_and, lv_args, zKdZ, zKdO, zB01, zB11, Option.toList_none, Option.toList_some, List.nil_append, List.cons_append, true_or, or_true, zRow_rd, zu_rd, zo_iload_n, zo_aload_n, zo_getfield, zo_icmp_ge, zo_iaload, zo_iconst, zo_icmp_eq, zo_icmp_ne, zo_iinc, zo_goto, zo_return_, zi_1, zi_2, zKd_8_0, zKd_2_8, zKd_2_0, sh_37, rf_37_0, sh_10, sh_40, rf_40_0, sh_19, sh_28, rf_10_0, sh_11, rf_19_0, sh_20, rf_28_0, sh_29, zcl_1, zcl_2, zvi_1_40, zvi_2_40, zKn_s, zKn_0, zFind, (wsh_0 hW), (wsh_1 hW), (wsh_2 hW), (wsh_3 hW), (wrf_0 hW), (wrf_1 hW), (wrf_2 hW), (wrf_3 hW), (wrf_4 hW), Nat.add_left_cancel_iff, Nat.left_eq_add, Nat.add_eq_left, (fsh_0 hB), (fsh_1 hB), (fsh_2 hB), (fsh_3 hB), (fsh_4 hB), (fsh_5 hB), (fsh_6 hB), (fsh_7 hB), (fsh_8 hB), (frf_0 hB), (frf_1 hB), (frf_2 hB), (frf_3 hB), (frf_4 hB), (frf_5 hB), (frf_6 hB), (frf_7 hB), Nat.add_left_cancel_iff, Nat.left_eq_add, Nat.add_eq_left, h8, hv, zle_nat (a := pCh P) (b := c) (by omega) (by omega), nI_clamp (n := c) (by omega), hCJ.hF.v1 hc4, zN10, zN01, not_true_eq_false, not_false_eq_true, false_implies, true_implies, implies_true, eq_self, nI_1, nI_40, nI_7, vz0, vz1, zb1_e0, zb1_n0]
  refine ⟨fun h => absurd h (by omega), fun _ => ⟨fun h1 => key (Or.inl h1), fun h1 => ⟨fun h2 => ?_, fun h2 => key (Or.inr h2)⟩⟩⟩
  rw [oRain, if_neg (fun q => q.elim h1 h2)] at ih
  exact ih (by omega) J hJ hCJ
/-- places told of first that are flooded -/
def oHitK (P : oPn) (t n : Nat) (x : Int32) : Bool := zAny (fun q => pHit P t (nI q) && x == nI q) n
theorem oHitK_at {n : Nat} (hq : q < n) (hn : n ≤ 5) : oHitK P t n (nI q) = pHit P t (nI q) := by
  unfold oHitK
  cases h : pHit P t (nI q) with
  | true => exact zAny_t (c := q) (by simp [h]) n hq
  | false =>
    have key : ∀ j, j ≤ n → zAny (fun k => pHit P t (nI k) && nI q == nI k) j = false := by
      intro j
      induction j with
      | zero => intro _; rfl
      | succ j ih =>
        intro hj
        rw [zAny, ih (by omega), Bool.false_or]
        by_cases e : q = j
        · subst e; simp [h]
        · have : (nI q == nI j) = false := by rw [beq_eq_false_iff_ne]; intro g; exact e ((nI_eq (by omega) (by omega)).mp g)
          rw [this, Bool.and_false]
    exact key n (Nat.le_refl _)
theorem pHit_cls (h2 : POk2 P) (hq : q < pNp P) (hnp : pNp P ≤ 5) : pHit P t (nI q) = (!decide (pR P 93 q = -1) && !decide (nI t < pR P 93 q)) := by
  rw [pHit, nI_clamp (by omega)]
  rcases h2.2.1 q hq with h | ⟨n, hn, h⟩
  · rw [h]; rfl
  · have e1 : decide (pR P 93 q < 0) = false := by rw [h]; exact decide_eq_false (nI_nn (by omega))
    have e2 : decide (pR P 93 q = -1) = false := by
      rw [h]; refine decide_eq_false (fun g => ?_)
      have h0 : ¬ nI n < 0 := nI_nn (by omega)
      rw [g] at h0; exact h0 (by decide)
    rw [e1, e2]
set_option maxRecDepth 20000 in
theorem cl_letTideCome (hC : zCw I W B T p P m t V) (hQ : ∀ I', zKpt (zFB B) I I' → zCw I' W B T p P m t (oV1 P t V) → Q none (SH, I', L, RF p s r)) : zXM w mX8_letTideCome rX8_letTideCome [.ref W] (SH, I, L, RF p s r) Q := by
  unfold zXM
  have hW := hC.hW
  have hB := wB hW
  have hp := hC.hp
  have hch := hC.ch
  have hnp := hC.np
  have e0 : oGone (oHitK P t 0) (pCh P) V = V := by
    rw [← oGone_ok]
    have : ∀ n, zIter (oTide (oHitK P t 0)) n V = V := by
      intro n
      induction n with
      | zero => rfl
      | succ n ih => rw [zIter, ih, oTide, if_neg (by simp [oHitK, zAny])]
    exact this _
  have eN : oGone (oHitK P t (pNp P)) (pCh P) V = oV1 P t V := by
    rw [oV1, oGone_ok]
    refine oGone_congr (fun c hc hf => ?_)
    obtain ⟨-, ⟨q, hq, e2⟩, -⟩ := oOk_front hC.ok (by omega) hf
    rw [e2]
    exact oHitK_at hq hnp
  refine zBlkR (M := mX8_letTideCome) (nL := 2) (rt := (Option.none : Option Jvm.ClassFile.FieldType)) (blk := bX8_letTideCome_0) (T := []) 0 hX8_letTideCome_0 zChks_nil rfl rfl rfl (Nat.le_of_ble_eq_true rfl) (Nat.le_of_ble_eq_true rfl) ?_
  simp only [bX8_letTideCome_0, zRun_cons, zRun_nil, zLk, zSto, zIns, zFil, zf0, zf1, zf2, zf3, List.filter_cons, List.filter_nil, Nat.reduceAdd, Nat.reduceEqDiff, Nat.reduceLT, Nat.reduceLeDiff, Nat.reduceBEq, Nat.reduceBNe, reduceIte, if_true, if_false, Bool.false_and, Bool.true_and, Bool.and_true, Bool.and_false, Bool.not_false, Bool.not_true, Bool.false_eq_true, beq_self_eq_true, BEq.rfl, zCat1, zCat2, zCat3, zKdI, zKdL, zKdR, true_and, and_true, zSI, zSL, zSR, zu_at, and_self, and_false, false_and, lv_args, zKdZ, zKdO, zB01, zB11, Option.toList_none, Option.toList_some, List.nil_append, List.cons_append, true_or, or_true, zRow_rd, zu_rd, zo_iconst, zo_istore_n, zi_0, zcl_0, zKn_0, zN10, zN01, not_true_eq_false, not_false_eq_true, false_implies, true_implies, implies_true, eq_self, nI_1, nI_40, nI_7, vz0, vz1, zb1_e0, zb1_n0]
  refine zLoop (n := pNp P) (P := fun q => ∀ J, zKpt (zFB B) I J → zCw J W B T p P m t (oGone (oHitK P t q) (pCh P) V) → zX w mX8_letTideCome rX8_letTideCome Q 0 0 2 [(0, Value.ref W), (1, Value.int (nI q))] [] (SH, J, L, RF p s r)) (fun q hq ih => ?_) 0 (Nat.zero_le _) I zKpt_rfl (by rw [e0]; exact hC)
  intro J hJ hCJ
  have i0 := hCJ.i0
  by_cases hcc : q = pNp P
  · refine zBlkR (M := mX8_letTideCome) (nL := 2) (rt := (Option.none : Option Jvm.ClassFile.FieldType)) (blk := bX8_letTideCome_2) (T := [(61, bX8_letTideCome_61), (67, bX8_letTideCome_67)]) 1 hX8_letTideCome_2 (zChks_cons hX8_letTideCome_61 (zChks_cons hX8_letTideCome_67 zChks_nil)) rfl rfl rfl (Nat.le_of_ble_eq_true rfl) (Nat.le_of_ble_eq_true rfl) ?_
    simp only [bX8_letTideCome_2, bX8_letTideCome_61, bX8_letTideCome_67, zRun_cons, zRun_nil, zLk, zSto, zIns, zFil, zf0, zf1, zf2, zf3, List.filter_cons, List.filter_nil, Nat.reduceAdd, Nat.reduceEqDiff, Nat.reduceLT, Nat.reduceLeDiff, Nat.reduceBEq, Nat.reduceBNe, reduceIte, if_true, if_false, Bool.false_and, Bool.true_and, Bool.and_true, Bool.and_false, Bool.not_false, Bool.not_true, Bool.false_eq_true, beq_self_eq_true, BEq.rfl, zCat1, zCat2, zCat3, zKdI, zKdL, zKdR, true_and, and_true, zSI, zSL, zSR, zu_at, and_self, and_false, false_and, lv_args, zKdZ, zKdO, zB01, zB11, Option.toList_none, Option.toList_some, List.nil_append, List.cons_append, true_or, or_true, zRow_rd, zu_rd, zo_iload_n, zo_aload_n, zo_getfield, zo_icmp_ge, zo_iaload, zo_iadd, zo_if_le, zo_iinc, zo_goto, zo_return_, zi_1, zKd_8_4, zKd_4_0, zKd_8_0, zKd_2_5, zKd_2_6, zKd_2_10, sh_37, rf_37_4, sh_40, rf_40_4, sh_55, sh_71, rf_37_0, sh_10, rf_40_0, sh_19, rf_10_5, sh_16, rf_19_5, sh_25, sh_28, rf_28_5, sh_34, rf_10_6, sh_17, rf_19_6, sh_26, rf_28_6, sh_35, zKn_s, zKn_0, zFind, (wsh_0 hW), (wsh_1 hW), (wsh_2 hW), (wsh_3 hW), (wrf_0 hW), (wrf_1 hW), (wrf_2 hW), (wrf_3 hW), (wrf_4 hW), Nat.add_left_cancel_iff, Nat.left_eq_add, Nat.add_eq_left, (psh_0 hp), (psh_1 hp), (psh_2 hp), (psh_3 hp), (psh_4 hp), (psh_5 hp), (psh_6 hp), (psh_7 hp), (psh_8 hp), (psh_9 hp), (psh_10 hp), (psh_11 hp), (psh_12 hp), (psh_13 hp), (psh_14 hp), (psh_15 hp), (prf_1 hp), (prf_2 hp), (prf_3 hp), (prf_4 hp), (prf_6 hp), (prf_7 hp), (prf_8 hp), (prf_10 hp), (prf_11 hp), (prf_12 hp), (prf_13 hp), (prf_15 hp), (prf_17 hp), (prf_18 hp), (prf_19 hp), Nat.add_left_cancel_iff, Nat.left_eq_add, Nat.add_eq_left, i0, zle_nat (a := pNp P) (b := q) (by omega) (by omega), zN10, zN01, not_true_eq_false, not_false_eq_true, false_implies, true_implies, implies_true, eq_self, nI_1, nI_40, nI_7, vz0, vz1, zb1_e0, zb1_n0]
    exact ⟨fun _ => hQ J hJ (by rw [← eN, ← hcc]; exact hCJ), fun h => absurd (by omega) h⟩
  have hq5 : q < 5 := by omega
  have hv : vp_in (nI q) 5 := zvn (by omega) (by omega)
  have o6 := hCJ.hF.2.2.1 q hq5
  have o7 := hCJ.hF.2.2.2.1 q hq5
  have ht := hCJ.ht
  generalize hU : oGone (oHitK P t q) (pCh P) V = U at *
  have c1 : oCnt U (nI q) 1 (pCh P) ≤ pCh P := zCnt_le _ _
  have c2 : oCnt U (nI q) 2 (pCh P) ≤ pCh P := zCnt_le _ _
  have two : oGone (oHitK P t (q + 1)) (pCh P) V = oGone (fun y => pHit P t (nI q) && y == nI q) (pCh P) U := by
    rw [← hU, oGone_two]
    rfl
  have skip : (∀ c, c < pCh P → (U 1 c = 1 ∨ U 1 c = 2) → (pHit P t (nI q) && U 2 c == nI q) = false) → oGone (oHitK P t (q + 1)) (pCh P) V = U := by
    intro h
    rw [two, oGone_congr (h2 := fun _ => false) h, ← oGone_ok]
    have : ∀ n, zIter (oTide (fun _ => false)) n U = U := by
      intro n
      induction n with
      | zero => rfl
      | succ n ih => rw [zIter, ih, oTide, if_neg (by simp)]
    exact this _
  have ih := ih (by omega)
  refine zBlkR (M := mX8_letTideCome) (nL := 2) (rt := (Option.none : Option Jvm.ClassFile.FieldType)) (blk := bX8_letTideCome_2) (T := [(61, bX8_letTideCome_61), (67, bX8_letTideCome_67)]) 1 hX8_letTideCome_2 (zChks_cons hX8_letTideCome_61 (zChks_cons hX8_letTideCome_67 zChks_nil)) rfl rfl rfl (Nat.le_of_ble_eq_true rfl) (Nat.le_of_ble_eq_true rfl) ?_
  simp only [bX8_letTideCome_2, bX8_letTideCome_61, bX8_letTideCome_67, zRun_cons, zRun_nil, zLk, zSto, zIns, zFil, zf0, zf1, zf2, zf3, List.filter_cons, List.filter_nil, Nat.reduceAdd, Nat.reduceEqDiff, Nat.reduceLT, Nat.reduceLeDiff, Nat.reduceBEq, Nat.reduceBNe, reduceIte, if_true, if_false, Bool.false_and, Bool.true_and, Bool.and_true, Bool.and_false, Bool.not_false, Bool.not_true, Bool.false_eq_true, beq_self_eq_true, BEq.rfl, zCat1, zCat2, zCat3, zKdI, zKdL, zKdR, true_and, and_true, zSI, zSL, zSR, zu_at, and_self, and_false, false_and, lv_args, zKdZ, zKdO, zB01, zB11, Option.toList_none, Option.toList_some, List.nil_append, List.cons_append, true_or, or_true, zRow_rd, zu_rd, zo_iload_n, zo_aload_n, zo_getfield, zo_icmp_ge, zo_iaload, zo_iadd, zo_if_le, zo_iinc, zo_goto, zo_return_, zi_1, zKd_8_4, zKd_4_0, zKd_8_0, zKd_2_5, zKd_2_6, zKd_2_10, sh_37, rf_37_4, sh_40, rf_40_4, sh_55, sh_71, rf_37_0, sh_10, rf_40_0, sh_19, rf_10_5, sh_16, rf_19_5, sh_25, sh_28, rf_28_5, sh_34, rf_10_6, sh_17, rf_19_6, sh_26, rf_28_6, sh_35, zKn_s, zKn_0, zFind, (wsh_0 hW), (wsh_1 hW), (wsh_2 hW), (wsh_3 hW), (wrf_0 hW), (wrf_1 hW), (wrf_2 hW), (wrf_3 hW), (wrf_4 hW), Nat.add_left_cancel_iff, Nat.left_eq_add, Nat.add_eq_left, (fsh_0 hB), (fsh_1 hB), (fsh_2 hB), (fsh_3 hB), (fsh_4 hB), (fsh_5 hB), (fsh_6 hB), (fsh_7 hB), (fsh_8 hB), (frf_0 hB), (frf_1 hB), (frf_2 hB), (frf_3 hB), (frf_4 hB), (frf_5 hB), (frf_6 hB), (frf_7 hB), Nat.add_left_cancel_iff, Nat.left_eq_add, Nat.add_eq_left, (psh_0 hp), (psh_1 hp), (psh_2 hp), (psh_3 hp), (psh_4 hp), (psh_5 hp), (psh_6 hp), (psh_7 hp), (psh_8 hp), (psh_9 hp), (psh_10 hp), (psh_11 hp), (psh_12 hp), (psh_13 hp), (psh_14 hp), (psh_15 hp), (prf_1 hp), (prf_2 hp), (prf_3 hp), (prf_4 hp), (prf_6 hp), (prf_7 hp), (prf_8 hp), (prf_10 hp), (prf_11 hp), (prf_12 hp), (prf_13 hp), (prf_15 hp), (prf_17 hp), (prf_18 hp), (prf_19 hp), Nat.add_left_cancel_iff, Nat.left_eq_add, Nat.add_eq_left, hv, i0, o6, o7, ht, nI_add, zle_nat (a := pNp P) (b := q) (by omega) (by omega), nI_clamp (n := q) (by omega), zN10, zN01, not_true_eq_false, not_false_eq_true, false_implies, true_implies, implies_true, eq_self, nI_1, nI_40, nI_7, vz0, vz1, zb1_e0, zb1_n0]
  refine ⟨fun h => absurd h (by omega), fun _ => ⟨fun h => ?_, fun h => ?_⟩⟩
  · have hz : oCnt U (nI q) 1 (pCh P) + oCnt U (nI q) 2 (pCh P) = 0 := by
      rw [show (0 : Int32) = nI 0 from rfl, zle_nat (by omega) (by omega)] at h
      omega
    have z1 := zCnt_0n (n := pCh P) (show oCnt U (nI q) 1 (pCh P) = 0 by omega)
    have z2 := zCnt_0n (n := pCh P) (show oCnt U (nI q) 2 (pCh P) = 0 by omega)
    rw [skip (fun c hc hf => by
      have a1 := z1 c hc
      have a2 := z2 c hc
      rcases hf with g | g
      · rw [g] at a1; simp at a1; simp [a1]
      · rw [g] at a2; simp at a2; simp [a2])] at ih
    exact ih J hJ hCJ
  · refine z_cV0 (M' := mX4_isFlooded) (R' := rX4_isFlooded) (i := p) [.int (nI q), .int (nI t)] [] eX4_isFlooded k8_85 (by decide +kernel : decode cX8_letTideCome 47 = .ok (.invokevirtual 85, 3)) (Nat.le_of_ble_eq_true rfl) ⟨Nat.le_of_ble_eq_true rfl, Nat.le_of_ble_eq_true rfl, Nat.le_of_ble_eq_true rfl, Nat.le_of_ble_eq_true rfl, Nat.le_of_ble_eq_true rfl⟩ rfl rfl rfl (psh_0 hp) ?_
    refine cl_isFlooded hp i0 hnp (by omega) ?_
    rw [hCJ.td (k := q) (by omega), ← pHit_cls (t := t) hC.hO2 (by omega) hnp]
    refine zBlkR (M := mX8_letTideCome) (nL := 2) (rt := (Option.none : Option Jvm.ClassFile.FieldType)) (blk := bX8_letTideCome_50) (T := [(61, bX8_letTideCome_61)]) 1 hX8_letTideCome_50 (zChks_cons hX8_letTideCome_61 zChks_nil) rfl rfl rfl (Nat.le_of_ble_eq_true rfl) (Nat.le_of_ble_eq_true rfl) ?_
    simp only [bX8_letTideCome_50, bX8_letTideCome_61, zRun_cons, zRun_nil, zLk, zSto, zIns, zFil, zf0, zf1, zf2, zf3, List.filter_cons, List.filter_nil, Nat.reduceAdd, Nat.reduceEqDiff, Nat.reduceLT, Nat.reduceLeDiff, Nat.reduceBEq, Nat.reduceBNe, reduceIte, if_true, if_false, Bool.false_and, Bool.true_and, Bool.and_true, Bool.and_false, Bool.not_false, Bool.not_true, Bool.false_eq_true, beq_self_eq_true, BEq.rfl, zCat1, zCat2, zCat3, zKdI, zKdL, zKdR, true_and, and_true, zSI, zSL, zSR, zu_at, and_self, and_false, false_and, lv_args, zKdZ, zKdO, zB01, zB11, Option.toList_none, Option.toList_some, List.nil_append, List.cons_append, true_or, or_true, zRow_rd, zu_rd, zo_if_eq, zo_aload_n, zo_getfield, zo_iload_n, zo_iinc, zo_goto, zi_1, zKd_8_0, sh_37, rf_37_0, sh_10, sh_40, rf_40_0, sh_19, zKn_s, zKn_0, zFind, (wsh_0 hW), (wsh_1 hW), (wsh_2 hW), (wsh_3 hW), (wrf_0 hW), (wrf_1 hW), (wrf_2 hW), (wrf_3 hW), (wrf_4 hW), Nat.add_left_cancel_iff, Nat.left_eq_add, Nat.add_eq_left, zN10, zN01, not_true_eq_false, not_false_eq_true, false_implies, true_implies, implies_true, eq_self, nI_1, nI_40, nI_7, vz0, vz1, zb1_e0, zb1_n0]
    refine ⟨fun hf => ?_, fun hf => ?_⟩
    · rw [skip (fun c hc _ => by rw [hf, Bool.false_and])] at ih
      exact ih J hJ hCJ
    · have hf : pHit P t (nI q) = true := by simpa using hf
      refine z_cV0 (M' := mX2_loseAll) (R' := rX2_loseAll) (i := B) [.int (nI q)] [] eX2_loseAll k8_89 (by decide +kernel : decode cX8_letTideCome 58 = .ok (.invokevirtual 89, 3)) (Nat.le_of_ble_eq_true rfl) ⟨Nat.le_of_ble_eq_true rfl, Nat.le_of_ble_eq_true rfl, Nat.le_of_ble_eq_true rfl, Nat.le_of_ble_eq_true rfl, Nat.le_of_ble_eq_true rfl⟩ rfl rfl rfl (fsh_0 hB) ?_
      refine cl_loseAll hB hch hnp hCJ.hF hCJ.ok (fun I1 k1 f1 => ?_)
      refine zBlkR (M := mX8_letTideCome) (nL := 2) (rt := (Option.none : Option Jvm.ClassFile.FieldType)) (blk := bX8_letTideCome_61) (T := []) 0 hX8_letTideCome_61 zChks_nil rfl rfl rfl (Nat.le_of_ble_eq_true rfl) (Nat.le_of_ble_eq_true rfl) ?_
      simp only [bX8_letTideCome_61, zRun_cons, zRun_nil, zLk, zSto, zIns, zFil, zf0, zf1, zf2, zf3, List.filter_cons, List.filter_nil, Nat.reduceAdd, Nat.reduceEqDiff, Nat.reduceLT, Nat.reduceLeDiff, Nat.reduceBEq, Nat.reduceBNe, reduceIte, if_true, if_false, Bool.false_and, Bool.true_and, Bool.and_true, Bool.and_false, Bool.not_false, Bool.not_true, Bool.false_eq_true, beq_self_eq_true, BEq.rfl, zCat1, zCat2, zCat3, zKdI, zKdL, zKdR, true_and, and_true, zSI, zSL, zSR, zu_at, and_self, and_false, false_and, lv_args, zKdZ, zKdO, zB01, zB11, Option.toList_none, Option.toList_some, List.nil_append, List.cons_append, true_or, or_true, zRow_rd, zu_rd, zo_iinc, zo_goto, zi_1, zKn_0, zN10, zN01, not_true_eq_false, not_false_eq_true, false_implies, true_implies, implies_true, eq_self, nI_1, nI_40, nI_7, vz0, vz1, zb1_e0, zb1_n0]
      rw [two, show (fun y => pHit P t (nI q) && y == nI q) = (fun y => y == nI q) from by funext y; rw [hf, Bool.true_and], ← oGone_ok] at ih
      exact ih I1 (hJ.trans k1) (zCw_u hCJ k1 f1 (zIter_lt (N := pCh P) (fun c a h1 h => oOk_tide (by omega) h) (pCh P) U (Nat.le_refl _) hCJ.ok))
/-- the kind of a name -/
def jNk (j : Nat) : Int32 := if j = 6 then 27 else if j = 7 then 26 else nI (20 + j)
/-- what names stand for, at a place -/
def pNm (P : oPn) (m : oTm) (t : Nat) (V : Nat → Nat → Int32) (q : Nat) : Nat → Int64 := jNm (pR P 91 q) (pR P 92 q) (decide (oSky (pR P 96) (pR P 97) (nI t) (pNs P) (mNr m) = 0)) (!mNb m && zAny (oMusP (pR P 98) (pR P 99) (pR P 100) (nI q) (nI t)) (pNb P)) (oCnt V (nI q) 2 (pCh P)) (oCnt V (nI q) 1 (pCh P)) (mPr m) (nI t)
theorem zAny_congr {P1 P2 : Nat → Bool} : ∀ {n : Nat}, (∀ c, c < n → P1 c = P2 c) → zAny P1 n = zAny P2 n
  | 0, _ => rfl
  | n + 1, h => by rw [zAny, zAny, zAny_congr (fun c hc => h c (by omega)), h n (by omega)]
set_option maxRecDepth 20000 in
theorem cl_nameValue {j : Nat} (hC : zCw I W B T p P m t V) (hq : q < pNp P) (hj : j < 8) (hQ : Q (some (.long (pNm P m t V q j))) (SH, I, L, RF p s r)) : zXM w mX8_nameValue rX8_nameValue [.ref W, .int (jNk j), .int (nI q)] (SH, I, L, RF p s r) Q := by
  unfold zXM
  have hW := hC.hW
  have hB := wB hW
  have hp := hC.hp
  have hnp := hC.np
  have hv : vp_in (nI q) 5 := zvn (by omega) (by omega)
  have vw := hC.vw hq
  have fr := hC.fr hq
  have o6 := hC.hF.2.2.1 q (by omega)
  have o7 := hC.hF.2.2.2.1 q (by omega)
  have ht := hC.ht
  have m0 := hC.hM.1
  have m4 := hC.hM.2.2.2.1
  match j, hj with
  | 0, _ =>
    refine zBlkR (M := mX8_nameValue) (nL := 3) (rt := (Option.some .long)) (blk := bX8_nameValue_0) (T := []) 0 hX8_nameValue_0 zChks_nil rfl rfl rfl (Nat.le_of_ble_eq_true rfl) (Nat.le_of_ble_eq_true rfl) ?_
    simp only [bX8_nameValue_0, zRun_cons, zRun_nil, zLk, zSto, zIns, zFil, zf0, zf1, zf2, zf3, List.filter_cons, List.filter_nil, Nat.reduceAdd, Nat.reduceEqDiff, Nat.reduceLT, Nat.reduceLeDiff, Nat.reduceBEq, Nat.reduceBNe, reduceIte, if_true, if_false, Bool.false_and, Bool.true_and, Bool.and_true, Bool.and_false, Bool.not_false, Bool.not_true, Bool.false_eq_true, beq_self_eq_true, BEq.rfl, zCat1, zCat2, zCat3, zKdI, zKdL, zKdR, true_and, and_true, zSI, zSL, zSR, zu_at, and_self, and_false, false_and, lv_args, zKdZ, zKdO, zB01, zB11, Option.toList_none, Option.toList_some, List.nil_append, List.cons_append, true_or, or_true, zRow_rd, zu_rd, zo_iload_n, zKn_0, zN10, zN01, not_true_eq_false, not_false_eq_true, false_implies, true_implies, implies_true, eq_self, nI_1, nI_40, nI_7, vz0, vz1, zb1_e0, zb1_n0]
    refine z_tsw (dt := 144) [(20, 44), (21, 55), (22, 66), (23, 79), (24, 113), (25, 124), (26, 135)] (by decide +kernel : decode cX8_nameValue 1 = .ok (.tableswitch 143 20 26 #[43, 54, 65, 78, 112, 123, 134], 43)) (by decide) (by decide) (by decide) (zSw_of (t := 44) (by decide) ?_)
    refine zBlkR (M := mX8_nameValue) (nL := 3) (rt := (Option.some .long)) (blk := bX8_nameValue_44) (T := []) 0 hX8_nameValue_44 zChks_nil rfl rfl rfl (Nat.le_of_ble_eq_true rfl) (Nat.le_of_ble_eq_true rfl) ?_
    simp only [bX8_nameValue_44, zRun_cons, zRun_nil, zLk, zSto, zIns, zFil, zf0, zf1, zf2, zf3, List.filter_cons, List.filter_nil, Nat.reduceAdd, Nat.reduceEqDiff, Nat.reduceLT, Nat.reduceLeDiff, Nat.reduceBEq, Nat.reduceBNe, reduceIte, if_true, if_false, Bool.false_and, Bool.true_and, Bool.and_true, Bool.and_false, Bool.not_false, Bool.not_true, Bool.false_eq_true, beq_self_eq_true, BEq.rfl, zCat1, zCat2, zCat3, zKdI, zKdL, zKdR, true_and, and_true, zSI, zSL, zSR, zu_at, and_self, and_false, false_and, lv_args, zKdZ, zKdO, zB01, zB11, Option.toList_none, Option.toList_some, List.nil_append, List.cons_append, true_or, or_true, zRow_rd, zu_rd, zo_aload_n, zo_getfield, zo_iload_n, zo_iaload, zo_i2l, zo_lreturn, zKd_8_4, zKd_4_2, sh_37, rf_37_4, sh_40, rf_40_4, sh_55, rf_55_2, sh_57, sh_71, rf_71_2, sh_73, zKn_0, (wsh_0 hW), (wsh_1 hW), (wsh_2 hW), (wsh_3 hW), (wrf_0 hW), (wrf_1 hW), (wrf_2 hW), (wrf_3 hW), (wrf_4 hW), Nat.add_left_cancel_iff, Nat.left_eq_add, Nat.add_eq_left, (psh_0 hp), (psh_1 hp), (psh_2 hp), (psh_3 hp), (psh_4 hp), (psh_5 hp), (psh_6 hp), (psh_7 hp), (psh_8 hp), (psh_9 hp), (psh_10 hp), (psh_11 hp), (psh_12 hp), (psh_13 hp), (psh_14 hp), (psh_15 hp), (prf_1 hp), (prf_2 hp), (prf_3 hp), (prf_4 hp), (prf_6 hp), (prf_7 hp), (prf_8 hp), (prf_10 hp), (prf_11 hp), (prf_12 hp), (prf_13 hp), (prf_15 hp), (prf_17 hp), (prf_18 hp), (prf_19 hp), Nat.add_left_cancel_iff, Nat.left_eq_add, Nat.add_eq_left, hv, vw, zCat2, nI_clamp (n := q) (by omega), zN10, zN01, not_true_eq_false, not_false_eq_true, false_implies, true_implies, implies_true, eq_self, nI_1, nI_40, nI_7, vz0, vz1, zb1_e0, zb1_n0]
    exact hQ
  | 1, _ =>
    refine zBlkR (M := mX8_nameValue) (nL := 3) (rt := (Option.some .long)) (blk := bX8_nameValue_0) (T := []) 0 hX8_nameValue_0 zChks_nil rfl rfl rfl (Nat.le_of_ble_eq_true rfl) (Nat.le_of_ble_eq_true rfl) ?_
    simp only [bX8_nameValue_0, zRun_cons, zRun_nil, zLk, zSto, zIns, zFil, zf0, zf1, zf2, zf3, List.filter_cons, List.filter_nil, Nat.reduceAdd, Nat.reduceEqDiff, Nat.reduceLT, Nat.reduceLeDiff, Nat.reduceBEq, Nat.reduceBNe, reduceIte, if_true, if_false, Bool.false_and, Bool.true_and, Bool.and_true, Bool.and_false, Bool.not_false, Bool.not_true, Bool.false_eq_true, beq_self_eq_true, BEq.rfl, zCat1, zCat2, zCat3, zKdI, zKdL, zKdR, true_and, and_true, zSI, zSL, zSR, zu_at, and_self, and_false, false_and, lv_args, zKdZ, zKdO, zB01, zB11, Option.toList_none, Option.toList_some, List.nil_append, List.cons_append, true_or, or_true, zRow_rd, zu_rd, zo_iload_n, zKn_0, zN10, zN01, not_true_eq_false, not_false_eq_true, false_implies, true_implies, implies_true, eq_self, nI_1, nI_40, nI_7, vz0, vz1, zb1_e0, zb1_n0]
    refine z_tsw (dt := 144) [(20, 44), (21, 55), (22, 66), (23, 79), (24, 113), (25, 124), (26, 135)] (by decide +kernel : decode cX8_nameValue 1 = .ok (.tableswitch 143 20 26 #[43, 54, 65, 78, 112, 123, 134], 43)) (by decide) (by decide) (by decide) (zSw_of (t := 55) (by decide) ?_)
    refine zBlkR (M := mX8_nameValue) (nL := 3) (rt := (Option.some .long)) (blk := bX8_nameValue_55) (T := []) 0 hX8_nameValue_55 zChks_nil rfl rfl rfl (Nat.le_of_ble_eq_true rfl) (Nat.le_of_ble_eq_true rfl) ?_
    simp only [bX8_nameValue_55, zRun_cons, zRun_nil, zLk, zSto, zIns, zFil, zf0, zf1, zf2, zf3, List.filter_cons, List.filter_nil, Nat.reduceAdd, Nat.reduceEqDiff, Nat.reduceLT, Nat.reduceLeDiff, Nat.reduceBEq, Nat.reduceBNe, reduceIte, if_true, if_false, Bool.false_and, Bool.true_and, Bool.and_true, Bool.and_false, Bool.not_false, Bool.not_true, Bool.false_eq_true, beq_self_eq_true, BEq.rfl, zCat1, zCat2, zCat3, zKdI, zKdL, zKdR, true_and, and_true, zSI, zSL, zSR, zu_at, and_self, and_false, false_and, lv_args, zKdZ, zKdO, zB01, zB11, Option.toList_none, Option.toList_some, List.nil_append, List.cons_append, true_or, or_true, zRow_rd, zu_rd, zo_aload_n, zo_getfield, zo_iload_n, zo_iaload, zo_i2l, zo_lreturn, zKd_8_4, zKd_4_3, sh_37, rf_37_4, sh_40, rf_40_4, sh_55, rf_55_3, sh_58, sh_71, rf_71_3, sh_74, zKn_0, (wsh_0 hW), (wsh_1 hW), (wsh_2 hW), (wsh_3 hW), (wrf_0 hW), (wrf_1 hW), (wrf_2 hW), (wrf_3 hW), (wrf_4 hW), Nat.add_left_cancel_iff, Nat.left_eq_add, Nat.add_eq_left, (psh_0 hp), (psh_1 hp), (psh_2 hp), (psh_3 hp), (psh_4 hp), (psh_5 hp), (psh_6 hp), (psh_7 hp), (psh_8 hp), (psh_9 hp), (psh_10 hp), (psh_11 hp), (psh_12 hp), (psh_13 hp), (psh_14 hp), (psh_15 hp), (prf_1 hp), (prf_2 hp), (prf_3 hp), (prf_4 hp), (prf_6 hp), (prf_7 hp), (prf_8 hp), (prf_10 hp), (prf_11 hp), (prf_12 hp), (prf_13 hp), (prf_15 hp), (prf_17 hp), (prf_18 hp), (prf_19 hp), Nat.add_left_cancel_iff, Nat.left_eq_add, Nat.add_eq_left, hv, fr, zCat2, nI_clamp (n := q) (by omega), zN10, zN01, not_true_eq_false, not_false_eq_true, false_implies, true_implies, implies_true, eq_self, nI_1, nI_40, nI_7, vz0, vz1, zb1_e0, zb1_n0]
    exact hQ
  | 2, _ =>
    refine zBlkR (M := mX8_nameValue) (nL := 3) (rt := (Option.some .long)) (blk := bX8_nameValue_0) (T := []) 0 hX8_nameValue_0 zChks_nil rfl rfl rfl (Nat.le_of_ble_eq_true rfl) (Nat.le_of_ble_eq_true rfl) ?_
    simp only [bX8_nameValue_0, zRun_cons, zRun_nil, zLk, zSto, zIns, zFil, zf0, zf1, zf2, zf3, List.filter_cons, List.filter_nil, Nat.reduceAdd, Nat.reduceEqDiff, Nat.reduceLT, Nat.reduceLeDiff, Nat.reduceBEq, Nat.reduceBNe, reduceIte, if_true, if_false, Bool.false_and, Bool.true_and, Bool.and_true, Bool.and_false, Bool.not_false, Bool.not_true, Bool.false_eq_true, beq_self_eq_true, BEq.rfl, zCat1, zCat2, zCat3, zKdI, zKdL, zKdR, true_and, and_true, zSI, zSL, zSR, zu_at, and_self, and_false, false_and, lv_args, zKdZ, zKdO, zB01, zB11, Option.toList_none, Option.toList_some, List.nil_append, List.cons_append, true_or, or_true, zRow_rd, zu_rd, zo_iload_n, zKn_0, zN10, zN01, not_true_eq_false, not_false_eq_true, false_implies, true_implies, implies_true, eq_self, nI_1, nI_40, nI_7, vz0, vz1, zb1_e0, zb1_n0]
    refine z_tsw (dt := 144) [(20, 44), (21, 55), (22, 66), (23, 79), (24, 113), (25, 124), (26, 135)] (by decide +kernel : decode cX8_nameValue 1 = .ok (.tableswitch 143 20 26 #[43, 54, 65, 78, 112, 123, 134], 43)) (by decide) (by decide) (by decide) (zSw_of (t := 66) (by decide) ?_)
    refine zBlkR (M := mX8_nameValue) (nL := 3) (rt := (Option.some .long)) (blk := bX8_nameValue_66) (T := []) 0 hX8_nameValue_66 zChks_nil rfl rfl rfl (Nat.le_of_ble_eq_true rfl) (Nat.le_of_ble_eq_true rfl) ?_
    simp only [bX8_nameValue_66, zRun_cons, zRun_nil, zLk, zSto, zIns, zFil, zf0, zf1, zf2, zf3, List.filter_cons, List.filter_nil, Nat.reduceAdd, Nat.reduceEqDiff, Nat.reduceLT, Nat.reduceLeDiff, Nat.reduceBEq, Nat.reduceBNe, reduceIte, if_true, if_false, Bool.false_and, Bool.true_and, Bool.and_true, Bool.and_false, Bool.not_false, Bool.not_true, Bool.false_eq_true, beq_self_eq_true, BEq.rfl, zCat1, zCat2, zCat3, zKdI, zKdL, zKdR, true_and, and_true, zSI, zSL, zSR, zu_at, and_self, and_false, false_and, lv_args, zKdZ, zKdO, zB01, zB11, Option.toList_none, Option.toList_some, List.nil_append, List.cons_append, true_or, or_true, zRow_rd, zu_rd, zo_aload_n, zKn_0, zN10, zN01, not_true_eq_false, not_false_eq_true, false_implies, true_implies, implies_true, eq_self, nI_1, nI_40, nI_7, vz0, vz1, zb1_e0, zb1_n0]
    refine z_cV0 (M' := mX8_skyNow) (R' := rX8_skyNow) (i := W) [] [] eX8_skyNow k8_43 (by decide +kernel : decode cX8_nameValue 67 = .ok (.invokevirtual 43, 3)) (Nat.le_of_ble_eq_true rfl) ⟨Nat.le_of_ble_eq_true rfl, Nat.le_of_ble_eq_true rfl, Nat.le_of_ble_eq_true rfl, Nat.le_of_ble_eq_true rfl, Nat.le_of_ble_eq_true rfl⟩ rfl rfl rfl (wsh_0 hW) ?_
    refine cl_skyNow hC ?_
    refine zBlkR (M := mX8_nameValue) (nL := 3) (rt := (Option.some .long)) (blk := bX8_nameValue_70) (T := [(77, bX8_nameValue_77), (78, bX8_nameValue_78)]) 1 hX8_nameValue_70 (zChks_cons hX8_nameValue_77 (zChks_cons hX8_nameValue_78 zChks_nil)) rfl rfl rfl (Nat.le_of_ble_eq_true rfl) (Nat.le_of_ble_eq_true rfl) ?_
    simp only [bX8_nameValue_70, bX8_nameValue_77, bX8_nameValue_78, zRun_cons, zRun_nil, zLk, zSto, zIns, zFil, zf0, zf1, zf2, zf3, List.filter_cons, List.filter_nil, Nat.reduceAdd, Nat.reduceEqDiff, Nat.reduceLT, Nat.reduceLeDiff, Nat.reduceBEq, Nat.reduceBNe, reduceIte, if_true, if_false, Bool.false_and, Bool.true_and, Bool.and_true, Bool.and_false, Bool.not_false, Bool.not_true, Bool.false_eq_true, beq_self_eq_true, BEq.rfl, zCat1, zCat2, zCat3, zKdI, zKdL, zKdR, true_and, and_true, zSI, zSL, zSR, zu_at, and_self, and_false, false_and, lv_args, zKdZ, zKdO, zB01, zB11, Option.toList_none, Option.toList_some, List.nil_append, List.cons_append, true_or, or_true, zRow_rd, zu_rd, zo_if_ne, zo_lconst, zo_goto, zo_lreturn, zl_1, zl_0, zKn_s, zKn_0, zFind, zCat2, zN10, zN01, not_true_eq_false, not_false_eq_true, false_implies, true_implies, implies_true, eq_self, nI_1, nI_40, nI_7, vz0, vz1, zb1_e0, zb1_n0]
    refine ⟨fun h => ?_, fun h => ?_⟩
    · have e : pNm P m t V q 2 = 0 := by simp [pNm, jNm, decide_eq_false h, zl1]
      rw [e] at hQ; exact hQ
    · have e : pNm P m t V q 2 = 1 := by simp [pNm, jNm, decide_eq_true h, zl1]
      rw [e] at hQ; exact hQ
  | 3, _ =>
    refine zBlkR (M := mX8_nameValue) (nL := 3) (rt := (Option.some .long)) (blk := bX8_nameValue_0) (T := []) 0 hX8_nameValue_0 zChks_nil rfl rfl rfl (Nat.le_of_ble_eq_true rfl) (Nat.le_of_ble_eq_true rfl) ?_
    simp only [bX8_nameValue_0, zRun_cons, zRun_nil, zLk, zSto, zIns, zFil, zf0, zf1, zf2, zf3, List.filter_cons, List.filter_nil, Nat.reduceAdd, Nat.reduceEqDiff, Nat.reduceLT, Nat.reduceLeDiff, Nat.reduceBEq, Nat.reduceBNe, reduceIte, if_true, if_false, Bool.false_and, Bool.true_and, Bool.and_true, Bool.and_false, Bool.not_false, Bool.not_true, Bool.false_eq_true, beq_self_eq_true, BEq.rfl, zCat1, zCat2, zCat3, zKdI, zKdL, zKdR, true_and, and_true, zSI, zSL, zSR, zu_at, and_self, and_false, false_and, lv_args, zKdZ, zKdO, zB01, zB11, Option.toList_none, Option.toList_some, List.nil_append, List.cons_append, true_or, or_true, zRow_rd, zu_rd, zo_iload_n, zKn_0, zN10, zN01, not_true_eq_false, not_false_eq_true, false_implies, true_implies, implies_true, eq_self, nI_1, nI_40, nI_7, vz0, vz1, zb1_e0, zb1_n0]
    refine z_tsw (dt := 144) [(20, 44), (21, 55), (22, 66), (23, 79), (24, 113), (25, 124), (26, 135)] (by decide +kernel : decode cX8_nameValue 1 = .ok (.tableswitch 143 20 26 #[43, 54, 65, 78, 112, 123, 134], 43)) (by decide) (by decide) (by decide) (zSw_of (t := 79) (by decide) ?_)
    refine zBlkR (M := mX8_nameValue) (nL := 3) (rt := (Option.some .long)) (blk := bX8_nameValue_79) (T := [(111, bX8_nameValue_111)]) 1 hX8_nameValue_79 (zChks_cons hX8_nameValue_111 zChks_nil) rfl rfl rfl (Nat.le_of_ble_eq_true rfl) (Nat.le_of_ble_eq_true rfl) ?_
    simp only [bX8_nameValue_79, bX8_nameValue_111, zRun_cons, zRun_nil, zLk, zSto, zIns, zFil, zf0, zf1, zf2, zf3, List.filter_cons, List.filter_nil, Nat.reduceAdd, Nat.reduceEqDiff, Nat.reduceLT, Nat.reduceLeDiff, Nat.reduceBEq, Nat.reduceBNe, reduceIte, if_true, if_false, Bool.false_and, Bool.true_and, Bool.and_true, Bool.and_false, Bool.not_false, Bool.not_true, Bool.false_eq_true, beq_self_eq_true, BEq.rfl, zCat1, zCat2, zCat3, zKdI, zKdL, zKdR, true_and, and_true, zSI, zSL, zSR, zu_at, and_self, and_false, false_and, lv_args, zKdZ, zKdO, zB01, zB11, Option.toList_none, Option.toList_some, List.nil_append, List.cons_append, true_or, or_true, zRow_rd, zu_rd, zo_aload_n, zo_getfield, zo_if_ne, zo_iload_n, zo_lconst, zo_lreturn, zl_0, zKd_8_1, zKd_6_4, zKd_8_4, zKd_8_0, zKd_2_10, sh_37, rf_37_1, sh_8, sh_40, rf_40_1, sh_9, rf_37_4, rf_40_4, rf_37_0, sh_10, rf_40_0, sh_19, sh_28, zKn_s, zKn_0, zFind, (wsh_0 hW), (wsh_1 hW), (wsh_2 hW), (wsh_3 hW), (wrf_0 hW), (wrf_1 hW), (wrf_2 hW), (wrf_3 hW), (wrf_4 hW), Nat.add_left_cancel_iff, Nat.left_eq_add, Nat.add_eq_left, (fsh_0 hB), (fsh_1 hB), (fsh_2 hB), (fsh_3 hB), (fsh_4 hB), (fsh_5 hB), (fsh_6 hB), (fsh_7 hB), (fsh_8 hB), (frf_0 hB), (frf_1 hB), (frf_2 hB), (frf_3 hB), (frf_4 hB), (frf_5 hB), (frf_6 hB), (frf_7 hB), Nat.add_left_cancel_iff, Nat.left_eq_add, Nat.add_eq_left, ht, m4, zCat2, zN10, zN01, not_true_eq_false, not_false_eq_true, false_implies, true_implies, implies_true, eq_self, nI_1, nI_40, nI_7, vz0, vz1, zb1_e0, zb1_n0]
    refine ⟨fun h => ?_, fun h => ?_⟩
    · have e : pNm P m t V q 3 = 0 := by simp [pNm, jNm, show mNb m = true by simpa using h, zl1]
      rw [e] at hQ; exact hQ
    · refine z_cV0 (M' := mX4_hasBand) (R' := rX4_hasBand) (i := p) [.int (nI q), .int (nI t)] [] eX4_hasBand k8_242 (by decide +kernel : decode cX8_nameValue 101 = .ok (.invokevirtual 242, 3)) (Nat.le_of_ble_eq_true rfl) ⟨Nat.le_of_ble_eq_true rfl, Nat.le_of_ble_eq_true rfl, Nat.le_of_ble_eq_true rfl, Nat.le_of_ble_eq_true rfl, Nat.le_of_ble_eq_true rfl⟩ rfl rfl rfl (psh_0 hp) ?_
      refine cl_hasBand hp hC.i9 hC.hO.2.2.2.2.1 ?_
      have e2 : zAny (oMusP (I (p + 8)) (I (p + 9)) (I (p + 10)) (nI q) (nI t)) (pNb P) = zAny (oMusP (pR P 98) (pR P 99) (pR P 100) (nI q) (nI t)) (pNb P) := by
        refine zAny_congr (fun c hc => ?_)
        obtain ⟨b1, b2, b3⟩ := hC.hP.2.2.2.2.1 c hc
        simp only [oMusP]
        rw [show I (p + 8) c = pR P 98 c from b1, show I (p + 9) c = pR P 99 c from b2, show I (p + 10) c = pR P 100 c from b3]
      rw [e2]
      refine zBlkR (M := mX8_nameValue) (nL := 3) (rt := (Option.some .long)) (blk := bX8_nameValue_104) (T := [(111, bX8_nameValue_111), (112, bX8_nameValue_112)]) 1 hX8_nameValue_104 (zChks_cons hX8_nameValue_111 (zChks_cons hX8_nameValue_112 zChks_nil)) rfl rfl rfl (Nat.le_of_ble_eq_true rfl) (Nat.le_of_ble_eq_true rfl) ?_
      simp only [bX8_nameValue_104, bX8_nameValue_111, bX8_nameValue_112, zRun_cons, zRun_nil, zLk, zSto, zIns, zFil, zf0, zf1, zf2, zf3, List.filter_cons, List.filter_nil, Nat.reduceAdd, Nat.reduceEqDiff, Nat.reduceLT, Nat.reduceLeDiff, Nat.reduceBEq, Nat.reduceBNe, reduceIte, if_true, if_false, Bool.false_and, Bool.true_and, Bool.and_true, Bool.and_false, Bool.not_false, Bool.not_true, Bool.false_eq_true, beq_self_eq_true, BEq.rfl, zCat1, zCat2, zCat3, zKdI, zKdL, zKdR, true_and, and_true, zSI, zSL, zSR, zu_at, and_self, and_false, false_and, lv_args, zKdZ, zKdO, zB01, zB11, Option.toList_none, Option.toList_some, List.nil_append, List.cons_append, true_or, or_true, zRow_rd, zu_rd, zo_if_eq, zo_lconst, zo_goto, zo_lreturn, zl_1, zl_0, zKn_s, zKn_0, zFind, zCat2, zN10, zN01, not_true_eq_false, not_false_eq_true, false_implies, true_implies, implies_true, eq_self, nI_1, nI_40, nI_7, vz0, vz1, zb1_e0, zb1_n0]
      refine ⟨fun g => ?_, fun g => ?_⟩
      · have e : pNm P m t V q 3 = 0 := by simp [pNm, jNm, h, g, zl1]
        rw [e] at hQ; exact hQ
      · have e : pNm P m t V q 3 = 1 := by simp [pNm, jNm, h, show zAny (oMusP (pR P 98) (pR P 99) (pR P 100) (nI q) (nI t)) (pNb P) = true by simpa using g, zl1]
        rw [e] at hQ; exact hQ
  | 4, _ =>
    refine zBlkR (M := mX8_nameValue) (nL := 3) (rt := (Option.some .long)) (blk := bX8_nameValue_0) (T := []) 0 hX8_nameValue_0 zChks_nil rfl rfl rfl (Nat.le_of_ble_eq_true rfl) (Nat.le_of_ble_eq_true rfl) ?_
    simp only [bX8_nameValue_0, zRun_cons, zRun_nil, zLk, zSto, zIns, zFil, zf0, zf1, zf2, zf3, List.filter_cons, List.filter_nil, Nat.reduceAdd, Nat.reduceEqDiff, Nat.reduceLT, Nat.reduceLeDiff, Nat.reduceBEq, Nat.reduceBNe, reduceIte, if_true, if_false, Bool.false_and, Bool.true_and, Bool.and_true, Bool.and_false, Bool.not_false, Bool.not_true, Bool.false_eq_true, beq_self_eq_true, BEq.rfl, zCat1, zCat2, zCat3, zKdI, zKdL, zKdR, true_and, and_true, zSI, zSL, zSR, zu_at, and_self, and_false, false_and, lv_args, zKdZ, zKdO, zB01, zB11, Option.toList_none, Option.toList_some, List.nil_append, List.cons_append, true_or, or_true, zRow_rd, zu_rd, zo_iload_n, zKn_0, zN10, zN01, not_true_eq_false, not_false_eq_true, false_implies, true_implies, implies_true, eq_self, nI_1, nI_40, nI_7, vz0, vz1, zb1_e0, zb1_n0]
    refine z_tsw (dt := 144) [(20, 44), (21, 55), (22, 66), (23, 79), (24, 113), (25, 124), (26, 135)] (by decide +kernel : decode cX8_nameValue 1 = .ok (.tableswitch 143 20 26 #[43, 54, 65, 78, 112, 123, 134], 43)) (by decide) (by decide) (by decide) (zSw_of (t := 113) (by decide) ?_)
    refine zBlkR (M := mX8_nameValue) (nL := 3) (rt := (Option.some .long)) (blk := bX8_nameValue_113) (T := []) 0 hX8_nameValue_113 zChks_nil rfl rfl rfl (Nat.le_of_ble_eq_true rfl) (Nat.le_of_ble_eq_true rfl) ?_
    simp only [bX8_nameValue_113, zRun_cons, zRun_nil, zLk, zSto, zIns, zFil, zf0, zf1, zf2, zf3, List.filter_cons, List.filter_nil, Nat.reduceAdd, Nat.reduceEqDiff, Nat.reduceLT, Nat.reduceLeDiff, Nat.reduceBEq, Nat.reduceBNe, reduceIte, if_true, if_false, Bool.false_and, Bool.true_and, Bool.and_true, Bool.and_false, Bool.not_false, Bool.not_true, Bool.false_eq_true, beq_self_eq_true, BEq.rfl, zCat1, zCat2, zCat3, zKdI, zKdL, zKdR, true_and, and_true, zSI, zSL, zSR, zu_at, and_self, and_false, false_and, lv_args, zKdZ, zKdO, zB01, zB11, Option.toList_none, Option.toList_some, List.nil_append, List.cons_append, true_or, or_true, zRow_rd, zu_rd, zo_aload_n, zo_getfield, zo_iload_n, zo_iaload, zo_i2l, zo_lreturn, zKd_8_0, zKd_2_6, sh_37, rf_37_0, sh_10, sh_40, rf_40_0, sh_19, rf_10_6, sh_17, rf_19_6, sh_26, sh_28, rf_28_6, sh_35, zKn_0, (wsh_0 hW), (wsh_1 hW), (wsh_2 hW), (wsh_3 hW), (wrf_0 hW), (wrf_1 hW), (wrf_2 hW), (wrf_3 hW), (wrf_4 hW), Nat.add_left_cancel_iff, Nat.left_eq_add, Nat.add_eq_left, (fsh_0 hB), (fsh_1 hB), (fsh_2 hB), (fsh_3 hB), (fsh_4 hB), (fsh_5 hB), (fsh_6 hB), (fsh_7 hB), (fsh_8 hB), (frf_0 hB), (frf_1 hB), (frf_2 hB), (frf_3 hB), (frf_4 hB), (frf_5 hB), (frf_6 hB), (frf_7 hB), Nat.add_left_cancel_iff, Nat.left_eq_add, Nat.add_eq_left, hv, o7, zCat2, nI_clamp (n := q) (by omega), zN10, zN01, not_true_eq_false, not_false_eq_true, false_implies, true_implies, implies_true, eq_self, nI_1, nI_40, nI_7, vz0, vz1, zb1_e0, zb1_n0]
    exact hQ
  | 5, _ =>
    refine zBlkR (M := mX8_nameValue) (nL := 3) (rt := (Option.some .long)) (blk := bX8_nameValue_0) (T := []) 0 hX8_nameValue_0 zChks_nil rfl rfl rfl (Nat.le_of_ble_eq_true rfl) (Nat.le_of_ble_eq_true rfl) ?_
    simp only [bX8_nameValue_0, zRun_cons, zRun_nil, zLk, zSto, zIns, zFil, zf0, zf1, zf2, zf3, List.filter_cons, List.filter_nil, Nat.reduceAdd, Nat.reduceEqDiff, Nat.reduceLT, Nat.reduceLeDiff, Nat.reduceBEq, Nat.reduceBNe, reduceIte, if_true, if_false, Bool.false_and, Bool.true_and, Bool.and_true, Bool.and_false, Bool.not_false, Bool.not_true, Bool.false_eq_true, beq_self_eq_true, BEq.rfl, zCat1, zCat2, zCat3, zKdI, zKdL, zKdR, true_and, and_true, zSI, zSL, zSR, zu_at, and_self, and_false, false_and, lv_args, zKdZ, zKdO, zB01, zB11, Option.toList_none, Option.toList_some, List.nil_append, List.cons_append, true_or, or_true, zRow_rd, zu_rd, zo_iload_n, zKn_0, zN10, zN01, not_true_eq_false, not_false_eq_true, false_implies, true_implies, implies_true, eq_self, nI_1, nI_40, nI_7, vz0, vz1, zb1_e0, zb1_n0]
    refine z_tsw (dt := 144) [(20, 44), (21, 55), (22, 66), (23, 79), (24, 113), (25, 124), (26, 135)] (by decide +kernel : decode cX8_nameValue 1 = .ok (.tableswitch 143 20 26 #[43, 54, 65, 78, 112, 123, 134], 43)) (by decide) (by decide) (by decide) (zSw_of (t := 124) (by decide) ?_)
    refine zBlkR (M := mX8_nameValue) (nL := 3) (rt := (Option.some .long)) (blk := bX8_nameValue_124) (T := []) 0 hX8_nameValue_124 zChks_nil rfl rfl rfl (Nat.le_of_ble_eq_true rfl) (Nat.le_of_ble_eq_true rfl) ?_
    simp only [bX8_nameValue_124, zRun_cons, zRun_nil, zLk, zSto, zIns, zFil, zf0, zf1, zf2, zf3, List.filter_cons, List.filter_nil, Nat.reduceAdd, Nat.reduceEqDiff, Nat.reduceLT, Nat.reduceLeDiff, Nat.reduceBEq, Nat.reduceBNe, reduceIte, if_true, if_false, Bool.false_and, Bool.true_and, Bool.and_true, Bool.and_false, Bool.not_false, Bool.not_true, Bool.false_eq_true, beq_self_eq_true, BEq.rfl, zCat1, zCat2, zCat3, zKdI, zKdL, zKdR, true_and, and_true, zSI, zSL, zSR, zu_at, and_self, and_false, false_and, lv_args, zKdZ, zKdO, zB01, zB11, Option.toList_none, Option.toList_some, List.nil_append, List.cons_append, true_or, or_true, zRow_rd, zu_rd, zo_aload_n, zo_getfield, zo_iload_n, zo_iaload, zo_i2l, zo_lreturn, zKd_8_0, zKd_2_5, sh_37, rf_37_0, sh_10, sh_40, rf_40_0, sh_19, rf_10_5, sh_16, rf_19_5, sh_25, sh_28, rf_28_5, sh_34, zKn_0, (wsh_0 hW), (wsh_1 hW), (wsh_2 hW), (wsh_3 hW), (wrf_0 hW), (wrf_1 hW), (wrf_2 hW), (wrf_3 hW), (wrf_4 hW), Nat.add_left_cancel_iff, Nat.left_eq_add, Nat.add_eq_left, (fsh_0 hB), (fsh_1 hB), (fsh_2 hB), (fsh_3 hB), (fsh_4 hB), (fsh_5 hB), (fsh_6 hB), (fsh_7 hB), (fsh_8 hB), (frf_0 hB), (frf_1 hB), (frf_2 hB), (frf_3 hB), (frf_4 hB), (frf_5 hB), (frf_6 hB), (frf_7 hB), Nat.add_left_cancel_iff, Nat.left_eq_add, Nat.add_eq_left, hv, o6, zCat2, nI_clamp (n := q) (by omega), zN10, zN01, not_true_eq_false, not_false_eq_true, false_implies, true_implies, implies_true, eq_self, nI_1, nI_40, nI_7, vz0, vz1, zb1_e0, zb1_n0]
    exact hQ
  | 6, _ =>
    refine zBlkR (M := mX8_nameValue) (nL := 3) (rt := (Option.some .long)) (blk := bX8_nameValue_0) (T := []) 0 hX8_nameValue_0 zChks_nil rfl rfl rfl (Nat.le_of_ble_eq_true rfl) (Nat.le_of_ble_eq_true rfl) ?_
    simp only [bX8_nameValue_0, zRun_cons, zRun_nil, zLk, zSto, zIns, zFil, zf0, zf1, zf2, zf3, List.filter_cons, List.filter_nil, Nat.reduceAdd, Nat.reduceEqDiff, Nat.reduceLT, Nat.reduceLeDiff, Nat.reduceBEq, Nat.reduceBNe, reduceIte, if_true, if_false, Bool.false_and, Bool.true_and, Bool.and_true, Bool.and_false, Bool.not_false, Bool.not_true, Bool.false_eq_true, beq_self_eq_true, BEq.rfl, zCat1, zCat2, zCat3, zKdI, zKdL, zKdR, true_and, and_true, zSI, zSL, zSR, zu_at, and_self, and_false, false_and, lv_args, zKdZ, zKdO, zB01, zB11, Option.toList_none, Option.toList_some, List.nil_append, List.cons_append, true_or, or_true, zRow_rd, zu_rd, zo_iload_n, zKn_0, zN10, zN01, not_true_eq_false, not_false_eq_true, false_implies, true_implies, implies_true, eq_self, nI_1, nI_40, nI_7, vz0, vz1, zb1_e0, zb1_n0]
    refine z_tsw (dt := 144) [(20, 44), (21, 55), (22, 66), (23, 79), (24, 113), (25, 124), (26, 135)] (by decide +kernel : decode cX8_nameValue 1 = .ok (.tableswitch 143 20 26 #[43, 54, 65, 78, 112, 123, 134], 43)) (by decide) (by decide) (by decide) (zSw_of (t := 144) (by decide) ?_)
    refine zBlkR (M := mX8_nameValue) (nL := 3) (rt := (Option.some .long)) (blk := bX8_nameValue_144) (T := []) 0 hX8_nameValue_144 zChks_nil rfl rfl rfl (Nat.le_of_ble_eq_true rfl) (Nat.le_of_ble_eq_true rfl) ?_
    simp only [bX8_nameValue_144, zRun_cons, zRun_nil, zLk, zSto, zIns, zFil, zf0, zf1, zf2, zf3, List.filter_cons, List.filter_nil, Nat.reduceAdd, Nat.reduceEqDiff, Nat.reduceLT, Nat.reduceLeDiff, Nat.reduceBEq, Nat.reduceBNe, reduceIte, if_true, if_false, Bool.false_and, Bool.true_and, Bool.and_true, Bool.and_false, Bool.not_false, Bool.not_true, Bool.false_eq_true, beq_self_eq_true, BEq.rfl, zCat1, zCat2, zCat3, zKdI, zKdL, zKdR, true_and, and_true, zSI, zSL, zSR, zu_at, and_self, and_false, false_and, lv_args, zKdZ, zKdO, zB01, zB11, Option.toList_none, Option.toList_some, List.nil_append, List.cons_append, true_or, or_true, zRow_rd, zu_rd, zo_aload_n, zo_getfield, zo_i2l, zo_lreturn, zKd_8_1, zKd_6_0, sh_37, rf_37_1, sh_8, sh_40, rf_40_1, sh_9, zKn_0, (wsh_0 hW), (wsh_1 hW), (wsh_2 hW), (wsh_3 hW), (wrf_0 hW), (wrf_1 hW), (wrf_2 hW), (wrf_3 hW), (wrf_4 hW), Nat.add_left_cancel_iff, Nat.left_eq_add, Nat.add_eq_left, m0, zCat2, zN10, zN01, not_true_eq_false, not_false_eq_true, false_implies, true_implies, implies_true, eq_self, nI_1, nI_40, nI_7, vz0, vz1, zb1_e0, zb1_n0]
    exact hQ
  | 7, _ =>
    refine zBlkR (M := mX8_nameValue) (nL := 3) (rt := (Option.some .long)) (blk := bX8_nameValue_0) (T := []) 0 hX8_nameValue_0 zChks_nil rfl rfl rfl (Nat.le_of_ble_eq_true rfl) (Nat.le_of_ble_eq_true rfl) ?_
    simp only [bX8_nameValue_0, zRun_cons, zRun_nil, zLk, zSto, zIns, zFil, zf0, zf1, zf2, zf3, List.filter_cons, List.filter_nil, Nat.reduceAdd, Nat.reduceEqDiff, Nat.reduceLT, Nat.reduceLeDiff, Nat.reduceBEq, Nat.reduceBNe, reduceIte, if_true, if_false, Bool.false_and, Bool.true_and, Bool.and_true, Bool.and_false, Bool.not_false, Bool.not_true, Bool.false_eq_true, beq_self_eq_true, BEq.rfl, zCat1, zCat2, zCat3, zKdI, zKdL, zKdR, true_and, and_true, zSI, zSL, zSR, zu_at, and_self, and_false, false_and, lv_args, zKdZ, zKdO, zB01, zB11, Option.toList_none, Option.toList_some, List.nil_append, List.cons_append, true_or, or_true, zRow_rd, zu_rd, zo_iload_n, zKn_0, zN10, zN01, not_true_eq_false, not_false_eq_true, false_implies, true_implies, implies_true, eq_self, nI_1, nI_40, nI_7, vz0, vz1, zb1_e0, zb1_n0]
    refine z_tsw (dt := 144) [(20, 44), (21, 55), (22, 66), (23, 79), (24, 113), (25, 124), (26, 135)] (by decide +kernel : decode cX8_nameValue 1 = .ok (.tableswitch 143 20 26 #[43, 54, 65, 78, 112, 123, 134], 43)) (by decide) (by decide) (by decide) (zSw_of (t := 135) (by decide) ?_)
    refine zBlkR (M := mX8_nameValue) (nL := 3) (rt := (Option.some .long)) (blk := bX8_nameValue_135) (T := []) 0 hX8_nameValue_135 zChks_nil rfl rfl rfl (Nat.le_of_ble_eq_true rfl) (Nat.le_of_ble_eq_true rfl) ?_
    simp only [bX8_nameValue_135, zRun_cons, zRun_nil, zLk, zSto, zIns, zFil, zf0, zf1, zf2, zf3, List.filter_cons, List.filter_nil, Nat.reduceAdd, Nat.reduceEqDiff, Nat.reduceLT, Nat.reduceLeDiff, Nat.reduceBEq, Nat.reduceBNe, reduceIte, if_true, if_false, Bool.false_and, Bool.true_and, Bool.and_true, Bool.and_false, Bool.not_false, Bool.not_true, Bool.false_eq_true, beq_self_eq_true, BEq.rfl, zCat1, zCat2, zCat3, zKdI, zKdL, zKdR, true_and, and_true, zSI, zSL, zSR, zu_at, and_self, and_false, false_and, lv_args, zKdZ, zKdO, zB01, zB11, Option.toList_none, Option.toList_some, List.nil_append, List.cons_append, true_or, or_true, zRow_rd, zu_rd, zo_aload_n, zo_getfield, zo_i2l, zo_lreturn, zKd_8_0, zKd_2_10, sh_37, rf_37_0, sh_10, sh_40, rf_40_0, sh_19, sh_28, zKn_0, (wsh_0 hW), (wsh_1 hW), (wsh_2 hW), (wsh_3 hW), (wrf_0 hW), (wrf_1 hW), (wrf_2 hW), (wrf_3 hW), (wrf_4 hW), Nat.add_left_cancel_iff, Nat.left_eq_add, Nat.add_eq_left, (fsh_0 hB), (fsh_1 hB), (fsh_2 hB), (fsh_3 hB), (fsh_4 hB), (fsh_5 hB), (fsh_6 hB), (fsh_7 hB), (fsh_8 hB), (frf_0 hB), (frf_1 hB), (frf_2 hB), (frf_3 hB), (frf_4 hB), (frf_5 hB), (frf_6 hB), (frf_7 hB), Nat.add_left_cancel_iff, Nat.left_eq_add, Nat.add_eq_left, ht, zCat2, zN10, zN01, not_true_eq_false, not_false_eq_true, false_implies, true_implies, implies_true, eq_self, nI_1, nI_40, nI_7, vz0, vz1, zb1_e0, zb1_n0]
    exact hQ
end ZV66
end
