/-! ===== THE CLASS: a walk; its plan, terms and front beside the pure ones ===== -/
/-- a knot as the class writes it -/
def jEnc (k a : Int32) : Int32 := if k = 0 then a else if k = 1 then (if a = 6 then -27 else if a = 7 then -26 else -(a + 20)) else if k = 2 then -46 else if k = 3 then -45 else if k = 4 then -44 else -(k + 2)
/-- the rows of a plan of the class -/
def zClsR (g : Nat → Nat → Int32) (P : oPn) : Prop :=
  (g 0 0 = nI (pNp P) ∧ g 0 5 = nI (pNc P) ∧ g 0 9 = nI (pNb P) ∧ g 0 14 = nI (pNg P) ∧ g 0 16 = nI (pNk P)) ∧
  (∀ k, k < pNp P → g 1 k = pR P 90 k ∧ g 2 k = pR P 91 k ∧ g 3 k = pR P 92 k ∧ g 4 k = pR P 93 k) ∧
  (∀ k, k < pNc P → g 5 k = pR P 94 k ∧ g 6 k = pR P 95 k) ∧
  (∀ k, k < 96 → g 7 k = oSky (pR P 96) (pR P 97) (nI k) (pNs P) false) ∧
  (∀ k, k < pNb P → g 8 k = pR P 98 k ∧ g 9 k = pR P 99 k ∧ g 10 k = pR P 100 k) ∧
  (g 11 0 = pR P 102 5 ∧ g 11 1 = pR P 102 1 ∧ g 11 2 = pR P 102 6 ∧ g 11 3 = pR P 102 7 ∧ g 11 4 = pR P 102 8 ∧ g 11 5 = pR P 102 9 ∧ g 11 6 = pR P 102 10) ∧
  (∀ k, k < pNg P → g 12 k = pR P 101 k) ∧
  (∀ wh, wh < 3 → g 14 wh = (if pTold P wh = true then nI (pF P wh) else -1) ∧ (pTold P wh = true → g 15 wh = nI (pT P wh) ∧ ∀ i, pF P wh ≤ i → i < pT P wh → g 13 i = jEnc (pR P 107 i) (pR P 108 i)))
def zClsP (I : Nat → Nat → Int32) (a : Nat) (P : oPn) : Prop := zClsR (fun j => I (a + j)) P
/-- what else of a plan the class's way needs -/
def POk2 (P : oPn) : Prop := pNg P ≤ 4 ∧ (∀ k, k < pNp P → pR P 93 k = -1 ∨ ∃ n, n < 96 ∧ pR P 93 k = nI n) ∧
  (∀ wh, wh < 3 → pTold P wh = true → ∀ i, pF P wh ≤ i → i < pT P wh → ∃ k, k ≤ 14 ∧ pR P 107 i = nI k ∧ (k = 0 → ∃ n, n ≤ 9999 ∧ pR P 108 i = nI n)) ∧
  (∀ k, k < pNs P → ∃ n x, n < 96 ∧ x ≤ 2 ∧ pR P 96 k = nI n ∧ pR P 97 k = nI x) ∧ 0 < (pR P 102 8).toInt
def zClsM (g : Nat → Int32) (m : oTm) : Prop := g 0 = mPr m ∧ g 1 = zb1 (m2 m) ∧ g 3 = zb1 (mNr m) ∧ g 4 = zb1 (mNb m) ∧ g 5 = zb1 (mNd m) ∧ g 6 = zb1 (mNw m) ∧ g 7 = mSh m ∧ g 8 = mAb m
/-- a walk W over the front B by the terms T and the plan p -/
def zCw (I : Nat → Nat → Int32) (W B T p : Nat) (P : oPn) (m : oTm) (t : Nat) (V : Nat → Nat → Int32) : Prop :=
  zWc W B T ∧ zPc p ∧ POk P ∧ POk2 P ∧ zClsP I p P ∧ zClsM (I T) m ∧ zFC B I (pCh P) V ∧ I B 10 = nI t ∧ t < 96 ∧ oOk (pCh P) (pNp P) (pR P 102 8) V
/-- longs that a walk may change -/
def zFWL (W B i k : Nat) : Prop := i = W + 1 ∨ i = W + 2 ∨ (i = B ∧ k = 15)
def zWS (W i _k : Nat) : Prop := i = W + 1
section ZW64
variable {w : zP} {Q : Option Value → zMem → Prop} {μ : zMem} {I J V V' : Nat → Nat → Int32} {L : Nat → Nat → Int64} {p s W B T t : Nat} {r : Option Nat} {P : oPn} {m : oTm} {c i k q : Nat}
theorem zFB_out (hB : zBc B) (h : zKpt (zFB B) I J) (hi : i < 10 ∨ 36 < i) : J i = I i := by
  funext k
  refine h i k ?_
  unfold zFB
  rcases hB with rfl | rfl | rfl <;> omega
theorem zFB_B (h : zKpt (zFB B) I J) (hk : k ≠ 9) : J B k = I B k := by
  refine h B k ?_
  unfold zFB
  omega
theorem zClsP_row (h : ∀ j, J (p + j) = I (p + j)) (hP : zClsP I p P) : zClsP J p P := by
  unfold zClsP
  rw [show (fun j => J (p + j)) = fun j => I (p + j) from funext h]
  exact hP
theorem zPc_gt (h : zPc p) : 36 < p := by rcases h with rfl | rfl <;> omega
theorem zWc_T (h : zWc W B T) : T < 10 := by rcases h with ⟨-, -, rfl⟩ | ⟨-, -, rfl⟩ <;> omega
theorem zCw_u (hC : zCw I W B T p P m t V) (h : zKpt (zFB B) I J) (hF : zFC B J (pCh P) V') (hok : oOk (pCh P) (pNp P) (pR P 102 8) V') : zCw J W B T p P m t V' := by
  obtain ⟨h1, h2, h3, h4, h5, h6, h7, h8, h9, h10⟩ := hC
  refine ⟨h1, h2, h3, h4, zClsP_row (fun j => zFB_out (wB h1) h ?_) h5, ?_, hF, ?_, h9, hok⟩
  · have := zPc_gt h2; omega
  · rw [zFB_out (wB h1) h (Or.inl (zWc_T h1))]; exact h6
  · rw [zFB_B h (by decide)]; exact h8
theorem zCw.hW (hC : zCw I W B T p P m t V) : zWc W B T := hC.1
theorem zCw.hp (hC : zCw I W B T p P m t V) : zPc p := hC.2.1
theorem zCw.hO (hC : zCw I W B T p P m t V) : POk P := hC.2.2.1
theorem zCw.hO2 (hC : zCw I W B T p P m t V) : POk2 P := hC.2.2.2.1
theorem zCw.hP (hC : zCw I W B T p P m t V) : zClsP I p P := hC.2.2.2.2.1
theorem zCw.hM (hC : zCw I W B T p P m t V) : zClsM (I T) m := hC.2.2.2.2.2.1
theorem zCw.hF (hC : zCw I W B T p P m t V) : zFC B I (pCh P) V := hC.2.2.2.2.2.2.1
theorem zCw.ht (hC : zCw I W B T p P m t V) : I B 10 = nI t := hC.2.2.2.2.2.2.2.1
theorem zCw.t9 (hC : zCw I W B T p P m t V) : t < 96 := hC.2.2.2.2.2.2.2.2.1
theorem zCw.ok (hC : zCw I W B T p P m t V) : oOk (pCh P) (pNp P) (pR P 102 8) V := hC.2.2.2.2.2.2.2.2.2
theorem zCw.ch (hC : zCw I W B T p P m t V) : pCh P ≤ 40 := hC.2.2.1.1
theorem zCw.np (hC : zCw I W B T p P m t V) : pNp P ≤ 5 := hC.2.2.1.2.1
theorem zCw.i0 (hC : zCw I W B T p P m t V) : I p 0 = nI (pNp P) := hC.hP.1.1
theorem zCw.i5 (hC : zCw I W B T p P m t V) : I p 5 = nI (pNc P) := hC.hP.1.2.1
theorem zCw.i9 (hC : zCw I W B T p P m t V) : I p 9 = nI (pNb P) := hC.hP.1.2.2.1
theorem zCw.vw (hC : zCw I W B T p P m t V) (hk : k < pNp P) : I (p + 2) k = pR P 91 k := (hC.hP.2.1 k hk).2.1
theorem zCw.fr (hC : zCw I W B T p P m t V) (hk : k < pNp P) : I (p + 3) k = pR P 92 k := (hC.hP.2.1 k hk).2.2.1
theorem zCw.td (hC : zCw I W B T p P m t V) (hk : k < pNp P) : I (p + 4) k = pR P 93 k := (hC.hP.2.1 k hk).2.2.2
theorem zWc_37 (h : zWc W B T) : W = 37 ∨ W = 40 := by rcases h with ⟨rfl, -, -⟩ | ⟨rfl, -, -⟩ <;> omega
set_option maxRecDepth 20000 in
theorem cl_skyNow (hC : zCw I W B T p P m t V) (hQ : Q (some (.int (oSky (pR P 96) (pR P 97) (nI t) (pNs P) (mNr m)))) (SH, I, L, RF p s r)) : zXM w mX8_skyNow rX8_skyNow [.ref W] (SH, I, L, RF p s r) Q := by
  unfold zXM
  have hW := hC.hW
  have hB := wB hW
  have hp := hC.hp
  have h9 := hC.t9
  have e1 : ¬ nI t < 0 := nI_nn (by omega)
  have e2 : ¬ (96 : Int32) ≤ nI t := by rw [show (96 : Int32) = nI 96 from rfl, zle_nat (by omega) (by omega)]; omega
  have hv : vp_in (nI t) 96 := zvn h9 (by omega)
  have e3 : I (p + 7) t = oSky (pR P 96) (pR P 97) (nI t) (pNs P) false := hC.hP.2.2.2.1 t h9
  have hM3 := hC.hM.2.2.1
  have ht := hC.ht
  refine zBlkR (M := mX8_skyNow) (nL := 3) (rt := (Option.some .int)) (blk := bX8_skyNow_0) (T := [(30, bX8_skyNow_30), (31, bX8_skyNow_31), (51, bX8_skyNow_51), (52, bX8_skyNow_52)]) 2 hX8_skyNow_0 (zChks_cons hX8_skyNow_30 (zChks_cons hX8_skyNow_31 (zChks_cons hX8_skyNow_51 (zChks_cons hX8_skyNow_52 zChks_nil)))) rfl rfl rfl (Nat.le_of_ble_eq_true rfl) (Nat.le_of_ble_eq_true rfl) ?_
  simp only [bX8_skyNow_0, bX8_skyNow_30, bX8_skyNow_31, bX8_skyNow_51, bX8_skyNow_52, zRun_cons, zRun_nil, zLk, zSto, zIns, zFil, zf0, zf1, zf2, zf3, List.filter_cons, List.filter_nil, Nat.reduceAdd, Nat.reduceEqDiff, Nat.reduceLT, Nat.reduceLeDiff, Nat.reduceBEq, Nat.reduceBNe, reduceIte, if_true, if_false, Bool.false_and, Bool.true_and, Bool.and_true, Bool.and_false, Bool.not_false, Bool.not_true, Bool.false_eq_true, beq_self_eq_true, BEq.rfl, zCat1, zCat2, zCat3, zKdI, zKdL, zKdR, true_and, and_true, zSI, zSL, zSR, zu_at, and_self, and_false, false_and, lv_args, zKdZ, zKdO, zB01, zB11, Option.toList_none, Option.toList_some, List.nil_append, List.cons_append, true_or, or_true, zRow_rd, zu_rd, zo_aload_n, zo_getfield, zo_istore_n, zo_iload_n, zo_if_lt, zo_bipush, zo_icmp_ge, zo_iaload, zo_goto, zo_iconst, zo_icmp_ne, zo_if_eq, zo_ireturn, zb_96, zi_0, zi_2, zi_1, zKd_8_0, zKd_2_10, zKd_8_4, zKd_4_8, zKd_8_1, zKd_6_3, sh_37, rf_37_0, sh_10, sh_40, rf_40_0, sh_19, sh_28, zcl_96, rf_37_4, rf_40_4, sh_55, rf_55_8, sh_62, sh_71, rf_71_8, sh_78, zcl_0, zcl_2, rf_37_1, sh_8, rf_40_1, sh_9, zcl_1, zvi_0_96, zvi_2_96, zvi_1_96, zRt, zKn_s, zKn_0, zFind, (wsh_0 hW), (wsh_1 hW), (wsh_2 hW), (wsh_3 hW), (wrf_0 hW), (wrf_1 hW), (wrf_2 hW), (wrf_3 hW), (wrf_4 hW), Nat.add_left_cancel_iff, Nat.left_eq_add, Nat.add_eq_left, (fsh_0 hB), (fsh_1 hB), (fsh_2 hB), (fsh_3 hB), (fsh_4 hB), (fsh_5 hB), (fsh_6 hB), (fsh_7 hB), (fsh_8 hB), (frf_0 hB), (frf_1 hB), (frf_2 hB), (frf_3 hB), (frf_4 hB), (frf_5 hB), (frf_6 hB), (frf_7 hB), Nat.add_left_cancel_iff, Nat.left_eq_add, Nat.add_eq_left, (psh_0 hp), (psh_1 hp), (psh_2 hp), (psh_3 hp), (psh_4 hp), (psh_5 hp), (psh_6 hp), (psh_7 hp), (psh_8 hp), (psh_9 hp), (psh_10 hp), (psh_11 hp), (psh_12 hp), (psh_13 hp), (psh_14 hp), (psh_15 hp), (prf_1 hp), (prf_2 hp), (prf_3 hp), (prf_4 hp), (prf_6 hp), (prf_7 hp), (prf_8 hp), (prf_10 hp), (prf_11 hp), (prf_12 hp), (prf_13 hp), (prf_15 hp), (prf_17 hp), (prf_18 hp), (prf_19 hp), Nat.add_left_cancel_iff, Nat.left_eq_add, Nat.add_eq_left, ht, e1, e2, hv, e3, hM3, nI_clamp (n := t) (by omega), zN10, zN01, not_true_eq_false, not_false_eq_true, false_implies, true_implies, implies_true, eq_self, nI_1, nI_40, nI_7, vz0, vz1, zb1_e0, zb1_n0]
  unfold oSky at hQ ⊢
  simp only [Bool.false_eq_true, false_and, if_false]
  by_cases g : (oSkyF (pR P 96) (pR P 97) (nI t) (pNs P)).2 = 2
  · cases hn : mNr m <;> simp [hn, g] at hQ ⊢ <;> exact hQ
  · simp [g] at hQ ⊢; exact hQ
set_option maxRecDepth 20000 in
theorem cl_letSittersGo (hC : zCw I W B T p P m t V) (hQ : ∀ I', zKpt (zFB B) I I' → zCw I' W B T p P m t (zIter (oGo (nI t)) (pCh P) V) → Q none (SH, I', L, RF p s r)) : zXM w mX8_letSittersGo rX8_letSittersGo [.ref W] (SH, I, L, RF p s r) Q := by
  unfold zXM
  have hW := hC.hW
  have hB := wB hW
  have hch := hC.ch
  refine zBlkR (M := mX8_letSittersGo) (nL := 2) (rt := (Option.none : Option Jvm.ClassFile.FieldType)) (blk := bX8_letSittersGo_0) (T := []) 0 hX8_letSittersGo_0 zChks_nil rfl rfl rfl (Nat.le_of_ble_eq_true rfl) (Nat.le_of_ble_eq_true rfl) ?_
  simp only [bX8_letSittersGo_0, zRun_cons, zRun_nil, zLk, zSto, zIns, zFil, zf0, zf1, zf2, zf3, List.filter_cons, List.filter_nil, Nat.reduceAdd, Nat.reduceEqDiff, Nat.reduceLT, Nat.reduceLeDiff, Nat.reduceBEq, Nat.reduceBNe, reduceIte, if_true, if_false, Bool.false_and, Bool.true_and, Bool.and_true, Bool.and_false, Bool.not_false, Bool.not_true, Bool.false_eq_true, beq_self_eq_true, BEq.rfl, zCat1, zCat2, zCat3, zKdI, zKdL, zKdR, true_and, and_true, zSI, zSL, zSR, zu_at, and_self, and_false, false_and, lv_args, zKdZ, zKdO, zB01, zB11, Option.toList_none, Option.toList_some, List.nil_append, List.cons_append, true_or, or_true, zRow_rd, zu_rd, zo_iconst, zo_istore_n, zi_0, zcl_0, zKn_0, zN10, zN01, not_true_eq_false, not_false_eq_true, false_implies, true_implies, implies_true, eq_self, nI_1, nI_40, nI_7, vz0, vz1, zb1_e0, zb1_n0]
  refine zLoop (n := pCh P) (P := fun c => ∀ J, zKpt (zFB B) I J → zCw J W B T p P m t (zIter (oGo (nI t)) c V) → zX w mX8_letSittersGo rX8_letSittersGo Q 0 0 2 [(0, Value.ref W), (1, Value.int (nI c))] [] (SH, J, L, RF p s r)) (fun c hc ih => ?_) 0 (Nat.zero_le _) I zKpt_rfl hC
  intro J hJ hCJ
  generalize hW' : zIter (oGo (nI t)) c V = U at *
  have ihW : zIter (oGo (nI t)) (c + 1) V = oGo (nI t) c U := by rw [zIter, hW']
  rw [ihW] at ih
  have h8 := hCJ.hF.2.1
  by_cases hcc : c = pCh P
  · refine zBlkR (M := mX8_letSittersGo) (nL := 2) (rt := (Option.none : Option Jvm.ClassFile.FieldType)) (blk := bX8_letSittersGo_2) (T := [(53, bX8_letSittersGo_53), (59, bX8_letSittersGo_59)]) 1 hX8_letSittersGo_2 (zChks_cons hX8_letSittersGo_53 (zChks_cons hX8_letSittersGo_59 zChks_nil)) rfl rfl rfl (Nat.le_of_ble_eq_true rfl) (Nat.le_of_ble_eq_true rfl) ?_
    simp only [bX8_letSittersGo_2, bX8_letSittersGo_53, bX8_letSittersGo_59, zRun_cons, zRun_nil, zLk, zSto, zIns, zFil, zf0, zf1, zf2, zf3, List.filter_cons, List.filter_nil, Nat.reduceAdd, Nat.reduceEqDiff, Nat.reduceLT, Nat.reduceLeDiff, Nat.reduceBEq, Nat.reduceBNe, reduceIte, if_true, if_false, Bool.false_and, Bool.true_and, Bool.and_true, Bool.and_false, Bool.not_false, Bool.not_true, Bool.false_eq_true, beq_self_eq_true, BEq.rfl, zCat1, zCat2, zCat3, zKdI, zKdL, zKdR, true_and, and_true, zSI, zSL, zSR, zu_at, and_self, and_false, false_and, lv_args, zKdZ, zKdO, zB01, zB11, Option.toList_none, Option.toList_some, List.nil_append, List.cons_append, true_or, or_true, zRow_rd, zu_rd, zo_iload_n, zo_aload_n, zo_getfield, zo_icmp_ge, zo_iaload, zo_iconst, zo_icmp_ne, zo_iinc, zo_goto, zo_return_, zi_2, zi_1, zKd_8_0, zKd_2_8, zKd_2_0, zKd_2_3, zKd_2_10, sh_37, rf_37_0, sh_10, sh_40, rf_40_0, sh_19, sh_28, rf_10_0, sh_11, rf_19_0, sh_20, rf_28_0, sh_29, zcl_2, rf_10_3, sh_14, rf_19_3, sh_23, rf_28_3, sh_32, zvi_2_40, zKn_s, zKn_0, zFind, (wsh_0 hW), (wsh_1 hW), (wsh_2 hW), (wsh_3 hW), (wrf_0 hW), (wrf_1 hW), (wrf_2 hW), (wrf_3 hW), (wrf_4 hW), Nat.add_left_cancel_iff, Nat.left_eq_add, Nat.add_eq_left, (fsh_0 hB), (fsh_1 hB), (fsh_2 hB), (fsh_3 hB), (fsh_4 hB), (fsh_5 hB), (fsh_6 hB), (fsh_7 hB), (fsh_8 hB), (frf_0 hB), (frf_1 hB), (frf_2 hB), (frf_3 hB), (frf_4 hB), (frf_5 hB), (frf_6 hB), (frf_7 hB), Nat.add_left_cancel_iff, Nat.left_eq_add, Nat.add_eq_left, h8, zle_nat (a := pCh P) (b := c) (by omega) (by omega), zN10, zN01, not_true_eq_false, not_false_eq_true, false_implies, true_implies, implies_true, eq_self, nI_1, nI_40, nI_7, vz0, vz1, zb1_e0, zb1_n0]
    exact ⟨fun _ => hQ J hJ (by rw [← hcc, hW']; exact hCJ), fun h => absurd (by omega) h⟩
  have hc4 : c < 40 := by omega
  have hv : vp_in (nI c) 40 := zvn (by omega) (by omega)
  have ht := hCJ.ht
  refine zBlkR (M := mX8_letSittersGo) (nL := 2) (rt := (Option.none : Option Jvm.ClassFile.FieldType)) (blk := bX8_letSittersGo_2) (T := [(53, bX8_letSittersGo_53), (59, bX8_letSittersGo_59)]) 1 hX8_letSittersGo_2 (zChks_cons hX8_letSittersGo_53 (zChks_cons hX8_letSittersGo_59 zChks_nil)) rfl rfl rfl (Nat.le_of_ble_eq_true rfl) (Nat.le_of_ble_eq_true rfl) ?_
  simp only [bX8_letSittersGo_2, bX8_letSittersGo_53, bX8_letSittersGo_59, zRun_cons, zRun_nil, zLk, zSto, zIns, zFil, zf0, zf1, zf2, zf3, List.filter_cons, List.filter_nil, Nat.reduceAdd, Nat.reduceEqDiff, Nat.reduceLT, Nat.reduceLeDiff, Nat.reduceBEq, Nat.reduceBNe, reduceIte, if_true, if_false, Bool.false_and, Bool.true_and, Bool.and_true, Bool.and_false, Bool.not_false, Bool.not_true, Bool.false_eq_true, beq_self_eq_true, BEq.rfl, zCat1, zCat2, zCat3, zKdI, zKdL, zKdR, true_and, and_true, zSI, zSL, zSR, zu_at, and_self, and_false, false_and, lv_args, zKdZ, zKdO, zB01, zB11, Option.toList_none, Option.toList_some, List.nil_append, List.cons_append, true_or, or_true, zRow_rd, zu_rd, zo_iload_n, zo_aload_n, zo_getfield, zo_icmp_ge, zo_iaload, zo_iconst, zo_icmp_ne, zo_iinc, zo_goto, zo_return_, zi_2, zi_1, zKd_8_0, zKd_2_8, zKd_2_0, zKd_2_3, zKd_2_10, sh_37, rf_37_0, sh_10, sh_40, rf_40_0, sh_19, sh_28, rf_10_0, sh_11, rf_19_0, sh_20, rf_28_0, sh_29, zcl_2, rf_10_3, sh_14, rf_19_3, sh_23, rf_28_3, sh_32, zvi_2_40, zKn_s, zKn_0, zFind, (wsh_0 hW), (wsh_1 hW), (wsh_2 hW), (wsh_3 hW), (wrf_0 hW), (wrf_1 hW), (wrf_2 hW), (wrf_3 hW), (wrf_4 hW), Nat.add_left_cancel_iff, Nat.left_eq_add, Nat.add_eq_left, (fsh_0 hB), (fsh_1 hB), (fsh_2 hB), (fsh_3 hB), (fsh_4 hB), (fsh_5 hB), (fsh_6 hB), (fsh_7 hB), (fsh_8 hB), (frf_0 hB), (frf_1 hB), (frf_2 hB), (frf_3 hB), (frf_4 hB), (frf_5 hB), (frf_6 hB), (frf_7 hB), Nat.add_left_cancel_iff, Nat.left_eq_add, Nat.add_eq_left, h8, hv, ht, zle_nat (a := pCh P) (b := c) (by omega) (by omega), nI_clamp (n := c) (by omega), hCJ.hF.v1 hc4, hCJ.hF.v4 hc4, zN10, zN01, not_true_eq_false, not_false_eq_true, false_implies, true_implies, implies_true, eq_self, nI_1, nI_40, nI_7, vz0, vz1, zb1_e0, zb1_n0]
  refine ⟨fun h => absurd h (by omega), fun _ => ⟨fun h1 => ?_, fun h1 => ⟨fun h2 => ?_, fun h2 => ?_⟩⟩⟩
  · rw [oGo, if_neg (fun q => h1 q.1)] at ih
    exact ih (by omega) J hJ hCJ
  · rw [oGo, if_neg (fun q => h2 q.2)] at ih
    exact ih (by omega) J hJ hCJ
  · refine z_cV0 (M' := mX2_unseat) (R' := rX2_unseat) (i := B) [.int (nI c)] [] eX2_unseat k8_99 (by decide +kernel : decode cX8_letSittersGo 50 = .ok (.invokevirtual 99, 3)) (Nat.le_of_ble_eq_true rfl) ⟨Nat.le_of_ble_eq_true rfl, Nat.le_of_ble_eq_true rfl, Nat.le_of_ble_eq_true rfl, Nat.le_of_ble_eq_true rfl, Nat.le_of_ble_eq_true rfl⟩ rfl rfl rfl (fsh_0 hB) ?_
    refine cl_unseat hB (by omega) hch hCJ.np hCJ.hF hCJ.ok (fun I1 k1 f1 => ?_)
    refine zBlkR (M := mX8_letSittersGo) (nL := 2) (rt := (Option.none : Option Jvm.ClassFile.FieldType)) (blk := bX8_letSittersGo_53) (T := []) 0 hX8_letSittersGo_53 zChks_nil rfl rfl rfl (Nat.le_of_ble_eq_true rfl) (Nat.le_of_ble_eq_true rfl) ?_
    simp only [bX8_letSittersGo_53, zRun_cons, zRun_nil, zLk, zSto, zIns, zFil, zf0, zf1, zf2, zf3, List.filter_cons, List.filter_nil, Nat.reduceAdd, Nat.reduceEqDiff, Nat.reduceLT, Nat.reduceLeDiff, Nat.reduceBEq, Nat.reduceBNe, reduceIte, if_true, if_false, Bool.false_and, Bool.true_and, Bool.and_true, Bool.and_false, Bool.not_false, Bool.not_true, Bool.false_eq_true, beq_self_eq_true, BEq.rfl, zCat1, zCat2, zCat3, zKdI, zKdL, zKdR, true_and, and_true, zSI, zSL, zSR, zu_at, and_self, and_false, false_and, lv_args, zKdZ, zKdO, zB01, zB11, Option.toList_none, Option.toList_some, List.nil_append, List.cons_append, true_or, or_true, zRow_rd, zu_rd, zo_iinc, zo_goto, zi_1, zKn_0, zN10, zN01, not_true_eq_false, not_false_eq_true, false_implies, true_implies, implies_true, eq_self, nI_1, nI_40, nI_7, vz0, vz1, zb1_e0, zb1_n0]
    rw [oUn, if_pos h1] at f1
    rw [oGo, if_pos ⟨h1, h2⟩] at ih
    exact ih (by omega) I1 (hJ.trans k1) (zCw_u hCJ k1 f1 (oOk_out hCJ.ok (Or.inr h1)))
set_option maxRecDepth 20000 in
theorem cl_wet (hC : zCw I W B T p P m t V) (hc : c < pCh P) (h1 : V 1 c = 1) (hQ : ∀ I', zKpt (zFB B) I I' → zCw I' W B T p P m t (oRain false (pR P 102 8) c V) → Q none (SH, I', L, RF p s r)) : zXM w mX8_wet rX8_wet [.ref W, .int (nI c)] (SH, I, L, RF p s r) Q := by
  unfold zXM
  have hW := hC.hW
  have hB := wB hW
  have hp := hC.hp
  have hch := hC.ch
  have hc4 : c < 40 := by omega
  have hv : vp_in (nI c) 40 := zvn (by omega) (by omega)
  have x1 : (p + 11 = B + 3) = False := eq_false (by rcases hB with rfl | rfl | rfl <;> rcases hp with rfl | rfl <;> omega)
  have e4 : I (p + 11) 4 = pR P 102 8 := hC.hP.2.2.2.2.2.1.2.2.2.2.1
  have e3 := hC.hF.v3 hc4
  refine zBlkR (M := mX8_wet) (nL := 2) (rt := (Option.none : Option Jvm.ClassFile.FieldType)) (blk := bX8_wet_0) (T := [(56, bX8_wet_56)]) 1 hX8_wet_0 (zChks_cons hX8_wet_56 zChks_nil) rfl rfl rfl (Nat.le_of_ble_eq_true rfl) (Nat.le_of_ble_eq_true rfl) ?_
  simp only [bX8_wet_0, bX8_wet_56, zRun_cons, zRun_nil, zLk, zSto, zIns, zFil, zf0, zf1, zf2, zf3, List.filter_cons, List.filter_nil, Nat.reduceAdd, Nat.reduceEqDiff, Nat.reduceLT, Nat.reduceLeDiff, Nat.reduceBEq, Nat.reduceBNe, reduceIte, if_true, if_false, Bool.false_and, Bool.true_and, Bool.and_true, Bool.and_false, Bool.not_false, Bool.not_true, Bool.false_eq_true, beq_self_eq_true, BEq.rfl, zCat1, zCat2, zCat3, zKdI, zKdL, zKdR, true_and, and_true, zSI, zSL, zSR, zu_at, and_self, and_false, false_and, lv_args, zKdZ, zKdO, zB01, zB11, Option.toList_none, Option.toList_some, List.nil_append, List.cons_append, true_or, or_true, zRow_rd, zu_rd, zo_aload_n, zo_getfield, zo_iload_n, zo_dup2, zo_dup2_2, zo_iaload, zo_iconst, zo_iadd, zo_iastore, zo_icmp_lt, zo_return_, zi_1, zi_4, zKd_8_0, zKd_2_2, zKd_8_4, zKd_4_13, sh_37, rf_37_0, sh_10, sh_40, rf_40_0, sh_19, rf_10_2, sh_13, rf_19_2, sh_22, sh_28, rf_28_2, sh_31, zcl_1, rf_37_4, rf_40_4, sh_55, rf_55_13, sh_66, sh_71, rf_71_13, sh_82, zcl_4, zvi_1_7, zvi_1_40, zvi_4_7, zvi_4_40, zKn_s, zKn_0, zFind, (wsh_0 hW), (wsh_1 hW), (wsh_2 hW), (wsh_3 hW), (wrf_0 hW), (wrf_1 hW), (wrf_2 hW), (wrf_3 hW), (wrf_4 hW), Nat.add_left_cancel_iff, Nat.left_eq_add, Nat.add_eq_left, (fsh_0 hB), (fsh_1 hB), (fsh_2 hB), (fsh_3 hB), (fsh_4 hB), (fsh_5 hB), (fsh_6 hB), (fsh_7 hB), (fsh_8 hB), (frf_0 hB), (frf_1 hB), (frf_2 hB), (frf_3 hB), (frf_4 hB), (frf_5 hB), (frf_6 hB), (frf_7 hB), Nat.add_left_cancel_iff, Nat.left_eq_add, Nat.add_eq_left, (psh_0 hp), (psh_1 hp), (psh_2 hp), (psh_3 hp), (psh_4 hp), (psh_5 hp), (psh_6 hp), (psh_7 hp), (psh_8 hp), (psh_9 hp), (psh_10 hp), (psh_11 hp), (psh_12 hp), (psh_13 hp), (psh_14 hp), (psh_15 hp), (prf_1 hp), (prf_2 hp), (prf_3 hp), (prf_4 hp), (prf_6 hp), (prf_7 hp), (prf_8 hp), (prf_10 hp), (prf_11 hp), (prf_12 hp), (prf_13 hp), (prf_15 hp), (prf_17 hp), (prf_18 hp), (prf_19 hp), Nat.add_left_cancel_iff, Nat.left_eq_add, Nat.add_eq_left, hv, x1, e4, zvi_4_7, e3, nI_clamp (n := c) (by omega), zN10, zN01, not_true_eq_false, not_false_eq_true, false_implies, true_implies, implies_true, eq_self, nI_1, nI_40, nI_7, vz0, vz1, zb1_e0, zb1_n0]
  have k1 : zKpt (zFB B) I (zu I (B + 3) c (V 3 c + 1)) := zKpt_rfl.u (by unfold zFB; omega)
  have f1 : zFC B (zu I (B + 3) c (V 3 c + 1)) (pCh P) (oWet false c V) := by
    obtain ⟨a1, a2, a3, a4, a5⟩ := hC.hF
    have o1 : ∀ y x, oCnt (oWet false c V) y x (pCh P) = oCnt V y x (pCh P) := fun y x => by unfold oCnt; simp [oWet_at]
    have o2 : oStk (oWet false c V) (pCh P) = oStk V (pCh P) := by unfold oStk; simp [oWet_at]
    refine ⟨?_, ?_, fun q hq => ?_, fun q hq => ?_, ?_⟩
    · rw [vCu3 hc4, a1]; rfl
    · simp [zu_at]; exact a2
    · simp [zu_at]; rw [o1]; exact a3 q hq
    · simp [zu_at]; rw [o1]; exact a4 q hq
    · simp [zu_at]; rw [o2]; exact a5
  have hr : oRain false (pR P 102 8) c V = if V 3 c + 1 < pR P 102 8 then zu (oOff c (oWet false c V)) 1 c 1 else zu (oLose c (oWet false c V)) 8 6 (V 8 6 + 1) := by rw [oRain, if_pos (Or.inl h1)]; rfl
  have hok := oOk_rain (nw := false) hc4 hC.ok
  have ho := oOk_1 hC.ok hc4 h1
  rw [hr] at hQ hok
  refine ⟨fun h => ?_, fun h => ?_⟩
  · rw [if_pos h] at hQ hok
    have e : zu (oOff c (oWet false c V)) 1 c 1 = oWet false c V := by
      funext i d
      simp only [zu_at, oOff_at, oWet_at]
      grind
    rw [e] at hQ hok
    exact hQ _ k1 (zCw_u hC k1 f1 hok)
  · rw [if_neg h] at hQ hok
    refine z_cV0 (M' := mX2_lose) (R' := rX2_lose) (i := B) [.int (nI c)] [] eX2_lose k8_114 (by decide +kernel : decode cX8_wet 39 = .ok (.invokevirtual 114, 3)) (Nat.le_of_ble_eq_true rfl) ⟨Nat.le_of_ble_eq_true rfl, Nat.le_of_ble_eq_true rfl, Nat.le_of_ble_eq_true rfl, Nat.le_of_ble_eq_true rfl, Nat.le_of_ble_eq_true rfl⟩ rfl rfl rfl (fsh_0 hB) ?_
    refine zXM_lose hB hc hch hC.np f1 ?_ h1 ho.1 ho.2 (fun I2 k2 f2 => ?_)
    · obtain ⟨-, hq, -⟩ := oOk_front hC.ok hc4 (Or.inl h1)
      exact hq
    refine zBlkR (M := mX8_wet) (nL := 2) (rt := (Option.none : Option Jvm.ClassFile.FieldType)) (blk := bX8_wet_42) (T := []) 0 hX8_wet_42 zChks_nil rfl rfl rfl (Nat.le_of_ble_eq_true rfl) (Nat.le_of_ble_eq_true rfl) ?_
    simp only [bX8_wet_42, zRun_cons, zRun_nil, zLk, zSto, zIns, zFil, zf0, zf1, zf2, zf3, List.filter_cons, List.filter_nil, Nat.reduceAdd, Nat.reduceEqDiff, Nat.reduceLT, Nat.reduceLeDiff, Nat.reduceBEq, Nat.reduceBNe, reduceIte, if_true, if_false, Bool.false_and, Bool.true_and, Bool.and_true, Bool.and_false, Bool.not_false, Bool.not_true, Bool.false_eq_true, beq_self_eq_true, BEq.rfl, zCat1, zCat2, zCat3, zKdI, zKdL, zKdR, true_and, and_true, zSI, zSL, zSR, zu_at, and_self, and_false, false_and, lv_args, zKdZ, zKdO, zB01, zB11, Option.toList_none, Option.toList_some, List.nil_append, List.cons_append, true_or, or_true, zRow_rd, zu_rd, zo_aload_n, zo_getfield, zo_bipush, zo_dup2, zo_dup2_2, zo_iaload, zo_iconst, zo_iadd, zo_iastore, zo_return_, zb_6, zi_1, zKd_8_0, zKd_2_7, sh_37, rf_37_0, sh_10, sh_40, rf_40_0, sh_19, rf_10_7, sh_18, rf_19_7, sh_27, sh_28, rf_28_7, sh_36, zcl_6, zcl_1, zvi_6_7, zvi_1_7, zKn_0, (wsh_0 hW), (wsh_1 hW), (wsh_2 hW), (wsh_3 hW), (wrf_0 hW), (wrf_1 hW), (wrf_2 hW), (wrf_3 hW), (wrf_4 hW), Nat.add_left_cancel_iff, Nat.left_eq_add, Nat.add_eq_left, (fsh_0 hB), (fsh_1 hB), (fsh_2 hB), (fsh_3 hB), (fsh_4 hB), (fsh_5 hB), (fsh_6 hB), (fsh_7 hB), (fsh_8 hB), (frf_0 hB), (frf_1 hB), (frf_2 hB), (frf_3 hB), (frf_4 hB), (frf_5 hB), (frf_6 hB), (frf_7 hB), Nat.add_left_cancel_iff, Nat.left_eq_add, Nat.add_eq_left, zvi_6_7, f2.v8 (c := 6) (by omega), zN10, zN01, not_true_eq_false, not_false_eq_true, false_implies, true_implies, implies_true, eq_self, nI_1, nI_40, nI_7, vz0, vz1, zb1_e0, zb1_n0]
    have e6 : oLose c (oWet false c V) 8 6 = V 8 6 := by simp [oLose_at, oOff_at, oWet_at]
    have k3 : zKpt (zFB B) I (zu I2 (B + 8) 6 (oLose c (oWet false c V) 8 6 + 1)) := (k1.trans k2).u (by unfold zFB; omega)
    refine hQ _ k3 (zCw_u hC k3 ?_ hok)
    obtain ⟨a1, a2, a3, a4, a5⟩ := f2
    refine ⟨?_, ?_, fun q hq => ?_, fun q hq => ?_, ?_⟩
    · rw [vC_u8 (by omega), a1, e6]
    · simp [zu_at]; exact a2
    · simp [zu_at]; exact a3 q hq
    · simp [zu_at]; exact a4 q hq
    · simp [zu_at]; exact a5
end ZW64
