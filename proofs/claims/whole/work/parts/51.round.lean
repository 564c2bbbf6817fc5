-- needs: 50
/-! ===== THE REFERENCE: the boy goes round; a tick ===== -/
/-- a plan: rows (numbered as the reference's), which laws are told, where they begin and end; chairs, places, comes, skies, bands, signs, knots -/
abbrev oPn : Type := (Nat → Nat → Int32) × (Nat → Bool) × (Nat → Nat) × (Nat → Nat) × Nat × Nat × Nat × Nat × Nat × Nat × Nat
abbrev pR (P : oPn) : Nat → Nat → Int32 := P.1
abbrev pTold (P : oPn) : Nat → Bool := P.2.1
abbrev pF (P : oPn) : Nat → Nat := P.2.2.1
abbrev pT (P : oPn) : Nat → Nat := P.2.2.2.1
abbrev pCh (P : oPn) : Nat := P.2.2.2.2.1
abbrev pNp (P : oPn) : Nat := P.2.2.2.2.2.1
abbrev pNc (P : oPn) : Nat := P.2.2.2.2.2.2.1
abbrev pNs (P : oPn) : Nat := P.2.2.2.2.2.2.2.1
abbrev pNb (P : oPn) : Nat := P.2.2.2.2.2.2.2.2.1
abbrev pNg (P : oPn) : Nat := P.2.2.2.2.2.2.2.2.2.1
abbrev pNk (P : oPn) : Nat := P.2.2.2.2.2.2.2.2.2.2
/-- what a run has otherwise: price, shut, absent, no rain, no bands, no dodge, no wets, a second boy -/
abbrev oTm : Type := Int32 × Int32 × Int32 × Bool × Bool × Bool × Bool × Bool
abbrev mPr (m : oTm) : Int32 := m.1
abbrev mSh (m : oTm) : Int32 := m.2.1
abbrev mAb (m : oTm) : Int32 := m.2.2.1
abbrev mNr (m : oTm) : Bool := m.2.2.2.1
abbrev mNb (m : oTm) : Bool := m.2.2.2.2.1
abbrev mNd (m : oTm) : Bool := m.2.2.2.2.2.1
abbrev mNw (m : oTm) : Bool := m.2.2.2.2.2.2.1
abbrev m2 (m : oTm) : Bool := m.2.2.2.2.2.2.2
/-- a route: how long, from when, which places -/
abbrev oRt : Type := Nat × Nat × (Nat → Nat)
def lwP (P : oPn) (m : oTm) (t : Int32) : Nat → Nat → Nat → Nat → Option Int64 := lwJ (pR P 107) (pR P 108) (pTold P) (pF P) (pT P) (pR P 91) (pR P 92) (decide (oSky (pR P 96) (pR P 97) t (pNs P) (mNr m) = 0)) (fun q => !mNb m && zAny (oMusP (pR P 98) (pR P 99) (pR P 100) (nI q) t) (pNb P)) (mPr m) t
def pHit (P : oPn) (t : Nat) (q : Int32) : Bool := !decide (pR P 93 q.toNatClampNeg < 0) && !decide (nI t < pR P 93 q.toNatClampNeg)
def pRains (P : oPn) (m : oTm) (t : Nat) : Bool := decide (oSky (pR P 96) (pR P 97) (nI t) (pNs P) (mNr m) = 2)
/-- how many come at t, by the first k tellings -/
def oComers (f g : Nat → Int32) (ab t : Int32) : Nat → Nat
  | 0 => 0
  | k + 1 => oComers f g ab t k + if f k = t ∧ nI k ≠ ab then (g k).toNatClampNeg else 0
abbrev pComers (P : oPn) : Int32 → Int32 → Nat → Nat := oComers (pR P 94) (pR P 95)
def oCm (P : oPn) (m : oTm) (t : Nat) : (Nat → Nat → Int32) → Nat → Nat → Int32 := oCome (lwP P m (nI t)) (pTold P 0) (pR P 91) (mSh m) (pNp P) (pCh P) (nI t)
def oV1 (P : oPn) (t : Nat) (V : Nat → Nat → Int32) : Nat → Nat → Int32 := zIter (oTide (pHit P t)) (pCh P) V
def oV4 (P : oPn) (m : oTm) (t : Nat) (V : Nat → Nat → Int32) : Nat → Nat → Int32 := if pRains P m t = true then zIter (oGo (nI t)) (pCh P) (zIter (oRain (mNw m) (pR P 102 8)) (pCh P) (oV1 P t V)) else zIter (fun _ => oCm P m t) (pComers P (mAb m) (nI t) (pNc P)) (zIter (oGo (nI t)) (pCh P) (oV1 P t V))
/-- a tick -/
def oG (P : oPn) (m : oTm) (rt : oRt) (t : Nat) (S : oS) : oS := oRound (lwP P m (nI t)) (mNd m) (mPr m) (pCh P) rt.1 rt.2.1 rt.2.2 (m2 m) t (oV4 P m t S.1, S.2)
/-- a plan may be so -/
def POk (P : oPn) : Prop := pCh P ≤ 40 ∧ pNp P ≤ 5 ∧ pNc P ≤ 16 ∧ pNs P ≤ 12 ∧ pNb P ≤ 2 ∧ pR P 102 1 = nI (pCh P) ∧ zLaws (pR P) (pTold P) (pF P) (pT P) ∧ ∀ k, k < pNc P → ∃ n, n ≤ 20 ∧ pR P 95 k = nI n
def ROk (P : oPn) (rt : oRt) (t : Nat) : Prop := rt.1 ≤ 8 ∧ rt.2.1 ≤ t ∧ ∀ k, k < rt.1 → rt.2.2 k < pNp P
/-- the reference holds this plan, these terms, this route to be gone -/
def zRefP (I : Nat → Nat → Int32) (P : oPn) : Prop := (∀ i, 90 ≤ i → i ≤ 109 → I i = pR P i) ∧ I 87 12 = nI (pNp P) ∧ I 87 13 = nI (pNc P) ∧ I 87 14 = nI (pNs P) ∧ I 87 15 = nI (pNb P)
def zRefM (I : Nat → Nat → Int32) (m : oTm) (rt : oRt) : Prop := I 87 67 = mPr m ∧ I 87 72 = mSh m ∧ I 87 73 = mAb m ∧ I 87 68 = zb1 (mNr m) ∧ I 87 69 = zb1 (mNb m) ∧ I 87 70 = zb1 (mNd m) ∧ I 87 71 = zb1 (mNw m) ∧ I 87 74 = zb1 (m2 m) ∧ I 87 75 = nI rt.1 ∧ I 87 76 = nI rt.2.1 ∧ ∀ k, k < rt.1 → I 122 k = nI (rt.2.2 k)
section ZR51
variable {w : zP} {Q : Option Value → zMem → Prop} {I J V : Nat → Nat → Int32} {L : Nat → Nat → Int64} {p s : Nat} {r : Option Nat} {b c ch np ns nb : Nat} {wm : Int32} {nr nbd nd : Bool} {told : Nat → Bool} {F T : Nat → Nat} {P : oPn} {m : oTm} {rt : oRt} {S : oS}
theorem zRefP_R (h : zKpt (zFR b) I J) (hP : zRefP I P) : zRefP J P := by
  obtain ⟨h1, h2, h3, h4, h5⟩ := hP
  refine ⟨fun i a c => ?_, ?_, ?_, ?_, ?_⟩
  · by_cases e : i = 87
    · omega
    · rw [zFR_row h (by omega)]; exact h1 i a c
  · rw [zFR_87 h (by decide), h2]
  · rw [zFR_87 h (by decide), h3]
  · rw [zFR_87 h (by decide), h4]
  · rw [zFR_87 h (by decide), h5]
theorem zRefM_R (h : zKpt (zFR b) I J) (hP : zRefM I m rt) : zRefM J m rt := by
  unfold zRefM at hP ⊢
  rw [zFR_87 h (k := 67) (by decide), zFR_87 h (k := 72) (by decide), zFR_87 h (k := 73) (by decide), zFR_87 h (k := 68) (by decide), zFR_87 h (k := 69) (by decide), zFR_87 h (k := 70) (by decide), zFR_87 h (k := 71) (by decide), zFR_87 h (k := 74) (by decide), zFR_87 h (k := 75) (by decide), zFR_87 h (k := 76) (by decide), zFR_row h (i := 122) (by decide)]
  exact hP
theorem zRef_env (hO : POk P) (hP : zRefP I P) (hM : zRefM I m rt) : zEnvR I (pCh P) (pNs P) (pNb P) (mNr m) (mNb m) :=
  ⟨hO.1, hO.2.2.2.1, hO.2.2.2.2.1, by rw [hP.1 102 (by omega) (by omega)]; exact hO.2.2.2.2.2.1, hP.2.2.2.1, hP.2.2.2.2, hM.2.2.2.1, hM.2.2.2.2.1⟩
theorem zRef_laws (hO : POk P) (hP : zRefP I P) : zLaws I (pTold P) (pF P) (pT P) := by
  intro wh hwh
  have := hO.2.2.2.2.2.2.1 wh hwh
  unfold zLawR at this ⊢
  rw [hP.1 104 (by omega) (by omega), hP.1 105 (by omega) (by omega), hP.1 106 (by omega) (by omega), hP.1 107 (by omega) (by omega), hP.1 108 (by omega) (by omega), hP.1 109 (by omega) (by omega)]
  exact this
theorem zRef_lw {t : Int32} (hP : zRefP I P) (hM : zRefM I m rt) : lwR I (pNs P) (pNb P) (mNr m) (mNb m) (pTold P) (pF P) (pT P) t = lwP P m t := by
  unfold lwR lwP
  rw [hP.1 107 (by omega) (by omega), hP.1 108 (by omega) (by omega), hP.1 91 (by omega) (by omega), hP.1 92 (by omega) (by omega), hP.1 96 (by omega) (by omega), hP.1 97 (by omega) (by omega), hP.1 98 (by omega) (by omega), hP.1 99 (by omega) (by omega), hP.1 100 (by omega) (by omega), hM.1]
theorem zFRL_e {K : Nat → Nat → Int64} (h : zKpt zErrL L K) : zKpt (zFRL b) L K := h.mono (fun _ _ q => q.elim Or.inl (fun q => Or.inr (Or.inl q)))
theorem zErrL_120 {K : Nat → Nat → Int64} {k : Nat} (h : zKpt zErrL L K) : K 120 k = L 120 k := h 120 k (by unfold zErrL; omega)
set_option maxRecDepth 20000 in
theorem mo_round28 {t odds pr : Int32} {q : Nat} (hb : b < 2) (hq : q < 5) (hch : ch ≤ 40) (hI : I 102 1 = nI ch) (hpr : I 87 67 = pr) (hV : vR b I = S.1) (hd : L 120 b = S.2) (hQ : ∀ I' L', zKpt (zFR b) I I' → zKpt (zFRL b) L L' → vR b I' = (zIter (oAsk1 odds pr q) ch S).1 → L' 120 b = (zIter (oAsk1 odds pr q) ch S).2 → Q none (SH, I', L', RF p s r)) : zX w mX10_roundOn rX10_roundOn Q 0 0 28 [(0, Value.ref 87), (1, Value.int (nI b)), (2, Value.int (nI q)), (3, Value.int t), (4, Value.int odds), (5, Value.int (nI 0))] [] (SH, I, L, RF p s r) := by
  refine zLoop (n := ch) (P := fun c => ∀ J K, zKpt (zFR b) I J → zKpt (zFRL b) L K → vR b J = (zIter (oAsk1 odds pr q) c S).1 → K 120 b = (zIter (oAsk1 odds pr q) c S).2 → zX w mX10_roundOn rX10_roundOn Q 0 0 28 [(0, Value.ref 87), (1, Value.int (nI b)), (2, Value.int (nI q)), (3, Value.int t), (4, Value.int odds), (5, Value.int (nI c))] [] (SH, J, K, RF p s r)) (fun c hc ih => ?_) 0 (Nat.zero_le _) I L zKpt_rfl zKpt_rfl hV hd
  intro J K hJ hK hVJ hdK
  generalize hW : zIter (oAsk1 odds pr q) c S = W at *
  have ihW : zIter (oAsk1 odds pr q) (c + 1) S = oAsk1 odds pr q c W := by rw [zIter, hW]
  rw [ihW] at ih
  refine zBlkR (M := mX10_roundOn) (nL := 7) (rt := (Option.none : Option Jvm.ClassFile.FieldType)) (blk := bX10_roundOn_28) (T := [(83, bX10_roundOn_83), (146, bX10_roundOn_146), (185, bX10_roundOn_185), (191, bX10_roundOn_191)]) 2 hX10_roundOn_28 (zChks_cons hX10_roundOn_83 (zChks_cons hX10_roundOn_146 (zChks_cons hX10_roundOn_185 (zChks_cons hX10_roundOn_191 zChks_nil)))) rfl rfl rfl (Nat.le_of_ble_eq_true rfl) (Nat.le_of_ble_eq_true rfl) ?_
  simp only [bX10_roundOn_28, bX10_roundOn_83, bX10_roundOn_146, bX10_roundOn_185, bX10_roundOn_191, zRun_cons, zRun_nil, zLk, zSto, zIns, zFil, zf0, zf1, zf2, zf3, List.filter_cons, List.filter_nil, Nat.reduceAdd, Nat.reduceEqDiff, Nat.reduceLT, Nat.reduceLeDiff, Nat.reduceBEq, Nat.reduceBNe, reduceIte, if_true, if_false, Bool.false_and, Bool.true_and, Bool.and_true, Bool.and_false, Bool.not_false, Bool.not_true, Bool.false_eq_true, beq_self_eq_true, BEq.rfl, zCat1, zCat2, zCat3, zKdI, zKdL, zKdR, true_and, and_true, zSI, zSL, zSR, zu_at, and_self, and_false, false_and, lv_args, zKdZ, zKdO, zB01, zB11, Option.toList_none, Option.toList_some, List.nil_append, List.cons_append, true_or, or_true, zRow_rd, zu_rd, zo_iload, zo_aload_n, zo_getfield, zo_iconst, zo_iaload, zo_icmp_ge, zo_bipush, zo_iload_n, zo_imul, zo_iadd, zo_istore, zo_icmp_ne, zo_baload, zo_if_eq, zo_goto, zo_laload, zo_ldc2_w, zo_lmul, zo_ladd, zo_land, zo_lastore, zo_ldiv, zo_lrem, zo_i2l, zo_lcmp, zo_if_ge, zo_dup2, zo_dup2_2, zo_iastore, zo_bastore, zo_iinc, zo_return_, zi_1, zb_40, zi_2, zL_1103515245, zL_12345, zL_2147483647, zL_65536, zL_100, zb_7, zKd_10_36, zKd_10_57, zKd_10_58, zKd_10_61, zKd_10_63, zKd_10_62, zKd_10_67, sh_87, rf_87_36, sh_102, zcl_1, zcl_40, rf_87_57, sh_114, zcl_2, rf_87_58, sh_115, rf_87_61, sh_118, rf_87_63, sh_120, rf_87_62, sh_119, zcl_7, zvi_1_2, zvi_1_14, zvi_1_32, zvi_1_80, zvi_40_80, zvi_2_14, zvi_2_32, zvi_2_80, zvi_7_14, zvi_7_32, zvi_7_80, zKn_s, zKn_0, zFind, zCat2, lc_ge, zN10, zN01, not_true_eq_false, not_false_eq_true, false_implies, true_implies, implies_true, eq_self, nI_1, nI_40, nI_7, vz0, vz1, zb1_e0, zb1_n0]
  simp only [hJ.R (i := 102) (k := 1) (by omega), hI, zle_nat (a := ch) (b := c) (by omega) (by omega), nI_clamp (n := 40 * b + c) (by omega)]
  refine ⟨fun h => ?_, fun h => ?_⟩
  · have : c = ch := by omega
    subst this
    exact hQ _ _ hJ hK (by rw [hVJ, hW]) (by rw [hdK, hW])
  have hc4 : c < 40 := by omega
  have hv : vp_in (nI (40 * b + c)) 80 := zvn (by omega) (by omega)
  have hvb : vp_in (nI b) 2 := zvn (by omega) (by omega)
  have hv0 : vp_in (nI (7 * b + 0)) 14 := zvn (by omega) (by omega)
  have hv1 : vp_in (nI (7 * b + 1)) 14 := zvn (by omega) (by omega)
  have hv2 : vp_in (nI (7 * b + 2)) 14 := zvn (by omega) (by omega)
  have e1 : J 114 (40 * b + c) = W.1 1 c := by rw [← hVJ, vR_1 hc4]
  have e2 : J 115 (40 * b + c) = W.1 2 c := by rw [← hVJ, vR_2 hc4]
  have e5 : J 118 (40 * b + c) = W.1 5 c := by rw [← hVJ, vR_5 hc4]
  have e80 : J 119 (7 * b + 0) = W.1 8 0 := by rw [← hVJ, vR_8 (by omega)]
  have e81 : J 119 (7 * b + 1) = W.1 8 1 := by rw [← hVJ, vR_8 (by omega)]
  have e82 : J 119 (7 * b + 2) = W.1 8 2 := by rw [← hVJ, vR_8 (by omega)]
  have x70 : (7 : Int32) * nI b = nI (7 * b + 0) := by rw [show (7 : Int32) = nI 7 from rfl, pk_mul]; rfl
  have x71 : nI (7 * b + 0) + 1 = nI (7 * b + 1) := by rw [nI_1]
  have x72 : nI (7 * b + 0) + 2 = nI (7 * b + 2) := by rw [show (2 : Int32) = nI 2 from rfl, nI_add]
  simp only [hv, hvb, true_and, e1, e2, e5, nI_clamp (n := b) (by omega), hdK, x70, x71, x72, hv0, hv1, hv2, nI_clamp (n := 7 * b + 0) (by omega), nI_clamp (n := 7 * b + 1) (by omega), nI_clamp (n := 7 * b + 2) (by omega), hJ.R (i := 87) (k := 67) (by omega), hpr, e80, e81, e82]
  have n1 : (7 * b + 0 = 7 * b + 1) = False := eq_false (by omega)
  simp only [n1, and_false, if_false]
  refine ⟨fun g1 => ?_, fun g1 => ⟨fun g2 => ?_, fun g2 => ⟨fun g3 => ⟨by decide, by decide, fun g4 => ?_, fun g4 => ?_⟩, fun g3 => ?_⟩⟩⟩
  · have e : oAsk1 odds pr q c W = W := by rw [oAsk1, if_neg (fun q => g1 q.1)]
    rw [e] at ih
    exact zX.sub' (ih (by omega) J K hJ hK hVJ hdK) (by simp)
  · have e : oAsk1 odds pr q c W = W := by rw [oAsk1, if_neg (fun q => g2 q.2.1)]
    rw [e] at ih
    exact zX.sub' (ih (by omega) J K hJ hK hVJ hdK) (by simp)
  · have hh : oHit odds (oNext W.2) = false := decide_eq_false (Int64.not_lt.mpr g4)
    have e : oAsk1 odds pr q c W = (zu (zu (zu W.1 5 c 1) 8 1 (W.1 8 1 + 1)) 8 0 (W.1 8 0 + pr), oNext W.2) := by rw [oAsk1, if_pos ⟨g1, g2, g3⟩, hh]; rfl
    rw [e] at ih
    refine zX.sub' (ih (by omega) _ _ (((hJ.u ?_).u ?_).u ?_) (hK.u ?_) ?_ ?_) (by simp)
    · unfold zFR; omega
    · unfold zFR; omega
    · unfold zFR; omega
    · unfold zFRL; omega
    · rw [vR_u8 (by omega), vR_u8 (by omega), vR_u5 hc4, hVJ]
    · simp [zu_at, oNext]
  · have hh : oHit odds (oNext W.2) = true := decide_eq_true (Int64.not_le.mp g4)
    have e : oAsk1 odds pr q c W = (zu W.1 8 2 (W.1 8 2 + 1), oNext W.2) := by rw [oAsk1, if_pos ⟨g1, g2, g3⟩, hh]; rfl
    rw [e] at ih
    refine zX.sub' (ih (by omega) _ _ (hJ.u ?_) (hK.u ?_) ?_ ?_) (by simp)
    · unfold zFR; omega
    · unfold zFRL; omega
    · rw [vR_u8 (by omega), hVJ]
    · simp [zu_at, oNext]
  · have e : oAsk1 odds pr q c W = W := by rw [oAsk1, if_neg (fun q => g3 q.2.2)]
    rw [e] at ih
    exact zX.sub' (ih (by omega) J K hJ hK hVJ hdK) (by simp)
set_option maxRecDepth 20000 in
theorem mo_roundOn {t q : Nat} (hb : b < 2) (hq : q < 5) (hO : POk P) (hP : zRefP I P) (hM : zRefM I m rt) (hV : vR b I = S.1) (hd : L 120 b = S.2) (hQ : ∀ I' L', zKpt (zFR b) I I' → zKpt (zFRL b) L L' → vR b I' = (oAskAt (lwP P m (nI t)) (mNd m) (mPr m) (pCh P) q S).1 → L' 120 b = (oAskAt (lwP P m (nI t)) (mNd m) (mPr m) (pCh P) q S).2 → Q none (SH, I', L', RF p s r)) : zXM w mX10_roundOn rX10_roundOn [.ref 87, .int (nI b), .int (nI q), .int (nI t)] (SH, I, L, RF p s r) Q := by
  unfold zXM
  have hI : I 102 1 = nI (pCh P) := (zRef_env hO hP hM).2.2.2.1
  have hnd := hM.2.2.2.2.2.1
  refine zBlkR (M := mX10_roundOn) (nL := 7) (rt := (Option.none : Option Jvm.ClassFile.FieldType)) (blk := bX10_roundOn_0) (T := [(11, bX10_roundOn_11), (23, bX10_roundOn_23)]) 1 hX10_roundOn_0 (zChks_cons hX10_roundOn_11 (zChks_cons hX10_roundOn_23 zChks_nil)) rfl rfl rfl (Nat.le_of_ble_eq_true rfl) (Nat.le_of_ble_eq_true rfl) ?_
  simp only [bX10_roundOn_0, bX10_roundOn_11, bX10_roundOn_23, zRun_cons, zRun_nil, zLk, zSto, zIns, zFil, zf0, zf1, zf2, zf3, List.filter_cons, List.filter_nil, Nat.reduceAdd, Nat.reduceEqDiff, Nat.reduceLT, Nat.reduceLeDiff, Nat.reduceBEq, Nat.reduceBNe, reduceIte, if_true, if_false, Bool.false_and, Bool.true_and, Bool.and_true, Bool.and_false, Bool.not_false, Bool.not_true, Bool.false_eq_true, beq_self_eq_true, BEq.rfl, zCat1, zCat2, zCat3, zKdI, zKdL, zKdR, true_and, and_true, zSI, zSL, zSR, zu_at, and_self, and_false, false_and, lv_args, zKdZ, zKdO, zB01, zB11, Option.toList_none, Option.toList_some, List.nil_append, List.cons_append, true_or, or_true, zRow_rd, zu_rd, zo_aload_n, zo_getfield, zo_if_eq, zo_iconst, zo_goto, zo_iload_n, zo_bipush, zo_istore, zi_0, zi_2, zb_100, zKd_10_70, sh_87, zcl_0, zcl_2, zcl_100, zKn_s, zKn_0, zFind, hnd, zN10, zN01, not_true_eq_false, not_false_eq_true, false_implies, true_implies, implies_true, eq_self, nI_1, nI_40, nI_7, vz0, vz1, zb1_e0, zb1_n0]
  refine ⟨fun h => ?_, fun h => ?_⟩
  · refine z_cV0 (M' := mX10_boundLaw) (R' := rX10_boundLaw) (i := 87) [.int 2, .int (nI b), .int (nI q), .int (nI t), .int 0, .int 0, .int 100] [] eX10_boundLaw k10_469 (by decide +kernel : decode cX10_roundOn 20 = .ok (.invokevirtual 469, 3)) (Nat.le_of_ble_eq_true rfl) ⟨Nat.le_of_ble_eq_true rfl, Nat.le_of_ble_eq_true rfl, Nat.le_of_ble_eq_true rfl, Nat.le_of_ble_eq_true rfl, Nat.le_of_ble_eq_true rfl⟩ rfl rfl rfl sh_87 ?_
    refine mo_boundLaw (wh := 2) (by omega) hb (by omega) (zRef_env hO hP hM) (zRef_laws hO hP) hV (fun I1 L1 h1 h2 => ?_)
    rw [zRef_lw hP hM]
    refine zBlkR (M := mX10_roundOn) (nL := 7) (rt := (Option.none : Option Jvm.ClassFile.FieldType)) (blk := bX10_roundOn_23) (T := []) 0 hX10_roundOn_23 zChks_nil rfl rfl rfl (Nat.le_of_ble_eq_true rfl) (Nat.le_of_ble_eq_true rfl) ?_
    simp only [bX10_roundOn_23, zRun_cons, zRun_nil, zLk, zSto, zIns, zFil, zf0, zf1, zf2, zf3, List.filter_cons, List.filter_nil, Nat.reduceAdd, Nat.reduceEqDiff, Nat.reduceLT, Nat.reduceLeDiff, Nat.reduceBEq, Nat.reduceBNe, reduceIte, if_true, if_false, Bool.false_and, Bool.true_and, Bool.and_true, Bool.and_false, Bool.not_false, Bool.not_true, Bool.false_eq_true, beq_self_eq_true, BEq.rfl, zCat1, zCat2, zCat3, zKdI, zKdL, zKdR, true_and, and_true, zSI, zSL, zSR, zu_at, and_self, and_false, false_and, lv_args, zKdZ, zKdO, zB01, zB11, Option.toList_none, Option.toList_some, List.nil_append, List.cons_append, true_or, or_true, zRow_rd, zu_rd, zo_istore, zo_iconst, zi_0, zcl_0, zKn_0, zN10, zN01, not_true_eq_false, not_false_eq_true, false_implies, true_implies, implies_true, eq_self, nI_1, nI_40, nI_7, vz0, vz1, zb1_e0, zb1_n0]
    refine mo_round28 (S := S) (pr := mPr m) hb hq hO.1 (by rw [zErr_row h1 (by decide), hI]) (by rw [zErr_87 h1 (by decide)]; exact hM.1) (by rw [vR_err h1, hV]) (by rw [zErrL_120 h2, hd]) (fun I2 L2 k1 k2 k3 k4 => ?_)
    have e : oOdds (lwP P m (nI t)) (mNd m) (pCh P) q S.1 = oBL (lwP P m (nI t) 2 q (oCnt S.1 (nI q) 2 (pCh P)) (oCnt S.1 (nI q) 1 (pCh P))) 0 0 100 := by rw [oOdds, if_neg (by rw [h]; decide)]
    refine hQ I2 L2 ((zErr_FR h1).trans k1) ((zFRL_e h2).trans k2) ?_ ?_
    · rw [oAskAt, e]; exact k3
    · rw [oAskAt, e]; exact k4
  · have e : oOdds (lwP P m (nI t)) (mNd m) (pCh P) q S.1 = 0 := by rw [oOdds, if_pos (by simpa using h)]
    refine mo_round28 (S := S) hb hq hO.1 hI hM.1 hV hd (fun I2 L2 k1 k2 k3 k4 => ?_)
    refine hQ I2 L2 k1 k2 ?_ ?_
    · rw [oAskAt, e]; exact k3
    · rw [oAskAt, e]; exact k4
set_option maxRecDepth 20000 in
theorem mo_step105 {t : Nat} {x3 x4 : Int32} (hb : b < 2) (ht : t < 2 ^ 20) (hO : POk P) (hR : ROk P rt t) (hP : zRefP I P) (hM : zRefM I m rt) (hV : vR b I = S.1) (hd : L 120 b = S.2) (hQ : ∀ I' L', zKpt (zFR b) I I' → zKpt (zFRL b) L L' → vR b I' = (oRound (lwP P m (nI t)) (mNd m) (mPr m) (pCh P) rt.1 rt.2.1 rt.2.2 (m2 m) t S).1 → L' 120 b = (oRound (lwP P m (nI t)) (mNd m) (mPr m) (pCh P) rt.1 rt.2.1 rt.2.2 (m2 m) t S).2 → Q none (SH, I', L', RF p s r)) : zX w mX10_step rX10_step Q 0 0 105 [(0, Value.ref 87), (1, Value.int (nI b)), (2, Value.int (nI t)), (3, Value.int x3), (4, Value.int x4)] [] (SH, I, L, RF p s r) := by
  obtain ⟨r8, rf, rp⟩ := hR
  have h75 := hM.2.2.2.2.2.2.2.2.1
  have h76 := hM.2.2.2.2.2.2.2.2.2.1
  have h122 := hM.2.2.2.2.2.2.2.2.2.2
  have hnp := hO.2.1
  by_cases h0 : rt.1 = 0
  · have e0 : I 87 75 = 0 := by rw [h75, h0]; rfl
    refine zBlkR (M := mX10_step) (nL := 6) (rt := (Option.none : Option Jvm.ClassFile.FieldType)) (blk := bX10_step_105) (T := [(113, bX10_step_113)]) 1 hX10_step_105 (zChks_cons hX10_step_113 zChks_nil) rfl rfl rfl (Nat.le_of_ble_eq_true rfl) (Nat.le_of_ble_eq_true rfl) ?_
    simp only [bX10_step_105, bX10_step_113, zRun_cons, zRun_nil, zLk, zSto, zIns, zFil, zf0, zf1, zf2, zf3, List.filter_cons, List.filter_nil, Nat.reduceAdd, Nat.reduceEqDiff, Nat.reduceLT, Nat.reduceLeDiff, Nat.reduceBEq, Nat.reduceBNe, reduceIte, if_true, if_false, Bool.false_and, Bool.true_and, Bool.and_true, Bool.and_false, Bool.not_false, Bool.not_true, Bool.false_eq_true, beq_self_eq_true, BEq.rfl, zCat1, zCat2, zCat3, zKdI, zKdL, zKdR, true_and, and_true, zSI, zSL, zSR, zu_at, and_self, and_false, false_and, lv_args, zKdZ, zKdO, zB01, zB11, Option.toList_none, Option.toList_some, List.nil_append, List.cons_append, true_or, or_true, zRow_rd, zu_rd, zo_aload_n, zo_getfield, zo_if_ne, zo_return_, zo_iload_n, zo_isub, zo_irem, zo_istore, zo_iload, zo_iaload, zKd_10_75, zKd_10_76, zKd_10_77, sh_87, rf_87_77, sh_122, zKn_s, zKn_0, zFind, e0, zN10, zN01, not_true_eq_false, not_false_eq_true, false_implies, true_implies, implies_true, eq_self, nI_1, nI_40, nI_7, vz0, vz1, zb1_e0, zb1_n0]
    exact hQ I L zKpt_rfl zKpt_rfl (by rw [oRound, if_pos h0]; exact hV) (by rw [oRound, if_pos h0]; exact hd)
  · have e1 : ¬ nI rt.1 = 0 := nI_ne0 (by omega) (by omega)
    have hlt : (t - rt.2.1) % rt.1 < rt.1 := Nat.mod_lt _ (by omega)
    have x1 : nI t - nI rt.2.1 = nI (t - rt.2.1) := pk_sub rf
    have x2 : nI (t - rt.2.1) - nI (t - rt.2.1) / nI rt.1 * nI rt.1 = nI ((t - rt.2.1) % rt.1) := pk_rem (by omega) (by omega) (by omega)
    generalize hk : (t - rt.2.1) % rt.1 = k at *
    have hv : vp_in (nI k) 8 := zvn (by omega) (by omega)
    have e3 := h122 k (by omega)
    have hq := rp k (by omega)
    refine zBlkR (M := mX10_step) (nL := 6) (rt := (Option.none : Option Jvm.ClassFile.FieldType)) (blk := bX10_step_105) (T := [(113, bX10_step_113)]) 1 hX10_step_105 (zChks_cons hX10_step_113 zChks_nil) rfl rfl rfl (Nat.le_of_ble_eq_true rfl) (Nat.le_of_ble_eq_true rfl) ?_
    simp only [bX10_step_105, bX10_step_113, zRun_cons, zRun_nil, zLk, zSto, zIns, zFil, zf0, zf1, zf2, zf3, List.filter_cons, List.filter_nil, Nat.reduceAdd, Nat.reduceEqDiff, Nat.reduceLT, Nat.reduceLeDiff, Nat.reduceBEq, Nat.reduceBNe, reduceIte, if_true, if_false, Bool.false_and, Bool.true_and, Bool.and_true, Bool.and_false, Bool.not_false, Bool.not_true, Bool.false_eq_true, beq_self_eq_true, BEq.rfl, zCat1, zCat2, zCat3, zKdI, zKdL, zKdR, true_and, and_true, zSI, zSL, zSR, zu_at, and_self, and_false, false_and, lv_args, zKdZ, zKdO, zB01, zB11, Option.toList_none, Option.toList_some, List.nil_append, List.cons_append, true_or, or_true, zRow_rd, zu_rd, zo_aload_n, zo_getfield, zo_if_ne, zo_return_, zo_iload_n, zo_isub, zo_irem, zo_istore, zo_iload, zo_iaload, zKd_10_75, zKd_10_76, zKd_10_77, sh_87, rf_87_77, sh_122, zKn_s, zKn_0, zFind, h75, h76, e1, x1, x2, hv, e3, nI_clamp (n := k) (by omega), zN10, zN01, not_true_eq_false, not_false_eq_true, false_implies, true_implies, implies_true, eq_self, nI_1, nI_40, nI_7, vz0, vz1, zb1_e0, zb1_n0]
    refine z_cV0 (M' := mX10_roundOn) (R' := rX10_roundOn) (i := 87) [.int (nI b), .int (nI (rt.2.2 k)), .int (nI t)] [] eX10_roundOn k10_495 (by decide +kernel : decode cX10_step 136 = .ok (.invokevirtual 495, 3)) (Nat.le_of_ble_eq_true rfl) ⟨Nat.le_of_ble_eq_true rfl, Nat.le_of_ble_eq_true rfl, Nat.le_of_ble_eq_true rfl, Nat.le_of_ble_eq_true rfl, Nat.le_of_ble_eq_true rfl⟩ rfl rfl rfl sh_87 ?_
    refine mo_roundOn hb (by omega) hO hP hM hV hd (fun I1 L1 k1 k2 k3 k4 => ?_)
    have hP1 := zRefP_R k1 hP
    have hM1 := zRefM_R k1 hM
    have g75 := hM1.2.2.2.2.2.2.2.2.1
    have g74 := hM1.2.2.2.2.2.2.2.1
    have g122 := hM1.2.2.2.2.2.2.2.2.2.2
    have x3 : nI rt.1 - 1 - nI k = nI (rt.1 - 1 - k) := by rw [show (1 : Int32) = nI 1 from rfl, pk_sub (by omega), pk_sub (by omega)]
    have hv2 : vp_in (nI (rt.1 - 1 - k)) 8 := zvn (by omega) (by omega)
    have e4 := g122 (rt.1 - 1 - k) (by omega)
    have hq2 := rp (rt.1 - 1 - k) (by omega)
    refine zBlkR (M := mX10_step) (nL := 6) (rt := (Option.none : Option Jvm.ClassFile.FieldType)) (blk := bX10_step_139) (T := [(166, bX10_step_166)]) 1 hX10_step_139 (zChks_cons hX10_step_166 zChks_nil) rfl rfl rfl (Nat.le_of_ble_eq_true rfl) (Nat.le_of_ble_eq_true rfl) ?_
    simp only [bX10_step_139, bX10_step_166, zRun_cons, zRun_nil, zLk, zSto, zIns, zFil, zf0, zf1, zf2, zf3, List.filter_cons, List.filter_nil, Nat.reduceAdd, Nat.reduceEqDiff, Nat.reduceLT, Nat.reduceLeDiff, Nat.reduceBEq, Nat.reduceBNe, reduceIte, if_true, if_false, Bool.false_and, Bool.true_and, Bool.and_true, Bool.and_false, Bool.not_false, Bool.not_true, Bool.false_eq_true, beq_self_eq_true, BEq.rfl, zCat1, zCat2, zCat3, zKdI, zKdL, zKdR, true_and, and_true, zSI, zSL, zSR, zu_at, and_self, and_false, false_and, lv_args, zKdZ, zKdO, zB01, zB11, Option.toList_none, Option.toList_some, List.nil_append, List.cons_append, true_or, or_true, zRow_rd, zu_rd, zo_aload_n, zo_getfield, zo_if_eq, zo_iload_n, zo_iconst, zo_isub, zo_iload, zo_iaload, zo_return_, zi_1, zKd_10_74, zKd_10_77, zKd_10_75, sh_87, rf_87_77, sh_122, zcl_1, zvi_1_8, zKn_s, zKn_0, zFind, g75, g74, x3, hv2, e4, nI_clamp (n := rt.1 - 1 - k) (by omega), zN10, zN01, not_true_eq_false, not_false_eq_true, false_implies, true_implies, implies_true, eq_self, nI_1, nI_40, nI_7, vz0, vz1, zb1_e0, zb1_n0]
    refine ⟨fun h => ?_, fun h => ?_⟩
    · refine hQ I1 L1 k1 k2 ?_ ?_
      · rw [oRound, if_neg h0, if_neg (by rw [h]; decide), hk]; exact k3
      · rw [oRound, if_neg h0, if_neg (by rw [h]; decide), hk]; exact k4
    · have h2 : m2 m = true := by simpa using h
      refine z_cV0 (M' := mX10_roundOn) (R' := rX10_roundOn) (i := 87) [.int (nI b), .int (nI (rt.2.2 (rt.1 - 1 - k))), .int (nI t)] [] eX10_roundOn k10_495 (by decide +kernel : decode cX10_step 163 = .ok (.invokevirtual 495, 3)) (Nat.le_of_ble_eq_true rfl) ⟨Nat.le_of_ble_eq_true rfl, Nat.le_of_ble_eq_true rfl, Nat.le_of_ble_eq_true rfl, Nat.le_of_ble_eq_true rfl, Nat.le_of_ble_eq_true rfl⟩ rfl rfl rfl sh_87 ?_
      refine mo_roundOn hb (by omega) hO hP1 hM1 k3 k4 (fun I2 L2 l1 l2 l3 l4 => ?_)
      refine zBlkR (M := mX10_step) (nL := 6) (rt := (Option.none : Option Jvm.ClassFile.FieldType)) (blk := bX10_step_166) (T := []) 0 hX10_step_166 zChks_nil rfl rfl rfl (Nat.le_of_ble_eq_true rfl) (Nat.le_of_ble_eq_true rfl) ?_
      simp only [bX10_step_166, zRun_cons, zRun_nil, zLk, zSto, zIns, zFil, zf0, zf1, zf2, zf3, List.filter_cons, List.filter_nil, Nat.reduceAdd, Nat.reduceEqDiff, Nat.reduceLT, Nat.reduceLeDiff, Nat.reduceBEq, Nat.reduceBNe, reduceIte, if_true, if_false, Bool.false_and, Bool.true_and, Bool.and_true, Bool.and_false, Bool.not_false, Bool.not_true, Bool.false_eq_true, beq_self_eq_true, BEq.rfl, zCat1, zCat2, zCat3, zKdI, zKdL, zKdR, true_and, and_true, zSI, zSL, zSR, zu_at, and_self, and_false, false_and, lv_args, zKdZ, zKdO, zB01, zB11, Option.toList_none, Option.toList_some, List.nil_append, List.cons_append, true_or, or_true, zRow_rd, zu_rd, zo_return_, zKn_0, zN10, zN01, not_true_eq_false, not_false_eq_true, false_implies, true_implies, implies_true, eq_self, nI_1, nI_40, nI_7, vz0, vz1, zb1_e0, zb1_n0]
      refine hQ I2 L2 (k1.trans l1) (k2.trans l2) ?_ ?_
      · rw [oRound, if_neg h0, if_pos h2, hk]; exact l3
      · rw [oRound, if_neg h0, if_pos h2, hk]; exact l4
theorem oOk_V1 {t : Nat} (hch : pCh P ≤ 40) (h : oOk (pCh P) (pNp P) wm V) : oOk (pCh P) (pNp P) wm (oV1 P t V) := zIter_lt (N := pCh P) (fun c a h1 h => oOk_tide (by omega) h) (pCh P) V (Nat.le_refl _) h
theorem oOk_V4 {t : Nat} (hch : pCh P ≤ 40) (h : oOk (pCh P) (pNp P) (pR P 102 8) V) : oOk (pCh P) (pNp P) (pR P 102 8) (oV4 P m t V) := by
  unfold oV4
  split
  · exact zIter_ok (fun c a h => oOk_go h) _ _ (zIter_lt (N := pCh P) (fun c a h1 h => oOk_rain (by omega) h) (pCh P) _ (Nat.le_refl _) (oOk_V1 hch h))
  · exact zIter_ok (fun c a h => oOk_come h) _ _ (zIter_ok (fun c a h => oOk_go h) _ _ (oOk_V1 hch h))
theorem oOk_G {t : Nat} (hch : pCh P ≤ 40) (h : oOk (pCh P) (pNp P) (pR P 102 8) S.1) : oOk (pCh P) (pNp P) (pR P 102 8) (oG P m rt t S).1 := by
  have h4 : oOk (pCh P) (pNp P) (pR P 102 8) (oV4 P m t S.1, S.2).1 := oOk_V4 hch h
  unfold oG oRound
  split
  · exact h4
  · split
    · exact oOk_askAt (oOk_askAt h4)
    · exact oOk_askAt h4
set_option maxRecDepth 20000 in
/-- sitters come -/
theorem mo_step39 {t : Nat} {V3 : Nat → Nat → Int32} (hb : b < 2) (ht : t < 2 ^ 20) (hO : POk P) (hR : ROk P rt t) (hP : zRefP I P) (hM : zRefM I m rt) (hV : vR b I = V3) (hd : L 120 b = S.2) (hrn : pRains P m t = false) (hV4 : oV4 P m t S.1 = zIter (fun _ => oCm P m t) (pComers P (mAb m) (nI t) (pNc P)) V3) (hQ : ∀ I' L', zKpt (zFR b) I I' → zKpt (zFRL b) L L' → vR b I' = (oG P m rt t S).1 → L' 120 b = (oG P m rt t S).2 → Q none (SH, I', L', RF p s r)) : zX w mX10_step rX10_step Q 0 0 39 [(0, Value.ref 87), (1, Value.int (nI b)), (2, Value.int (nI t)), (3, Value.int 0), (4, Value.int (nI 0))] [] (SH, I, L, RF p s r) := by
  have hnc := hO.2.2.1
  refine zLoop (n := pNc P) (P := fun k => ∀ J K, zKpt (zFR b) I J → zKpt (zFRL b) L K → K 120 b = S.2 → vR b J = zIter (fun _ => oCm P m t) (pComers P (mAb m) (nI t) k) V3 → zX w mX10_step rX10_step Q 0 0 39 [(0, Value.ref 87), (1, Value.int (nI b)), (2, Value.int (nI t)), (3, Value.int 0), (4, Value.int (nI k))] [] (SH, J, K, RF p s r)) (fun k hk ih => ?_) 0 (Nat.zero_le _) I L zKpt_rfl zKpt_rfl hd hV
  intro J K hJ hK hd1 hVJ
  have hP1 := zRefP_R hJ hP
  have hM1 := zRefM_R hJ hM
  have g13 := hP1.2.2.1
  refine zBlkR (M := mX10_step) (nL := 6) (rt := (Option.none : Option Jvm.ClassFile.FieldType)) (blk := bX10_step_39) (T := []) 0 hX10_step_39 zChks_nil rfl rfl rfl (Nat.le_of_ble_eq_true rfl) (Nat.le_of_ble_eq_true rfl) ?_
  simp only [bX10_step_39, zRun_cons, zRun_nil, zLk, zSto, zIns, zFil, zf0, zf1, zf2, zf3, List.filter_cons, List.filter_nil, Nat.reduceAdd, Nat.reduceEqDiff, Nat.reduceLT, Nat.reduceLeDiff, Nat.reduceBEq, Nat.reduceBNe, reduceIte, if_true, if_false, Bool.false_and, Bool.true_and, Bool.and_true, Bool.and_false, Bool.not_false, Bool.not_true, Bool.false_eq_true, beq_self_eq_true, BEq.rfl, zCat1, zCat2, zCat3, zKdI, zKdL, zKdR, true_and, and_true, zSI, zSL, zSR, zu_at, and_self, and_false, false_and, lv_args, zKdZ, zKdO, zB01, zB11, Option.toList_none, Option.toList_some, List.nil_append, List.cons_append, true_or, or_true, zRow_rd, zu_rd, zo_iload, zo_aload_n, zo_getfield, zo_icmp_ge, zo_iload_n, zo_if_ne, zo_iconst, zo_istore, zi_0, zKd_10_13, sh_87, zcl_0, zKn_0, g13, zle_nat (a := pNc P) (b := k) (by omega) (by omega), zN10, zN01, not_true_eq_false, not_false_eq_true, false_implies, true_implies, implies_true, eq_self, nI_1, nI_40, nI_7, vz0, vz1, zb1_e0, zb1_n0]
  refine ⟨fun h => ?_, fun h => ?_⟩
  · have : k = pNc P := by omega
    subst this
    refine mo_step105 (S := (oV4 P m t S.1, S.2)) hb ht hO hR hP1 hM1 (by rw [hVJ, hV4]) hd1 (fun I2 L2 l1 l2 l3 l4 => ?_)
    exact hQ I2 L2 (hJ.trans l1) (hK.trans l2) l3 l4
  have hk2 : k < pNc P := by omega
  obtain ⟨n, hn, e95⟩ := hO.2.2.2.2.2.2.2 k hk2
  have f95 : J 95 k = nI n := by rw [hP1.1 95 (by omega) (by omega), e95]
  have f94 : J 94 k = pR P 94 k := by rw [hP1.1 94 (by omega) (by omega)]
  have g73 := hM1.2.2.1
  have hv : vp_in (nI k) 32 := zvn (by omega) (by omega)
  have ih := ih hk2
  unfold pComers at ih hVJ
  rw [oComers] at ih
  by_cases hc : pR P 94 k = nI t ∧ nI k ≠ mAb m
  · rw [if_pos hc, e95, nI_clamp (by omega)] at ih
    refine zLoop (n := n) (P := fun j => ∀ J2 K2, zKpt (zFR b) J J2 → zKpt (zFRL b) K K2 → K2 120 b = S.2 → vR b J2 = zIter (fun _ => oCm P m t) (oComers (pR P 94) (pR P 95) (mAb m) (nI t) k + j) V3 → zX w mX10_step rX10_step Q 0 0 55 [(0, Value.ref 87), (1, Value.int (nI b)), (2, Value.int (nI t)), (3, Value.int 0), (4, Value.int (nI k)), (5, Value.int (nI j))] [] (SH, J2, K2, RF p s r)) (fun j hj ih2 => ?_) 0 (Nat.zero_le _) J K zKpt_rfl zKpt_rfl hd1 hVJ
    intro J2 K2 hJ2 hK2 hd2 hVJ2
    have hP2 := zRefP_R hJ2 hP1
    have hM2 := zRefM_R hJ2 hM1
    have f95 : J2 95 k = nI n := by rw [hP2.1 95 (by omega) (by omega), e95]
    have f94 : J2 94 k = nI t := by rw [hP2.1 94 (by omega) (by omega), hc.1]
    have g73 := hM2.2.2.1
    have hc2 : (nI k = mAb m) = False := eq_false hc.2
    refine zBlkR (M := mX10_step) (nL := 6) (rt := (Option.none : Option Jvm.ClassFile.FieldType)) (blk := bX10_step_55) (T := [(99, bX10_step_99)]) 1 hX10_step_55 (zChks_cons hX10_step_99 zChks_nil) rfl rfl rfl (Nat.le_of_ble_eq_true rfl) (Nat.le_of_ble_eq_true rfl) ?_
    simp only [bX10_step_55, bX10_step_99, zRun_cons, zRun_nil, zLk, zSto, zIns, zFil, zf0, zf1, zf2, zf3, List.filter_cons, List.filter_nil, Nat.reduceAdd, Nat.reduceEqDiff, Nat.reduceLT, Nat.reduceLeDiff, Nat.reduceBEq, Nat.reduceBNe, reduceIte, if_true, if_false, Bool.false_and, Bool.true_and, Bool.and_true, Bool.and_false, Bool.not_false, Bool.not_true, Bool.false_eq_true, beq_self_eq_true, BEq.rfl, zCat1, zCat2, zCat3, zKdI, zKdL, zKdR, true_and, and_true, zSI, zSL, zSR, zu_at, and_self, and_false, false_and, lv_args, zKdZ, zKdO, zB01, zB11, Option.toList_none, Option.toList_some, List.nil_append, List.cons_append, true_or, or_true, zRow_rd, zu_rd, zo_iload, zo_aload_n, zo_getfield, zo_iaload, zo_icmp_ge, zo_iload_n, zo_icmp_ne, zo_icmp_eq, zo_iinc, zo_goto, zi_1, zKd_10_29, zKd_10_28, zKd_10_73, sh_87, rf_87_29, sh_95, rf_87_28, sh_94, zKn_s, zKn_0, zFind, hv, f95, f94, g73, hc2, nI_clamp (n := k) (by omega), zle_nat (a := n) (b := j) (by omega) (by omega), zN10, zN01, not_true_eq_false, not_false_eq_true, false_implies, true_implies, implies_true, eq_self, nI_1, nI_40, nI_7, vz0, vz1, zb1_e0, zb1_n0]
    refine ⟨fun h => ?_, fun h => ?_⟩
    · have : j = n := by omega
      subst this
      exact zX.sub' (ih J2 K2 (hJ.trans hJ2) (hK.trans hK2) hd2 hVJ2) (by simp)
    · refine z_cV0 (M' := mX10_comesOn) (R' := rX10_comesOn) (i := 87) [.int (nI b), .int (nI t)] [] eX10_comesOn k10_492 (by decide +kernel : decode cX10_step 90 = .ok (.invokevirtual 492, 3)) (Nat.le_of_ble_eq_true rfl) ⟨Nat.le_of_ble_eq_true rfl, Nat.le_of_ble_eq_true rfl, Nat.le_of_ble_eq_true rfl, Nat.le_of_ble_eq_true rfl, Nat.le_of_ble_eq_true rfl⟩ rfl rfl rfl sh_87 ?_
      refine mo_comesOn hb hO.2.1 hP2.2.1 (zRef_env hO hP2 hM2) (zRef_laws hO hP2) hVJ2 (fun I3 L3 l1 l2 l3 => ?_)
      refine zBlkR (M := mX10_step) (nL := 6) (rt := (Option.none : Option Jvm.ClassFile.FieldType)) (blk := bX10_step_93) (T := []) 0 hX10_step_93 zChks_nil rfl rfl rfl (Nat.le_of_ble_eq_true rfl) (Nat.le_of_ble_eq_true rfl) ?_
      simp only [bX10_step_93, zRun_cons, zRun_nil, zLk, zSto, zIns, zFil, zf0, zf1, zf2, zf3, List.filter_cons, List.filter_nil, Nat.reduceAdd, Nat.reduceEqDiff, Nat.reduceLT, Nat.reduceLeDiff, Nat.reduceBEq, Nat.reduceBNe, reduceIte, if_true, if_false, Bool.false_and, Bool.true_and, Bool.and_true, Bool.and_false, Bool.not_false, Bool.not_true, Bool.false_eq_true, beq_self_eq_true, BEq.rfl, zCat1, zCat2, zCat3, zKdI, zKdL, zKdR, true_and, and_true, zSI, zSL, zSR, zu_at, and_self, and_false, false_and, lv_args, zKdZ, zKdO, zB01, zB11, Option.toList_none, Option.toList_some, List.nil_append, List.cons_append, true_or, or_true, zRow_rd, zu_rd, zo_iinc, zo_goto, zi_1, zKn_0, zN10, zN01, not_true_eq_false, not_false_eq_true, false_implies, true_implies, implies_true, eq_self, nI_1, nI_40, nI_7, vz0, vz1, zb1_e0, zb1_n0]
      refine ih2 (by omega) I3 L3 (hJ2.trans l1) (hK2.trans (zFRL_e l2)) (by rw [zErrL_120 l2, hd2]) ?_
      rw [l3, zRef_lw hP2 hM2, hP2.1 91 (by omega) (by omega), hM2.2.1]
      rfl
  · rw [if_neg hc] at ih
    refine zBlkR (M := mX10_step) (nL := 6) (rt := (Option.none : Option Jvm.ClassFile.FieldType)) (blk := bX10_step_55) (T := [(99, bX10_step_99)]) 1 hX10_step_55 (zChks_cons hX10_step_99 zChks_nil) rfl rfl rfl (Nat.le_of_ble_eq_true rfl) (Nat.le_of_ble_eq_true rfl) ?_
    simp only [bX10_step_55, bX10_step_99, zRun_cons, zRun_nil, zLk, zSto, zIns, zFil, zf0, zf1, zf2, zf3, List.filter_cons, List.filter_nil, Nat.reduceAdd, Nat.reduceEqDiff, Nat.reduceLT, Nat.reduceLeDiff, Nat.reduceBEq, Nat.reduceBNe, reduceIte, if_true, if_false, Bool.false_and, Bool.true_and, Bool.and_true, Bool.and_false, Bool.not_false, Bool.not_true, Bool.false_eq_true, beq_self_eq_true, BEq.rfl, zCat1, zCat2, zCat3, zKdI, zKdL, zKdR, true_and, and_true, zSI, zSL, zSR, zu_at, and_self, and_false, false_and, lv_args, zKdZ, zKdO, zB01, zB11, Option.toList_none, Option.toList_some, List.nil_append, List.cons_append, true_or, or_true, zRow_rd, zu_rd, zo_iload, zo_aload_n, zo_getfield, zo_iaload, zo_icmp_ge, zo_iload_n, zo_icmp_ne, zo_icmp_eq, zo_iinc, zo_goto, zi_1, zKd_10_29, zKd_10_28, zKd_10_73, sh_87, rf_87_29, sh_95, rf_87_28, sh_94, zKn_s, zKn_0, zFind, hv, f95, f94, g73, nI_clamp (n := k) (by omega), zN10, zN01, not_true_eq_false, not_false_eq_true, false_implies, true_implies, implies_true, eq_self, nI_1, nI_40, nI_7, vz0, vz1, zb1_e0, zb1_n0]
    refine ⟨fun _ => zX.sub' (ih J K hJ hK hd1 hVJ) (by simp), fun _ => ⟨fun _ => zX.sub' (ih J K hJ hK hd1 hVJ) (by simp), fun q1 => ⟨fun _ => zX.sub' (ih J K hJ hK hd1 hVJ) (by simp), fun q2 => absurd ⟨q1, q2⟩ hc⟩⟩⟩
set_option maxRecDepth 20000 in
theorem mo_step {t : Nat} (hb : b < 2) (ht : t < 2 ^ 20) (hO : POk P) (hR : ROk P rt t) (hP : zRefP I P) (hM : zRefM I m rt) (hV : vR b I = S.1) (hd : L 120 b = S.2) (hok : oOk (pCh P) (pNp P) (pR P 102 8) S.1) (hQ : ∀ I' L', zKpt (zFR b) I I' → zKpt (zFRL b) L L' → vR b I' = (oG P m rt t S).1 → L' 120 b = (oG P m rt t S).2 → Q none (SH, I', L', RF p s r)) : zXM w mX10_step rX10_step [.ref 87, .int (nI b), .int (nI t)] (SH, I, L, RF p s r) Q := by
  unfold zXM
  have hI : I 102 1 = nI (pCh P) := (zRef_env hO hP hM).2.2.2.1
  refine zBlkR (M := mX10_step) (nL := 6) (rt := (Option.none : Option Jvm.ClassFile.FieldType)) (blk := bX10_step_0) (T := []) 0 hX10_step_0 zChks_nil rfl rfl rfl (Nat.le_of_ble_eq_true rfl) (Nat.le_of_ble_eq_true rfl) ?_
  simp only [bX10_step_0, zRun_cons, zRun_nil, zLk, zSto, zIns, zFil, zf0, zf1, zf2, zf3, List.filter_cons, List.filter_nil, Nat.reduceAdd, Nat.reduceEqDiff, Nat.reduceLT, Nat.reduceLeDiff, Nat.reduceBEq, Nat.reduceBNe, reduceIte, if_true, if_false, Bool.false_and, Bool.true_and, Bool.and_true, Bool.and_false, Bool.not_false, Bool.not_true, Bool.false_eq_true, beq_self_eq_true, BEq.rfl, zCat1, zCat2, zCat3, zKdI, zKdL, zKdR, true_and, and_true, zSI, zSL, zSR, zu_at, and_self, and_false, false_and, lv_args, zKdZ, zKdO, zB01, zB11, Option.toList_none, Option.toList_some, List.nil_append, List.cons_append, true_or, or_true, zRow_rd, zu_rd, zo_aload_n, zo_iload_n, zKn_0, zN10, zN01, not_true_eq_false, not_false_eq_true, false_implies, true_implies, implies_true, eq_self, nI_1, nI_40, nI_7, vz0, vz1, zb1_e0, zb1_n0]
  refine z_cV0 (M' := mX10_tideOn) (R' := rX10_tideOn) (i := 87) [.int (nI b), .int (nI t)] [] eX10_tideOn k10_483 (by decide +kernel : decode cX10_step 3 = .ok (.invokevirtual 483, 3)) (Nat.le_of_ble_eq_true rfl) ⟨Nat.le_of_ble_eq_true rfl, Nat.le_of_ble_eq_true rfl, Nat.le_of_ble_eq_true rfl, Nat.le_of_ble_eq_true rfl, Nat.le_of_ble_eq_true rfl⟩ rfl rfl rfl sh_87 ?_
  refine mo_tideOn (hit := pHit P t) (np := pNp P) (wm := pR P 102 8) hb hO.1 hO.2.1 hI (fun q hq => ?_) hV hok (fun I1 k1 v1 => ?_)
  · have := hO.2.1
    rw [pHit, nI_clamp (by omega), hP.1 93 (by omega) (by omega)]
  have v1 : vR b I1 = oV1 P t S.1 := v1
  have hP1 := zRefP_R k1 hP
  have hM1 := zRefM_R k1 hM
  have hI1 : I1 102 1 = nI (pCh P) := (zRef_env hO hP1 hM1).2.2.2.1
  refine zBlkR (M := mX10_step) (nL := 6) (rt := (Option.none : Option Jvm.ClassFile.FieldType)) (blk := bX10_step_6) (T := []) 0 hX10_step_6 zChks_nil rfl rfl rfl (Nat.le_of_ble_eq_true rfl) (Nat.le_of_ble_eq_true rfl) ?_
  simp only [bX10_step_6, zRun_cons, zRun_nil, zLk, zSto, zIns, zFil, zf0, zf1, zf2, zf3, List.filter_cons, List.filter_nil, Nat.reduceAdd, Nat.reduceEqDiff, Nat.reduceLT, Nat.reduceLeDiff, Nat.reduceBEq, Nat.reduceBNe, reduceIte, if_true, if_false, Bool.false_and, Bool.true_and, Bool.and_true, Bool.and_false, Bool.not_false, Bool.not_true, Bool.false_eq_true, beq_self_eq_true, BEq.rfl, zCat1, zCat2, zCat3, zKdI, zKdL, zKdR, true_and, and_true, zSI, zSL, zSR, zu_at, and_self, and_false, false_and, lv_args, zKdZ, zKdO, zB01, zB11, Option.toList_none, Option.toList_some, List.nil_append, List.cons_append, true_or, or_true, zRow_rd, zu_rd, zo_aload_n, zo_iload_n, zKn_0, zN10, zN01, not_true_eq_false, not_false_eq_true, false_implies, true_implies, implies_true, eq_self, nI_1, nI_40, nI_7, vz0, vz1, zb1_e0, zb1_n0]
  refine z_cV0 (M' := mX10_skyOn) (R' := rX10_skyOn) (i := 87) [.int (nI t)] [] eX10_skyOn k10_438 (by decide +kernel : decode cX10_step 8 = .ok (.invokevirtual 438, 3)) (Nat.le_of_ble_eq_true rfl) ⟨Nat.le_of_ble_eq_true rfl, Nat.le_of_ble_eq_true rfl, Nat.le_of_ble_eq_true rfl, Nat.le_of_ble_eq_true rfl, Nat.le_of_ble_eq_true rfl⟩ rfl rfl rfl sh_87 ?_
  refine mo_skyOn (ns := pNs P) (nr := mNr m) hO.2.2.2.1 hP1.2.2.2.1 hM1.2.2.2.1 ?_
  rw [hP1.1 96 (by omega) (by omega), hP1.1 97 (by omega) (by omega)]
  refine zBlkR (M := mX10_step) (nL := 6) (rt := (Option.none : Option Jvm.ClassFile.FieldType)) (blk := bX10_step_11) (T := [(19, bX10_step_19), (20, bX10_step_20), (30, bX10_step_30)]) 2 hX10_step_11 (zChks_cons hX10_step_19 (zChks_cons hX10_step_20 (zChks_cons hX10_step_30 zChks_nil))) rfl rfl rfl (Nat.le_of_ble_eq_true rfl) (Nat.le_of_ble_eq_true rfl) ?_
  simp only [bX10_step_11, bX10_step_19, bX10_step_20, bX10_step_30, zRun_cons, zRun_nil, zLk, zSto, zIns, zFil, zf0, zf1, zf2, zf3, List.filter_cons, List.filter_nil, Nat.reduceAdd, Nat.reduceEqDiff, Nat.reduceLT, Nat.reduceLeDiff, Nat.reduceBEq, Nat.reduceBNe, reduceIte, if_true, if_false, Bool.false_and, Bool.true_and, Bool.and_true, Bool.and_false, Bool.not_false, Bool.not_true, Bool.false_eq_true, beq_self_eq_true, BEq.rfl, zCat1, zCat2, zCat3, zKdI, zKdL, zKdR, true_and, and_true, zSI, zSL, zSR, zu_at, and_self, and_false, false_and, lv_args, zKdZ, zKdO, zB01, zB11, Option.toList_none, Option.toList_some, List.nil_append, List.cons_append, true_or, or_true, zRow_rd, zu_rd, zo_iconst, zo_icmp_ne, zo_goto, zo_istore_n, zo_iload_n, zo_if_eq, zo_aload_n, zi_2, zi_1, zi_0, zcl_2, zcl_1, zcl_0, zKn_s, zKn_0, zFind, zN10, zN01, not_true_eq_false, not_false_eq_true, false_implies, true_implies, implies_true, eq_self, nI_1, nI_40, nI_7, vz0, vz1, zb1_e0, zb1_n0]
  refine ⟨fun h => ?_, fun h => ?_⟩
  · have hrn : pRains P m t = false := decide_eq_false h
    refine z_cV0 (M' := mX10_goesOn) (R' := rX10_goesOn) (i := 87) [.int (nI b), .int (nI t)] [] eX10_goesOn k10_489 (by decide +kernel : decode cX10_step 33 = .ok (.invokevirtual 489, 3)) (Nat.le_of_ble_eq_true rfl) ⟨Nat.le_of_ble_eq_true rfl, Nat.le_of_ble_eq_true rfl, Nat.le_of_ble_eq_true rfl, Nat.le_of_ble_eq_true rfl, Nat.le_of_ble_eq_true rfl⟩ rfl rfl rfl sh_87 ?_
    refine mo_goesOn hb hO.1 hI1 v1 (fun I2 k2 v2 => ?_)
    refine zBlkR (M := mX10_step) (nL := 6) (rt := (Option.none : Option Jvm.ClassFile.FieldType)) (blk := bX10_step_36) (T := []) 0 hX10_step_36 zChks_nil rfl rfl rfl (Nat.le_of_ble_eq_true rfl) (Nat.le_of_ble_eq_true rfl) ?_
    simp only [bX10_step_36, zRun_cons, zRun_nil, zLk, zSto, zIns, zFil, zf0, zf1, zf2, zf3, List.filter_cons, List.filter_nil, Nat.reduceAdd, Nat.reduceEqDiff, Nat.reduceLT, Nat.reduceLeDiff, Nat.reduceBEq, Nat.reduceBNe, reduceIte, if_true, if_false, Bool.false_and, Bool.true_and, Bool.and_true, Bool.and_false, Bool.not_false, Bool.not_true, Bool.false_eq_true, beq_self_eq_true, BEq.rfl, zCat1, zCat2, zCat3, zKdI, zKdL, zKdR, true_and, and_true, zSI, zSL, zSR, zu_at, and_self, and_false, false_and, lv_args, zKdZ, zKdO, zB01, zB11, Option.toList_none, Option.toList_some, List.nil_append, List.cons_append, true_or, or_true, zRow_rd, zu_rd, zo_iconst, zo_istore, zi_0, zcl_0, zKn_0, zN10, zN01, not_true_eq_false, not_false_eq_true, false_implies, true_implies, implies_true, eq_self, nI_1, nI_40, nI_7, vz0, vz1, zb1_e0, zb1_n0]
    refine mo_step39 (S := S) (V3 := zIter (oGo (nI t)) (pCh P) (oV1 P t S.1)) hb ht hO hR (zRefP_R k2 hP1) (zRefM_R k2 hM1) v2 hd hrn (by rw [oV4, hrn]; rfl) (fun I3 L3 l1 l2 l3 l4 => ?_)
    exact hQ I3 L3 ((k1.trans k2).trans l1) l2 l3 l4
  · have hrn : pRains P m t = true := decide_eq_true h
    refine z_cV0 (M' := mX10_rainOn) (R' := rX10_rainOn) (i := 87) [.int (nI b)] [] eX10_rainOn k10_486 (by decide +kernel : decode cX10_step 27 = .ok (.invokevirtual 486, 3)) (Nat.le_of_ble_eq_true rfl) ⟨Nat.le_of_ble_eq_true rfl, Nat.le_of_ble_eq_true rfl, Nat.le_of_ble_eq_true rfl, Nat.le_of_ble_eq_true rfl, Nat.le_of_ble_eq_true rfl⟩ rfl rfl rfl sh_87 ?_
    refine mo_rainOn (wm := pR P 102 8) hb hO.1 hI1 (by rw [hP1.1 102 (by omega) (by omega)]) hM1.2.2.2.2.2.2.1 v1 (fun I2 k2 v2 => ?_)
    have hI2 : I2 102 1 = nI (pCh P) := (zRef_env hO (zRefP_R k2 hP1) (zRefM_R k2 hM1)).2.2.2.1
    refine zBlkR (M := mX10_step) (nL := 6) (rt := (Option.none : Option Jvm.ClassFile.FieldType)) (blk := bX10_step_30) (T := []) 0 hX10_step_30 zChks_nil rfl rfl rfl (Nat.le_of_ble_eq_true rfl) (Nat.le_of_ble_eq_true rfl) ?_
    simp only [bX10_step_30, zRun_cons, zRun_nil, zLk, zSto, zIns, zFil, zf0, zf1, zf2, zf3, List.filter_cons, List.filter_nil, Nat.reduceAdd, Nat.reduceEqDiff, Nat.reduceLT, Nat.reduceLeDiff, Nat.reduceBEq, Nat.reduceBNe, reduceIte, if_true, if_false, Bool.false_and, Bool.true_and, Bool.and_true, Bool.and_false, Bool.not_false, Bool.not_true, Bool.false_eq_true, beq_self_eq_true, BEq.rfl, zCat1, zCat2, zCat3, zKdI, zKdL, zKdR, true_and, and_true, zSI, zSL, zSR, zu_at, and_self, and_false, false_and, lv_args, zKdZ, zKdO, zB01, zB11, Option.toList_none, Option.toList_some, List.nil_append, List.cons_append, true_or, or_true, zRow_rd, zu_rd, zo_aload_n, zo_iload_n, zKn_0, zN10, zN01, not_true_eq_false, not_false_eq_true, false_implies, true_implies, implies_true, eq_self, nI_1, nI_40, nI_7, vz0, vz1, zb1_e0, zb1_n0]
    refine z_cV0 (M' := mX10_goesOn) (R' := rX10_goesOn) (i := 87) [.int (nI b), .int (nI t)] [] eX10_goesOn k10_489 (by decide +kernel : decode cX10_step 33 = .ok (.invokevirtual 489, 3)) (Nat.le_of_ble_eq_true rfl) ⟨Nat.le_of_ble_eq_true rfl, Nat.le_of_ble_eq_true rfl, Nat.le_of_ble_eq_true rfl, Nat.le_of_ble_eq_true rfl, Nat.le_of_ble_eq_true rfl⟩ rfl rfl rfl sh_87 ?_
    refine mo_goesOn hb hO.1 hI2 v2 (fun I3 k3 v3 => ?_)
    have hP3 := zRefP_R k3 (zRefP_R k2 hP1)
    have hM3 := zRefM_R k3 (zRefM_R k2 hM1)
    have fin : zX w mX10_step rX10_step Q 0 0 105 [(0, Value.ref 87), (1, Value.int (nI b)), (2, Value.int (nI t)), (3, Value.int 1), (4, Value.int 0)] [] (SH, I3, L, RF p s r) := by
      refine mo_step105 (S := (oV4 P m t S.1, S.2)) hb ht hO hR hP3 hM3 (by rw [v3, oV4, hrn]; rfl) hd (fun I4 L4 l1 l2 l3 l4 => ?_)
      exact hQ I4 L4 (((k1.trans k2).trans k3).trans l1) l2 l3 l4
    refine zBlkR (M := mX10_step) (nL := 6) (rt := (Option.none : Option Jvm.ClassFile.FieldType)) (blk := bX10_step_36) (T := []) 0 hX10_step_36 zChks_nil rfl rfl rfl (Nat.le_of_ble_eq_true rfl) (Nat.le_of_ble_eq_true rfl) ?_
    simp only [bX10_step_36, zRun_cons, zRun_nil, zLk, zSto, zIns, zFil, zf0, zf1, zf2, zf3, List.filter_cons, List.filter_nil, Nat.reduceAdd, Nat.reduceEqDiff, Nat.reduceLT, Nat.reduceLeDiff, Nat.reduceBEq, Nat.reduceBNe, reduceIte, if_true, if_false, Bool.false_and, Bool.true_and, Bool.and_true, Bool.and_false, Bool.not_false, Bool.not_true, Bool.false_eq_true, beq_self_eq_true, BEq.rfl, zCat1, zCat2, zCat3, zKdI, zKdL, zKdR, true_and, and_true, zSI, zSL, zSR, zu_at, and_self, and_false, false_and, lv_args, zKdZ, zKdO, zB01, zB11, Option.toList_none, Option.toList_some, List.nil_append, List.cons_append, true_or, or_true, zRow_rd, zu_rd, zo_iconst, zo_istore, zi_0, zcl_0, zKn_0, zN10, zN01, not_true_eq_false, not_false_eq_true, false_implies, true_implies, implies_true, eq_self, nI_1, nI_40, nI_7, vz0, vz1, zb1_e0, zb1_n0]
    refine zBlkR (M := mX10_step) (nL := 6) (rt := (Option.none : Option Jvm.ClassFile.FieldType)) (blk := bX10_step_39) (T := []) 0 hX10_step_39 zChks_nil rfl rfl rfl (Nat.le_of_ble_eq_true rfl) (Nat.le_of_ble_eq_true rfl) ?_
    simp only [bX10_step_39, zRun_cons, zRun_nil, zLk, zSto, zIns, zFil, zf0, zf1, zf2, zf3, List.filter_cons, List.filter_nil, Nat.reduceAdd, Nat.reduceEqDiff, Nat.reduceLT, Nat.reduceLeDiff, Nat.reduceBEq, Nat.reduceBNe, reduceIte, if_true, if_false, Bool.false_and, Bool.true_and, Bool.and_true, Bool.and_false, Bool.not_false, Bool.not_true, Bool.false_eq_true, beq_self_eq_true, BEq.rfl, zCat1, zCat2, zCat3, zKdI, zKdL, zKdR, true_and, and_true, zSI, zSL, zSR, zu_at, and_self, and_false, false_and, lv_args, zKdZ, zKdO, zB01, zB11, Option.toList_none, Option.toList_some, List.nil_append, List.cons_append, true_or, or_true, zRow_rd, zu_rd, zo_iload, zo_aload_n, zo_getfield, zo_icmp_ge, zo_iload_n, zo_if_ne, zo_iconst, zo_istore, zi_0, zKd_10_13, sh_87, zcl_0, zKn_0, zN10, zN01, not_true_eq_false, not_false_eq_true, false_implies, true_implies, implies_true, eq_self, nI_1, nI_40, nI_7, vz0, vz1, zb1_e0, zb1_n0]
    exact ⟨fun _ => fin, fun _ => fin⟩
/-- n ticks from t0 on -/
def oGs (P : oPn) (m : oTm) (rt : oRt) (t0 n : Nat) (S : oS) : oS := zIter (fun j => oG P m rt (t0 + j)) n S
def oBal (P : oPn) (V : Nat → Nat → Int32) : Int32 := V 8 0 - pR P 102 9 * V 8 5
theorem oOk_Gs {t0 n : Nat} (hch : pCh P ≤ 40) (h : oOk (pCh P) (pNp P) (pR P 102 8) S.1) : oOk (pCh P) (pNp P) (pR P 102 8) (oGs P m rt t0 n S).1 := zIter_ok (P := fun S : oS => oOk (pCh P) (pNp P) (pR P 102 8) S.1) (fun _ _ h => oOk_G hch h) n S h
theorem ROk_mono {t t' : Nat} (h : ROk P rt t) (ht : t ≤ t') : ROk P rt t' := ⟨h.1, Nat.le_trans h.2.1 ht, h.2.2⟩
set_option maxRecDepth 20000 in
theorem mo_balanceOf (hb : b < 2) (hP : zRefP I P) (hV : vR b I = V) (hQ : Q (some (.int (oBal P V))) (SH, I, L, RF p s r)) : zXM w mX10_balanceOf rX10_balanceOf [.ref 87, .int (nI b)] (SH, I, L, RF p s r) Q := by
  unfold zXM
  have x70 : (7 : Int32) * nI b = nI (7 * b + 0) := by rw [show (7 : Int32) = nI 7 from rfl, pk_mul]; rfl
  have x75 : nI (7 * b + 0) + 5 = nI (7 * b + 5) := by rw [show (5 : Int32) = nI 5 from rfl, nI_add]
  have hv0 : vp_in (nI (7 * b + 0)) 14 := zvn (by omega) (by omega)
  have hv5 : vp_in (nI (7 * b + 5)) 14 := zvn (by omega) (by omega)
  have e0 : I 119 (7 * b + 0) = V 8 0 := by rw [← hV, vR_8 (by omega)]
  have e5 : I 119 (7 * b + 5) = V 8 5 := by rw [← hV, vR_8 (by omega)]
  have e9 : I 102 9 = pR P 102 9 := by rw [hP.1 102 (by omega) (by omega)]
  refine zBlkR (M := mX10_balanceOf) (nL := 2) (rt := (Option.some .int)) (blk := bX10_balanceOf_0) (T := []) 0 hX10_balanceOf_0 zChks_nil rfl rfl rfl (Nat.le_of_ble_eq_true rfl) (Nat.le_of_ble_eq_true rfl) ?_
  simp only [bX10_balanceOf_0, zRun_cons, zRun_nil, zLk, zSto, zIns, zFil, zf0, zf1, zf2, zf3, List.filter_cons, List.filter_nil, Nat.reduceAdd, Nat.reduceEqDiff, Nat.reduceLT, Nat.reduceLeDiff, Nat.reduceBEq, Nat.reduceBNe, reduceIte, if_true, if_false, Bool.false_and, Bool.true_and, Bool.and_true, Bool.and_false, Bool.not_false, Bool.not_true, Bool.false_eq_true, beq_self_eq_true, BEq.rfl, zCat1, zCat2, zCat3, zKdI, zKdL, zKdR, true_and, and_true, zSI, zSL, zSR, zu_at, and_self, and_false, false_and, lv_args, zKdZ, zKdO, zB01, zB11, Option.toList_none, Option.toList_some, List.nil_append, List.cons_append, true_or, or_true, zRow_rd, zu_rd, zo_aload_n, zo_getfield, zo_bipush, zo_iload_n, zo_imul, zo_iaload, zo_iconst, zo_iadd, zo_isub, zo_ireturn, zb_7, zb_9, zi_5, zKd_10_62, zKd_10_36, sh_87, rf_87_62, sh_119, zcl_7, rf_87_36, sh_102, zcl_9, zcl_5, zvi_7_14, zvi_7_32, zvi_9_14, zvi_9_32, zvi_5_14, zvi_5_32, zRt, zKn_0, x70, x75, hv0, hv5, e0, e5, e9, nI_clamp (n := 7 * b + 0) (by omega), nI_clamp (n := 7 * b + 5) (by omega), zN10, zN01, not_true_eq_false, not_false_eq_true, false_implies, true_implies, implies_true, eq_self, nI_1, nI_40, nI_7, vz0, vz1, zb1_e0, zb1_n0]
  exact hQ
set_option maxRecDepth 20000 in
theorem mo_runs {t0 n : Nat} (htn : t0 + n ≤ 96) (ht : I 87 55 = nI t0) (hO : POk P) (hR : ROk P rt t0) (hP : zRefP I P) (hM : zRefM I m rt) (hV : vR 1 I = S.1) (hd : L 120 1 = S.2) (hok : oOk (pCh P) (pNp P) (pR P 102 8) S.1) (hQ : ∀ I' L', zKpt (zFR 1) I I' → zKpt (zFRL 1) L L' → vR 1 I' = (oGs P m rt t0 n S).1 → L' 120 1 = (oGs P m rt t0 n S).2 → Q (some (.int (oBal P (oGs P m rt t0 n S).1))) (SH, I', L', RF p s r)) : zXM w mX10_runs rX10_runs [.ref 87, .int (nI n)] (SH, I, L, RF p s r) Q := by
  unfold zXM
  refine zBlkR (M := mX10_runs) (nL := 3) (rt := (Option.some .int)) (blk := bX10_runs_0) (T := []) 0 hX10_runs_0 zChks_nil rfl rfl rfl (Nat.le_of_ble_eq_true rfl) (Nat.le_of_ble_eq_true rfl) ?_
  simp only [bX10_runs_0, zRun_cons, zRun_nil, zLk, zSto, zIns, zFil, zf0, zf1, zf2, zf3, List.filter_cons, List.filter_nil, Nat.reduceAdd, Nat.reduceEqDiff, Nat.reduceLT, Nat.reduceLeDiff, Nat.reduceBEq, Nat.reduceBNe, reduceIte, if_true, if_false, Bool.false_and, Bool.true_and, Bool.and_true, Bool.and_false, Bool.not_false, Bool.not_true, Bool.false_eq_true, beq_self_eq_true, BEq.rfl, zCat1, zCat2, zCat3, zKdI, zKdL, zKdR, true_and, and_true, zSI, zSL, zSR, zu_at, and_self, and_false, false_and, lv_args, zKdZ, zKdO, zB01, zB11, Option.toList_none, Option.toList_some, List.nil_append, List.cons_append, true_or, or_true, zRow_rd, zu_rd, zo_aload_n, zo_getfield, zo_istore_n, zKd_10_55, sh_87, zKn_0, ht, zN10, zN01, not_true_eq_false, not_false_eq_true, false_implies, true_implies, implies_true, eq_self, nI_1, nI_40, nI_7, vz0, vz1, zb1_e0, zb1_n0]
  refine zLoop (n := n) (P := fun j => ∀ J K, zKpt (zFR 1) I J → zKpt (zFRL 1) L K → vR 1 J = (oGs P m rt t0 j S).1 → K 120 1 = (oGs P m rt t0 j S).2 → zX w mX10_runs rX10_runs Q 0 0 5 [(0, Value.ref 87), (1, Value.int (nI n)), (2, Value.int (nI (t0 + j)))] [] (SH, J, K, RF p s r)) (fun j hj ih => ?_) 0 (Nat.zero_le _) I L zKpt_rfl zKpt_rfl hV hd
  intro J K hJ hK hVJ hdK
  have hP1 := zRefP_R hJ hP
  have hM1 := zRefM_R hJ hM
  have ht1 : J 87 55 = nI t0 := by rw [zFR_87 hJ (by decide), ht]
  refine zBlkR (M := mX10_runs) (nL := 3) (rt := (Option.some .int)) (blk := bX10_runs_5) (T := [(27, bX10_runs_27)]) 1 hX10_runs_5 (zChks_cons hX10_runs_27 zChks_nil) rfl rfl rfl (Nat.le_of_ble_eq_true rfl) (Nat.le_of_ble_eq_true rfl) ?_
  simp only [bX10_runs_5, bX10_runs_27, zRun_cons, zRun_nil, zLk, zSto, zIns, zFil, zf0, zf1, zf2, zf3, List.filter_cons, List.filter_nil, Nat.reduceAdd, Nat.reduceEqDiff, Nat.reduceLT, Nat.reduceLeDiff, Nat.reduceBEq, Nat.reduceBNe, reduceIte, if_true, if_false, Bool.false_and, Bool.true_and, Bool.and_true, Bool.and_false, Bool.not_false, Bool.not_true, Bool.false_eq_true, beq_self_eq_true, BEq.rfl, zCat1, zCat2, zCat3, zKdI, zKdL, zKdR, true_and, and_true, zSI, zSL, zSR, zu_at, and_self, and_false, false_and, lv_args, zKdZ, zKdO, zB01, zB11, Option.toList_none, Option.toList_some, List.nil_append, List.cons_append, true_or, or_true, zRow_rd, zu_rd, zo_iload_n, zo_aload_n, zo_getfield, zo_iadd, zo_icmp_ge, zo_iconst, zi_1, zKd_10_55, sh_87, zcl_1, zKn_s, zKn_0, zFind, ht1, nI_add, zle_nat (a := t0 + n) (b := t0 + j) (by omega) (by omega), zN10, zN01, not_true_eq_false, not_false_eq_true, false_implies, true_implies, implies_true, eq_self, nI_1, nI_40, nI_7, vz0, vz1, zb1_e0, zb1_n0]
  refine ⟨fun h => ?_, fun h => ?_⟩
  · have : j = n := by omega
    subst this
    refine z_cV0 (M' := mX10_balanceOf) (R' := rX10_balanceOf) (i := 87) [.int 1] [] eX10_balanceOf k10_501 (by decide +kernel : decode cX10_runs 29 = .ok (.invokevirtual 501, 3)) (Nat.le_of_ble_eq_true rfl) ⟨Nat.le_of_ble_eq_true rfl, Nat.le_of_ble_eq_true rfl, Nat.le_of_ble_eq_true rfl, Nat.le_of_ble_eq_true rfl, Nat.le_of_ble_eq_true rfl⟩ rfl rfl rfl sh_87 ?_
    refine mo_balanceOf (b := 1) (by omega) hP1 hVJ ?_
    refine zBlkR (M := mX10_runs) (nL := 3) (rt := (Option.some .int)) (blk := bX10_runs_32) (T := []) 0 hX10_runs_32 zChks_nil rfl rfl rfl (Nat.le_of_ble_eq_true rfl) (Nat.le_of_ble_eq_true rfl) ?_
    simp only [bX10_runs_32, zRun_cons, zRun_nil, zLk, zSto, zIns, zFil, zf0, zf1, zf2, zf3, List.filter_cons, List.filter_nil, Nat.reduceAdd, Nat.reduceEqDiff, Nat.reduceLT, Nat.reduceLeDiff, Nat.reduceBEq, Nat.reduceBNe, reduceIte, if_true, if_false, Bool.false_and, Bool.true_and, Bool.and_true, Bool.and_false, Bool.not_false, Bool.not_true, Bool.false_eq_true, beq_self_eq_true, BEq.rfl, zCat1, zCat2, zCat3, zKdI, zKdL, zKdR, true_and, and_true, zSI, zSL, zSR, zu_at, and_self, and_false, false_and, lv_args, zKdZ, zKdO, zB01, zB11, Option.toList_none, Option.toList_some, List.nil_append, List.cons_append, true_or, or_true, zRow_rd, zu_rd, zo_ireturn, zRt, zKn_0, zN10, zN01, not_true_eq_false, not_false_eq_true, false_implies, true_implies, implies_true, eq_self, nI_1, nI_40, nI_7, vz0, vz1, zb1_e0, zb1_n0]
    exact hQ J K hJ hK hVJ hdK
  · refine z_cV0 (M' := mX10_step) (R' := rX10_step) (i := 87) [.int 1, .int (nI (t0 + j))] [] eX10_step k10_498 (by decide +kernel : decode cX10_runs 18 = .ok (.invokevirtual 498, 3)) (Nat.le_of_ble_eq_true rfl) ⟨Nat.le_of_ble_eq_true rfl, Nat.le_of_ble_eq_true rfl, Nat.le_of_ble_eq_true rfl, Nat.le_of_ble_eq_true rfl, Nat.le_of_ble_eq_true rfl⟩ rfl rfl rfl sh_87 ?_
    refine mo_step (b := 1) (S := oGs P m rt t0 j S) (by omega) (by omega) hO (ROk_mono hR (by omega)) hP1 hM1 hVJ hdK (oOk_Gs hO.1 hok) (fun I2 L2 l1 l2 l3 l4 => ?_)
    refine zBlkR (M := mX10_runs) (nL := 3) (rt := (Option.some .int)) (blk := bX10_runs_21) (T := []) 0 hX10_runs_21 zChks_nil rfl rfl rfl (Nat.le_of_ble_eq_true rfl) (Nat.le_of_ble_eq_true rfl) ?_
    simp only [bX10_runs_21, zRun_cons, zRun_nil, zLk, zSto, zIns, zFil, zf0, zf1, zf2, zf3, List.filter_cons, List.filter_nil, Nat.reduceAdd, Nat.reduceEqDiff, Nat.reduceLT, Nat.reduceLeDiff, Nat.reduceBEq, Nat.reduceBNe, reduceIte, if_true, if_false, Bool.false_and, Bool.true_and, Bool.and_true, Bool.and_false, Bool.not_false, Bool.not_true, Bool.false_eq_true, beq_self_eq_true, BEq.rfl, zCat1, zCat2, zCat3, zKdI, zKdL, zKdR, true_and, and_true, zSI, zSL, zSR, zu_at, and_self, and_false, false_and, lv_args, zKdZ, zKdO, zB01, zB11, Option.toList_none, Option.toList_some, List.nil_append, List.cons_append, true_or, or_true, zRow_rd, zu_rd, zo_iinc, zo_goto, zi_1, zKn_0, nI_1, zN10, zN01, not_true_eq_false, not_false_eq_true, false_implies, true_implies, implies_true, eq_self, nI_1, nI_40, nI_7, vz0, vz1, zb1_e0, zb1_n0]
    exact ih (by omega) I2 L2 (hJ.trans l1) (hK.trans l2) l3 l4
end ZR51
