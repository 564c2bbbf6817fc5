-- needs: 47
/-! ===== THE REFERENCE: lawOf ===== -/
section ZMP
variable {w : zP} {Q : Option Value → zMem → Prop} {I V : Nat → Nat → Int32} {L : Nat → Nat → Int64} {p s : Nat} {r : Option Nat} {b c ch np : Nat} {wm : Int32}
/-- a row of knots that is a law -/
def zLawR (I : Nat → Nat → Int32) (wh F T : Nat) : Prop := I 105 wh = nI F ∧ I 106 wh = nI T ∧ F < T ∧ T ≤ 64 ∧ jPos (I 107) (I 108) (I 109) F (T - F) = some [T - 1] ∧ ∀ i, F ≤ i → i < T → I 107 i = 1 → vp_in (I 108 i) 8
/-- what a law's value means for isError and the answer -/
def zLawA (o : Option Int64) (e : Bool) (x : Int64) : Prop := (o = none → e = true ∧ x = 0) ∧ ∀ v, o = some v → e = false ∧ x = v
def zErrS (i k : Nat) : Prop := i = 87 ∧ k = 54
def zErrL (i k : Nat) : Prop := i = 112 ∨ i = 113
set_option maxRecDepth 20000 in
theorem mo_law130 {wh F T : Nat} {nm : Nat → Int64} {v2 v3 v4 : Int32} (hwh : wh < 3) (hR : zLawR I wh F T) (hE : I 87 54 = 0) (hnm : ∀ j, j < 8 → L 112 j = nm j) (hQ : ∀ I' L' x e, zKpt zErrS I I' → zKpt zErrL L L' → I' 87 54 = zb1 e → zLawA (jLaw nm (I 107) (I 108) F T) e x → Q (some (.long x)) (SH, I', L', RF p s r)) : zX w mX10_lawOf rX10_lawOf Q 0 0 130 [(0, Value.ref 87), (1, Value.int (nI wh)), (2, Value.int v2), (3, Value.int v3), (4, Value.int v4), (5, Value.int (nI F))] [] (SH, I, L, RF p s r) := by
  obtain ⟨hF, hT, hFT, hT64, hP, hN⟩ := hR
  have hjr : ∀ n, n ≤ T - F → jRun (L 112) (I 107) (I 108) F n = jRun nm (I 107) (I 108) F n := fun n hn => jRun_congr (fun i h1 h2 h3 => by
    have := vp_in_iff.mp (hN i h1 (by omega) h3)
    refine hnm _ ?_
    show (I 108 i).toInt.toNat < 8
    omega)
  have key := zLoop (n := T - F) (P := fun n => ∀ J K e, zKpt zErrS I J → zKpt zErrL L K → K 112 = L 112 → J 87 54 = zb1 e → jInv (L 112) (K 113) (I 107) (I 108) (I 109) F n e → zX w mX10_lawOf rX10_lawOf Q 0 0 130 [(0, Value.ref 87), (1, Value.int (nI wh)), (2, Value.int v2), (3, Value.int v3), (4, Value.int v4), (5, Value.int (nI (F + n)))] [] (SH, J, K, RF p s r)) (fun n hn ih => ?_) 0 (Nat.zero_le _) I L false zKpt_rfl zKpt_rfl rfl hE jInv_0
  · exact key
  intro J K e hJ hK hK2 he hInv
  have g : ∀ i k, i ≠ 87 → J i k = I i k := fun i k h => hJ i k (fun q => h q.1)
  have g7 : J 107 = I 107 := funext fun k => g 107 k (by decide)
  have g8 : J 108 = I 108 := funext fun k => g 108 k (by decide)
  have g9 : J 109 = I 109 := funext fun k => g 109 k (by decide)
  have hv6 : vp_in (nI wh) 6 := zvn (by omega) (by omega)
  refine zBlkR (M := mX10_lawOf) (nL := 6) (rt := (Option.some .long)) (blk := bX10_lawOf_130) (T := [(160, bX10_lawOf_160), (171, bX10_lawOf_171), (184, bX10_lawOf_184)]) 2 hX10_lawOf_130 (zChks_cons hX10_lawOf_160 (zChks_cons hX10_lawOf_171 (zChks_cons hX10_lawOf_184 zChks_nil))) rfl rfl rfl (Nat.le_of_ble_eq_true rfl) (Nat.le_of_ble_eq_true rfl) ?_
  simp only [bX10_lawOf_130, bX10_lawOf_160, bX10_lawOf_171, bX10_lawOf_184, zRun_cons, zRun_nil, zLk, zSto, zIns, zFil, zf0, zf1, zf2, zf3, List.filter_cons, List.filter_nil, Nat.reduceAdd, Nat.reduceEqDiff, Nat.reduceLT, Nat.reduceLeDiff, Nat.reduceBEq, Nat.reduceBNe, reduceIte, if_true, if_false, Bool.false_and, Bool.true_and, Bool.and_true, Bool.and_false, Bool.not_false, Bool.not_true, Bool.false_eq_true, beq_self_eq_true, BEq.rfl, zCat1, zCat2, zCat3, zKdI, zKdL, zKdR, true_and, and_true, zSI, zSL, zSR, zu_at, and_self, and_false, false_and, lv_args, zKdZ, zKdO, zB01, zB11, Option.toList_none, Option.toList_some, List.nil_append, List.cons_append, true_or, or_true, zRow_rd, zu_rd, zo_iload, zo_aload_n, zo_getfield, zo_iload_n, zo_iaload, zo_icmp_ge, zo_if_eq, zo_lconst, zo_goto, zo_iconst, zo_isub, zo_laload, zo_lreturn, zl_0, zi_1, zKd_10_40, zKd_10_53, zKd_10_54, sh_87, rf_87_40, sh_106, rf_87_53, sh_113, zcl_1, zvi_1_6, zvi_1_64, zKn_s, zKn_0, zFind, hv6, zCat2, he, nI_clamp (n := wh) (by omega), g 106 wh (by decide), hT, zN10, zN01, not_true_eq_false, not_false_eq_true, false_implies, true_implies, implies_true, eq_self, nI_1, nI_40, nI_7, vz0, vz1, zb1_e0, zb1_n0]
  simp only [zle_nat (a := T) (b := F + n) (by omega) (by omega)]
  refine ⟨fun h => ?_, fun h => ?_⟩
  · have hn2 : n = T - F := by omega
    subst hn2
    have hres : ∀ x, (e = true → x = 0) → (e = false → x = K 113 (T - 1)) → Q (some (.long x)) (SH, J, K, RF p s r) := by
      intro x hx1 hx2
      refine hQ J K x e hJ hK he ?_
      obtain ⟨S, hS, q1, q2⟩ := hInv
      rw [hP] at hS
      cases hS
      unfold zLawA jLaw
      rw [← hjr _ (Nat.le_refl _)]
      cases e with
      | true => rw [q2 rfl]; exact ⟨fun _ => ⟨rfl, hx1 rfl⟩, fun v h => by cases h⟩
      | false =>
        rw [q1 rfl]
        refine ⟨fun h => (by cases h), fun v hv => ⟨rfl, ?_⟩⟩
        rw [hx2 rfl]
        simpa using hv
    have e1 : nI T - 1 = nI (T - 1) := by
      have : T = (T - 1) + 1 := by omega
      rw [this, nI_pred]; simp
    rw [e1, nI_clamp (n := T - 1) (by omega)]
    refine ⟨fun h0 => ⟨zvn (by omega) (by omega), hres _ (fun q => by rw [q] at h0; cases h0) (fun _ => rfl)⟩, fun h0 => hres _ (fun _ => rfl) (fun q => absurd q h0)⟩
  · obtain ⟨S, hS⟩ := jPos_part hP (m := n + 1) (by omega)
    obtain ⟨a1, a2⟩ := jPos_in hS (by omega)
    refine z_cV0 (M' := mX10_valueOf) (R' := rX10_valueOf) (i := 87) [.int (nI (F + n))] [.int (nI (F + n)), .ref 113] eX10_valueOf k10_448 (by decide +kernel : decode cX10_lawOf 150 = .ok (.invokevirtual 448, 3)) (Nat.le_of_ble_eq_true rfl) ⟨Nat.le_of_ble_eq_true rfl, Nat.le_of_ble_eq_true rfl, Nat.le_of_ble_eq_true rfl, Nat.le_of_ble_eq_true rfl, Nat.le_of_ble_eq_true rfl⟩ rfl rfl rfl sh_87 ?_
    refine mo_valueOf (e := e) (by omega) he (by rw [g7, g8]; exact hN _ (by omega) (by omega)) (by rw [g7, g8]; exact a1) (by rw [g7, g9]; exact a2) ?_
    intro x e' x1 x2 x3
    rw [g7, g8, g9, hK2] at x2 x3
    refine zBlkR (M := mX10_lawOf) (nL := 6) (rt := (Option.some .long)) (blk := bX10_lawOf_153) (T := []) 0 hX10_lawOf_153 zChks_nil rfl rfl rfl (Nat.le_of_ble_eq_true rfl) (Nat.le_of_ble_eq_true rfl) ?_
    simp only [bX10_lawOf_153, zRun_cons, zRun_nil, zLk, zSto, zIns, zFil, zf0, zf1, zf2, zf3, List.filter_cons, List.filter_nil, Nat.reduceAdd, Nat.reduceEqDiff, Nat.reduceLT, Nat.reduceLeDiff, Nat.reduceBEq, Nat.reduceBNe, reduceIte, if_true, if_false, Bool.false_and, Bool.true_and, Bool.and_true, Bool.and_false, Bool.not_false, Bool.not_true, Bool.false_eq_true, beq_self_eq_true, BEq.rfl, zCat1, zCat2, zCat3, zKdI, zKdL, zKdR, true_and, and_true, zSI, zSL, zSR, zu_at, and_self, and_false, false_and, lv_args, zKdZ, zKdO, zB01, zB11, Option.toList_none, Option.toList_some, List.nil_append, List.cons_append, true_or, or_true, zRow_rd, zu_rd, zo_lastore, zo_iinc, zo_goto, zi_1, zKn_0, zCat2, zN10, zN01, not_true_eq_false, not_false_eq_true, false_implies, true_implies, implies_true, eq_self, nI_1, nI_40, nI_7, vz0, vz1, zb1_e0, zb1_n0]
    simp only [nI_clamp (n := F + n) (by omega)]
    refine ⟨zvn (by omega) (by omega), ?_⟩
    refine ih (by omega) _ _ e' (hJ.u ⟨rfl, rfl⟩) (hK.u (Or.inr rfl)) ?_ ?_ ?_
    · rw [zu_rd, if_neg (by decide), hK2]
    · rw [zu_at]; simp
    · rw [zu_rd, if_pos rfl]
      exact jInv_s (by omega) hS hInv x1 x2 x3
/-- what else a law of the reference reads -/
def zEnvR (I : Nat → Nat → Int32) (ch ns nb : Nat) (nr nbd : Bool) : Prop := ch ≤ 40 ∧ ns ≤ 12 ∧ nb ≤ 2 ∧ I 102 1 = nI ch ∧ I 87 14 = nI ns ∧ I 87 15 = nI nb ∧ I 87 68 = zb1 nr ∧ I 87 69 = zb1 nbd
def zNmR (I : Nat → Nat → Int32) (ch ns nb : Nat) (nr nbd : Bool) (b q : Nat) (t : Int32) : Nat → Int64 := jNm (I 91 q) (I 92 q) (decide (oSky (I 96) (I 97) t ns nr = 0)) (!nbd && zAny (oMusP (I 98) (I 99) (I 100) (nI q) t) nb) (zCnt (zMany I b (nI q) 2) ch) (zCnt (zMany I b (nI q) 1) ch) (I 87 67) t
theorem zLawR_u {wh F T : Nat} {x : Int32} (h : zLawR I wh F T) : zLawR (zu I 87 54 x) wh F T := h
set_option maxRecDepth 20000 in
theorem mo_law76 {wh F T q ns nb : Nat} {nr nbd : Bool} {t : Int32} (hwh : wh < 3) (hb : b < 2) (hq : q < 10) (hE : zEnvR I ch ns nb nr nbd) (hR : zLawR I wh F T) (h0 : ∀ j, j < 4 → L 112 j = zNmR I ch ns nb nr nbd b q t j) (hQ : ∀ I' L' x e, zKpt zErrS I I' → zKpt zErrL L L' → I' 87 54 = zb1 e → zLawA (jLaw (zNmR I ch ns nb nr nbd b q t) (I 107) (I 108) F T) e x → Q (some (.long x)) (SH, I', L', RF p s r)) : zX w mX10_lawOf rX10_lawOf Q 0 0 76 [(0, Value.ref 87), (1, Value.int (nI wh)), (2, Value.int (nI b)), (3, Value.int (nI q)), (4, Value.int t)] [Value.int 2, Value.int (nI q), Value.int (nI b), Value.ref 87, Value.int 4, Value.ref 112] (SH, I, L, RF p s r) := by
  obtain ⟨hch, hns, hnb, e1, e2, e3, e4, e5⟩ := hE
  have hv6 : vp_in (nI wh) 6 := zvn (by omega) (by omega)
  refine z_cV0 (M' := mX10_manyAt) (R' := rX10_manyAt) (i := 87) [.int (nI b), .int (nI q), .int 2] [.int 4, .ref 112] eX10_manyAt k10_444 (by decide +kernel : decode cX10_lawOf 76 = .ok (.invokevirtual 444, 3)) (Nat.le_of_ble_eq_true rfl) ⟨Nat.le_of_ble_eq_true rfl, Nat.le_of_ble_eq_true rfl, Nat.le_of_ble_eq_true rfl, Nat.le_of_ble_eq_true rfl, Nat.le_of_ble_eq_true rfl⟩ rfl rfl rfl sh_87 ?_
  refine mo_manyAt hb hch e1 ?_
  refine zBlkR (M := mX10_lawOf) (nL := 6) (rt := (Option.some .long)) (blk := bX10_lawOf_79) (T := []) 0 hX10_lawOf_79 zChks_nil rfl rfl rfl (Nat.le_of_ble_eq_true rfl) (Nat.le_of_ble_eq_true rfl) ?_
  simp only [bX10_lawOf_79, zRun_cons, zRun_nil, zLk, zSto, zIns, zFil, zf0, zf1, zf2, zf3, List.filter_cons, List.filter_nil, Nat.reduceAdd, Nat.reduceEqDiff, Nat.reduceLT, Nat.reduceLeDiff, Nat.reduceBEq, Nat.reduceBNe, reduceIte, if_true, if_false, Bool.false_and, Bool.true_and, Bool.and_true, Bool.and_false, Bool.not_false, Bool.not_true, Bool.false_eq_true, beq_self_eq_true, BEq.rfl, zCat1, zCat2, zCat3, zKdI, zKdL, zKdR, true_and, and_true, zSI, zSL, zSR, zu_at, and_self, and_false, false_and, lv_args, zKdZ, zKdO, zB01, zB11, Option.toList_none, Option.toList_some, List.nil_append, List.cons_append, true_or, or_true, zRow_rd, zu_rd, zo_i2l, zo_lastore, zo_aload_n, zo_getfield, zo_iconst, zo_iload_n, zi_5, zi_1, zKd_10_52, sh_87, rf_87_52, sh_112, zcl_5, zcl_1, zvi_5_8, zvi_1_8, zKn_0, zvi_4_8, zcl_4, zCat2, zN10, zN01, not_true_eq_false, not_false_eq_true, false_implies, true_implies, implies_true, eq_self, nI_1, nI_40, nI_7, vz0, vz1, zb1_e0, zb1_n0]
  refine z_cV0 (M' := mX10_manyAt) (R' := rX10_manyAt) (i := 87) [.int (nI b), .int (nI q), .int 1] [.int 5, .ref 112] eX10_manyAt k10_444 (by decide +kernel : decode cX10_lawOf 90 = .ok (.invokevirtual 444, 3)) (Nat.le_of_ble_eq_true rfl) ⟨Nat.le_of_ble_eq_true rfl, Nat.le_of_ble_eq_true rfl, Nat.le_of_ble_eq_true rfl, Nat.le_of_ble_eq_true rfl, Nat.le_of_ble_eq_true rfl⟩ rfl rfl rfl sh_87 ?_
  refine mo_manyAt hb hch e1 ?_
  refine zBlkR (M := mX10_lawOf) (nL := 6) (rt := (Option.some .long)) (blk := bX10_lawOf_93) (T := []) 0 hX10_lawOf_93 zChks_nil rfl rfl rfl (Nat.le_of_ble_eq_true rfl) (Nat.le_of_ble_eq_true rfl) ?_
  simp only [bX10_lawOf_93, zRun_cons, zRun_nil, zLk, zSto, zIns, zFil, zf0, zf1, zf2, zf3, List.filter_cons, List.filter_nil, Nat.reduceAdd, Nat.reduceEqDiff, Nat.reduceLT, Nat.reduceLeDiff, Nat.reduceBEq, Nat.reduceBNe, reduceIte, if_true, if_false, Bool.false_and, Bool.true_and, Bool.and_true, Bool.and_false, Bool.not_false, Bool.not_true, Bool.false_eq_true, beq_self_eq_true, BEq.rfl, zCat1, zCat2, zCat3, zKdI, zKdL, zKdR, true_and, and_true, zSI, zSL, zSR, zu_at, and_self, and_false, false_and, lv_args, zKdZ, zKdO, zB01, zB11, Option.toList_none, Option.toList_some, List.nil_append, List.cons_append, true_or, or_true, zRow_rd, zu_rd, zo_i2l, zo_lastore, zo_aload_n, zo_getfield, zo_bipush, zo_iload, zo_iconst, zo_putfield, zo_putfield_2, zo_putfield_3, zo_iload_n, zo_iaload, zo_istore, zb_6, zb_7, zi_0, zKd_10_52, zKd_10_67, zKd_10_54, zTy_10_54, zKd_10_39, sh_87, rf_87_52, sh_112, zcl_6, zcl_7, zcl_0, rf_87_39, sh_105, zvi_6_8, zvi_7_8, zvi_0_6, zvi_0_8, zPutC, zKn_0, zvi_5_8, zcl_5, zCat2, hv6, nI_clamp (n := wh) (by omega), hR.1, zN10, zN01, not_true_eq_false, not_false_eq_true, false_implies, true_implies, implies_true, eq_self, nI_1, nI_40, nI_7, vz0, vz1, zb1_e0, zb1_n0]
  refine mo_law130 (nm := zNmR I ch ns nb nr nbd b q t) hwh (zLawR_u hR) (by simp [zu_at]) (fun j hj => ?_) (fun I' L' x e h1 h2 h3 h4 => ?_)
  · rw [zu_at, zu_at, zu_at, zu_at]
    by_cases j7 : j = 7
    · subst j7; simp [zNmR, jNm]
    by_cases j6 : j = 6
    · subst j6; simp [zNmR, jNm]
    by_cases j5 : j = 5
    · subst j5; simp [zNmR, jNm]
    by_cases j4 : j = 4
    · subst j4; simp [zNmR, jNm]
    simp only [j7, j6, j5, j4, and_false, if_false]
    exact h0 j (by omega)
  · refine hQ I' L' x e (fun i k hn => ?_) (fun i k hn => ?_) h3 h4
    · rw [h1 i k hn, zu_at]; exact if_neg hn
    · rw [h2 i k hn]
      have : i ≠ 112 := fun q => hn (Or.inl q)
      simp only [zu_at, this, false_and, if_false]
set_option maxRecDepth 20000 in
theorem mo_law55 {wh F T q ns nb : Nat} {nr nbd : Bool} {t : Int32} (hwh : wh < 3) (hb : b < 2) (hq : q < 10) (hE : zEnvR I ch ns nb nr nbd) (hR : zLawR I wh F T) (h0 : ∀ j, j < 3 → L 112 j = zNmR I ch ns nb nr nbd b q t j) (hQ : ∀ I' L' x e, zKpt zErrS I I' → zKpt zErrL L L' → I' 87 54 = zb1 e → zLawA (jLaw (zNmR I ch ns nb nr nbd b q t) (I 107) (I 108) F T) e x → Q (some (.long x)) (SH, I', L', RF p s r)) : zX w mX10_lawOf rX10_lawOf Q 0 0 55 [(0, Value.ref 87), (1, Value.int (nI wh)), (2, Value.int (nI b)), (3, Value.int (nI q)), (4, Value.int t)] [Value.int t, Value.int (nI q), Value.ref 87, Value.int 3, Value.ref 112] (SH, I, L, RF p s r) := by
  obtain ⟨hch, hns, hnb, e1, e2, e3, e4, e5⟩ := id hE
  refine z_cV0 (M' := mX10_isMusic) (R' := rX10_isMusic) (i := 87) [.int (nI q), .int t] [.int 3, .ref 112] eX10_isMusic k10_441 (by decide +kernel : decode cX10_lawOf 55 = .ok (.invokevirtual 441, 3)) (Nat.le_of_ble_eq_true rfl) ⟨Nat.le_of_ble_eq_true rfl, Nat.le_of_ble_eq_true rfl, Nat.le_of_ble_eq_true rfl, Nat.le_of_ble_eq_true rfl, Nat.le_of_ble_eq_true rfl⟩ rfl rfl rfl sh_87 ?_
  refine mo_isMusic hnb e3 e5 ?_
  have key : ∀ m : Int64, m = zNmR I ch ns nb nr nbd b q t 3 → zX w mX10_lawOf rX10_lawOf Q 0 0 76 [(0, Value.ref 87), (1, Value.int (nI wh)), (2, Value.int (nI b)), (3, Value.int (nI q)), (4, Value.int t)] [Value.int 2, Value.int (nI q), Value.int (nI b), Value.ref 87, Value.int 4, Value.ref 112] (SH, I, zu L 112 3 m, RF p s r) := by
    intro m hm
    refine mo_law76 hwh hb hq hE hR (fun j hj => ?_) (fun I' L' x e h1 h2 h3 h4 => hQ I' L' x e h1 (fun i k hn => ?_) h3 h4)
    · rw [zu_at]
      by_cases j3 : j = 3
      · subst j3; simpa using hm
      · rw [if_neg (fun q => j3 q.2)]
        exact h0 j (by omega)
    · rw [h2 i k hn, zu_at, if_neg (fun q => hn (Or.inl q.1))]
  refine zBlkR (M := mX10_lawOf) (nL := 6) (rt := (Option.some .long)) (blk := bX10_lawOf_58) (T := [(65, bX10_lawOf_65), (66, bX10_lawOf_66)]) 1 hX10_lawOf_58 (zChks_cons hX10_lawOf_65 (zChks_cons hX10_lawOf_66 zChks_nil)) rfl rfl rfl (Nat.le_of_ble_eq_true rfl) (Nat.le_of_ble_eq_true rfl) ?_
  simp only [bX10_lawOf_58, bX10_lawOf_65, bX10_lawOf_66, zRun_cons, zRun_nil, zLk, zSto, zIns, zFil, zf0, zf1, zf2, zf3, List.filter_cons, List.filter_nil, Nat.reduceAdd, Nat.reduceEqDiff, Nat.reduceLT, Nat.reduceLeDiff, Nat.reduceBEq, Nat.reduceBNe, reduceIte, if_true, if_false, Bool.false_and, Bool.true_and, Bool.and_true, Bool.and_false, Bool.not_false, Bool.not_true, Bool.false_eq_true, beq_self_eq_true, BEq.rfl, zCat1, zCat2, zCat3, zKdI, zKdL, zKdR, true_and, and_true, zSI, zSL, zSR, zu_at, and_self, and_false, false_and, lv_args, zKdZ, zKdO, zB01, zB11, Option.toList_none, Option.toList_some, List.nil_append, List.cons_append, true_or, or_true, zRow_rd, zu_rd, zo_if_eq, zo_lconst, zo_goto, zo_lastore, zo_aload_n, zo_getfield, zo_iconst, zo_iload_n, zl_1, zl_0, zi_4, zi_2, zKd_10_52, sh_87, rf_87_52, sh_112, zcl_4, zcl_2, zvi_4_8, zvi_2_8, zKn_s, zKn_0, zFind, zvi_3_8, zcl_3, zCat2, zN10, zN01, not_true_eq_false, not_false_eq_true, false_implies, true_implies, implies_true, eq_self, nI_1, nI_40, nI_7, vz0, vz1, zb1_e0, zb1_n0]
  refine ⟨fun h => key 0 ?_, fun h => key 1 ?_⟩
  · show (0 : Int64) = zl1 (!nbd && zAny (oMusP (I 98) (I 99) (I 100) (nI q) t) nb)
    rw [h]; rfl
  · show (1 : Int64) = zl1 (!nbd && zAny (oMusP (I 98) (I 99) (I 100) (nI q) t) nb)
    rw [show (!nbd && zAny (oMusP (I 98) (I 99) (I 100) (nI q) t) nb) = true by simpa using h]; rfl
set_option maxRecDepth 20000 in
theorem mo_lawOf {wh F T q ns nb : Nat} {nr nbd : Bool} {t : Int32} (hwh : wh < 3) (hb : b < 2) (hq : q < 10) (hE : zEnvR I ch ns nb nr nbd) (hR : zLawR I wh F T) (hQ : ∀ I' L' x e, zKpt zErrS I I' → zKpt zErrL L L' → I' 87 54 = zb1 e → zLawA (jLaw (zNmR I ch ns nb nr nbd b q t) (I 107) (I 108) F T) e x → Q (some (.long x)) (SH, I', L', RF p s r)) : zXM w mX10_lawOf rX10_lawOf [.ref 87, .int (nI wh), .int (nI b), .int (nI q), .int t] (SH, I, L, RF p s r) Q := by
  unfold zXM
  obtain ⟨hch, hns, hnb, e1, e2, e3, e4, e5⟩ := id hE
  have hv : vp_in (nI q) 10 := zvn (by omega) (by omega)
  refine zBlkR (M := mX10_lawOf) (nL := 6) (rt := (Option.some .long)) (blk := bX10_lawOf_0) (T := []) 0 hX10_lawOf_0 zChks_nil rfl rfl rfl (Nat.le_of_ble_eq_true rfl) (Nat.le_of_ble_eq_true rfl) ?_
  simp only [bX10_lawOf_0, zRun_cons, zRun_nil, zLk, zSto, zIns, zFil, zf0, zf1, zf2, zf3, List.filter_cons, List.filter_nil, Nat.reduceAdd, Nat.reduceEqDiff, Nat.reduceLT, Nat.reduceLeDiff, Nat.reduceBEq, Nat.reduceBNe, reduceIte, if_true, if_false, Bool.false_and, Bool.true_and, Bool.and_true, Bool.and_false, Bool.not_false, Bool.not_true, Bool.false_eq_true, beq_self_eq_true, BEq.rfl, zCat1, zCat2, zCat3, zKdI, zKdL, zKdR, true_and, and_true, zSI, zSL, zSR, zu_at, and_self, and_false, false_and, lv_args, zKdZ, zKdO, zB01, zB11, Option.toList_none, Option.toList_some, List.nil_append, List.cons_append, true_or, or_true, zRow_rd, zu_rd, zo_aload_n, zo_getfield, zo_iconst, zo_iload_n, zo_iaload, zo_i2l, zo_lastore, zo_iload, zi_0, zi_1, zi_2, zKd_10_52, zKd_10_25, zKd_10_26, sh_87, rf_87_52, sh_112, zcl_0, rf_87_25, sh_91, zcl_1, rf_87_26, sh_92, zcl_2, zvi_0_8, zvi_0_10, zvi_1_8, zvi_1_10, zvi_2_8, zvi_2_10, zKn_0, hv, zCat2, nI_clamp (n := q) (by omega), zN10, zN01, not_true_eq_false, not_false_eq_true, false_implies, true_implies, implies_true, eq_self, nI_1, nI_40, nI_7, vz0, vz1, zb1_e0, zb1_n0]
  refine z_cV0 (M' := mX10_skyOn) (R' := rX10_skyOn) (i := 87) [.int t] [.int 2, .ref 112] eX10_skyOn k10_438 (by decide +kernel : decode cX10_lawOf 34 = .ok (.invokevirtual 438, 3)) (Nat.le_of_ble_eq_true rfl) ⟨Nat.le_of_ble_eq_true rfl, Nat.le_of_ble_eq_true rfl, Nat.le_of_ble_eq_true rfl, Nat.le_of_ble_eq_true rfl, Nat.le_of_ble_eq_true rfl⟩ rfl rfl rfl sh_87 ?_
  refine mo_skyOn hns e2 e4 ?_
  have key : ∀ m : Int64, m = zNmR I ch ns nb nr nbd b q t 2 → zX w mX10_lawOf rX10_lawOf Q 0 0 55 [(0, Value.ref 87), (1, Value.int (nI wh)), (2, Value.int (nI b)), (3, Value.int (nI q)), (4, Value.int t)] [Value.int t, Value.int (nI q), Value.ref 87, Value.int 3, Value.ref 112] (SH, I, zu (zu (zu L 112 0 (I 91 q).toInt64) 112 1 (I 92 q).toInt64) 112 2 m, RF p s r) := by
    intro m hm
    refine mo_law55 hwh hb hq hE hR (fun j hj => ?_) (fun I' L' x e h1 h2 h3 h4 => hQ I' L' x e h1 (fun i k hn => ?_) h3 h4)
    · rw [zu_at, zu_at, zu_at]
      by_cases j2 : j = 2
      · subst j2; simpa using hm
      by_cases j1 : j = 1
      · subst j1; simp [zNmR, jNm]
      have j0 : j = 0 := by omega
      subst j0; simp [zNmR, jNm]
    · rw [h2 i k hn]
      have : i ≠ 112 := fun q => hn (Or.inl q)
      simp only [zu_at, this, false_and, if_false]
  refine zBlkR (M := mX10_lawOf) (nL := 6) (rt := (Option.some .long)) (blk := bX10_lawOf_37) (T := [(44, bX10_lawOf_44), (45, bX10_lawOf_45)]) 1 hX10_lawOf_37 (zChks_cons hX10_lawOf_44 (zChks_cons hX10_lawOf_45 zChks_nil)) rfl rfl rfl (Nat.le_of_ble_eq_true rfl) (Nat.le_of_ble_eq_true rfl) ?_
  simp only [bX10_lawOf_37, bX10_lawOf_44, bX10_lawOf_45, zRun_cons, zRun_nil, zLk, zSto, zIns, zFil, zf0, zf1, zf2, zf3, List.filter_cons, List.filter_nil, Nat.reduceAdd, Nat.reduceEqDiff, Nat.reduceLT, Nat.reduceLeDiff, Nat.reduceBEq, Nat.reduceBNe, reduceIte, if_true, if_false, Bool.false_and, Bool.true_and, Bool.and_true, Bool.and_false, Bool.not_false, Bool.not_true, Bool.false_eq_true, beq_self_eq_true, BEq.rfl, zCat1, zCat2, zCat3, zKdI, zKdL, zKdR, true_and, and_true, zSI, zSL, zSR, zu_at, and_self, and_false, false_and, lv_args, zKdZ, zKdO, zB01, zB11, Option.toList_none, Option.toList_some, List.nil_append, List.cons_append, true_or, or_true, zRow_rd, zu_rd, zo_if_ne, zo_lconst, zo_goto, zo_lastore, zo_aload_n, zo_getfield, zo_iconst, zo_iload_n, zo_iload, zl_1, zl_0, zi_3, zKd_10_52, sh_87, rf_87_52, sh_112, zcl_3, zvi_3_8, zKn_s, zKn_0, zFind, zvi_2_8, zcl_2, zCat2, zN10, zN01, not_true_eq_false, not_false_eq_true, false_implies, true_implies, implies_true, eq_self, nI_1, nI_40, nI_7, vz0, vz1, zb1_e0, zb1_n0]
  refine ⟨fun h => key 0 ?_, fun h => key 1 ?_⟩
  · show (0 : Int64) = zl1 (decide (oSky (I 96) (I 97) t ns nr = 0))
    rw [decide_eq_false h]; rfl
  · show (1 : Int64) = zl1 (decide (oSky (I 96) (I 97) t ns nr = 0))
    rw [decide_eq_true h]; rfl
end ZMP
