-- needs: 44 48
/-! ===== THE REFERENCE: where sitters go ===== -/
/-- a law's value at a place -/
def lwJ (K A : Nat → Int32) (told : Nat → Bool) (F T : Nat → Nat) (vw fr : Nat → Int32) (sun : Bool) (mus : Nat → Bool) (pr t : Int32) (wh q tk fe : Nat) : Option Int64 := if told wh = true then jLaw (jNm (vw q) (fr q) sun (mus q) tk fe pr t) K A (F wh) (T wh) else none
def oBL (o : Option Int64) (wo lo hi : Int32) : Int32 := match o with
  | none => wo
  | some v => if v < lo.toInt64 then lo else if hi.toInt64 < v then hi else v.toInt32
def oCnt (V : Nat → Nat → Int32) (q what : Int32) (n : Nat) : Nat := zCnt (fun c => V 1 c == what && V 2 c == q) n
def oBest (op : Nat → Bool) (wth : Nat → Int64) : Nat → Option (Nat × Int64)
  | 0 => none
  | n + 1 => if op n = true then (match oBest op wth n with
    | none => some (n, wth n)
    | some q => if q.2 < wth n then some (n, wth n) else some q) else oBest op wth n
def oBI (o : Option (Nat × Int64)) : Int32 := match o with
  | none => -1
  | some q => nI q.1
def oBM (o : Option (Nat × Int64)) : Int64 := match o with
  | none => 0
  | some q => q.2
section ZMB
variable {w : zP} {Q : Option Value → zMem → Prop} {I J V : Nat → Nat → Int32} {L : Nat → Nat → Int64} {p s : Nat} {r : Option Nat} {b c ch np ns nb : Nat} {wm : Int32} {nr nbd : Bool} {told : Nat → Bool} {F T : Nat → Nat}
def zLaws (I : Nat → Nat → Int32) (told : Nat → Bool) (F T : Nat → Nat) : Prop := ∀ wh, wh < 3 → I 104 wh = zb1 (told wh) ∧ (told wh = true → zLawR I wh (F wh) (T wh))
/-- the reference's own value of a law -/
def lwR (I : Nat → Nat → Int32) (ns nb : Nat) (nr nbd : Bool) (told : Nat → Bool) (F T : Nat → Nat) (t : Int32) : Nat → Nat → Nat → Nat → Option Int64 := lwJ (I 107) (I 108) told F T (I 91) (I 92) (decide (oSky (I 96) (I 97) t ns nr = 0)) (fun q => !nbd && zAny (oMusP (I 98) (I 99) (I 100) (nI q) t) nb) (I 87 67) t
theorem zErr_row {i : Nat} (h : zKpt zErrS I J) (hi : i ≠ 87) : J i = I i := funext fun k => h i k (fun q => hi q.1)
theorem zErr_87 {k : Nat} (h : zKpt zErrS I J) (hi : k ≠ 54) : J 87 k = I 87 k := h 87 k (fun q => hi q.2)
theorem zCnt_congr {P P' : Nat → Bool} : ∀ {n : Nat}, (∀ c, c < n → P c = P' c) → zCnt P n = zCnt P' n
  | 0, _ => rfl
  | n + 1, h => by rw [zCnt, zCnt, zCnt_congr (fun c hc => h c (by omega)), h n (by omega)]
theorem nI_nn {q : Nat} (hq : q < 2 ^ 31) : ¬ nI q < 0 := by
  have : (0 : Int32) = nI 0 := rfl
  rw [this, zlt_nat hq (by omega)]
  omega
theorem zMany_V {q : Nat} {what : Int32} (hV : vR b I = V) (hch : ch ≤ 40) (hq : q < 2 ^ 31) : zCnt (zMany I b (nI q) what) ch = oCnt V (nI q) what ch := by
  refine zCnt_congr (fun c hc => ?_)
  rw [zMany, ← hV, vR_1 (by omega), vR_2 (by omega), decide_eq_false (nI_nn hq), Bool.false_or]
theorem zNmR_eq {q : Nat} {t : Int32} (hV : vR b I = V) (hch : ch ≤ 40) (hq : q < 2 ^ 31) : zNmR I ch ns nb nr nbd b q t = jNm (I 91 q) (I 92 q) (decide (oSky (I 96) (I 97) t ns nr = 0)) (!nbd && zAny (oMusP (I 98) (I 99) (I 100) (nI q) t) nb) (oCnt V (nI q) 2 ch) (oCnt V (nI q) 1 ch) (I 87 67) t := by
  rw [zNmR, zMany_V hV hch hq, zMany_V hV hch hq]
theorem zEnvR_err (h : zKpt zErrS I J) (hE : zEnvR I ch ns nb nr nbd) : zEnvR J ch ns nb nr nbd := by
  obtain ⟨a, b, c, e1, e2, e3, e4, e5⟩ := hE
  refine ⟨a, b, c, ?_, ?_, ?_, ?_, ?_⟩
  · rw [zErr_row h (by decide), e1]
  · rw [zErr_87 h (by decide), e2]
  · rw [zErr_87 h (by decide), e3]
  · rw [zErr_87 h (by decide), e4]
  · rw [zErr_87 h (by decide), e5]
theorem zLaws_err (h : zKpt zErrS I J) (hE : zLaws I told F T) : zLaws J told F T := by
  intro wh hwh
  have := hE wh hwh
  unfold zLawR at this ⊢
  rw [zErr_row h (i := 104) (by decide), zErr_row h (i := 105) (by decide), zErr_row h (i := 106) (by decide), zErr_row h (i := 107) (by decide), zErr_row h (i := 108) (by decide), zErr_row h (i := 109) (by decide)]
  exact this
theorem lwR_err {t : Int32} (h : zKpt zErrS I J) : lwR J ns nb nr nbd told F T t = lwR I ns nb nr nbd told F T t := by
  unfold lwR
  rw [zErr_row h (i := 107) (by decide), zErr_row h (i := 108) (by decide), zErr_row h (i := 91) (by decide), zErr_row h (i := 92) (by decide), zErr_row h (i := 96) (by decide), zErr_row h (i := 97) (by decide), zErr_row h (i := 98) (by decide), zErr_row h (i := 99) (by decide), zErr_row h (i := 100) (by decide), zErr_87 h (k := 67) (by decide)]
theorem vR_err (h : zKpt zErrS I J) : vR b J = vR b I := by
  unfold vR
  congr 1
  funext i c
  split
  · rw [zErr_row h (by decide)]
  · by_cases hi : 113 + i = 87
    · omega
    · rw [zErr_row h hi]
set_option maxRecDepth 20000 in
theorem mo_boundLaw {wh q : Nat} {t wo lo hi : Int32} (hwh : wh < 3) (hb : b < 2) (hq : q < 10) (hE : zEnvR I ch ns nb nr nbd) (hL : zLaws I told F T) (hV : vR b I = V) (hQ : ∀ I' L', zKpt zErrS I I' → zKpt zErrL L L' → Q (some (.int (oBL (lwR I ns nb nr nbd told F T t wh q (oCnt V (nI q) 2 ch) (oCnt V (nI q) 1 ch)) wo lo hi))) (SH, I', L', RF p s r)) : zXM w mX10_boundLaw rX10_boundLaw [.ref 87, .int (nI wh), .int (nI b), .int (nI q), .int t, .int wo, .int lo, .int hi] (SH, I, L, RF p s r) Q := by
  unfold zXM
  have hv6 : vp_in (nI wh) 6 := zvn (by omega) (by omega)
  have h104 := (hL wh hwh).1
  refine zBlkR (M := mX10_boundLaw) (nL := 10) (rt := (Option.some .int)) (blk := bX10_boundLaw_0) (T := [(12, bX10_boundLaw_12)]) 1 hX10_boundLaw_0 (zChks_cons hX10_boundLaw_12 zChks_nil) rfl rfl rfl (Nat.le_of_ble_eq_true rfl) (Nat.le_of_ble_eq_true rfl) ?_
  simp only [bX10_boundLaw_0, bX10_boundLaw_12, zRun_cons, zRun_nil, zLk, zSto, zIns, zFil, zf0, zf1, zf2, zf3, List.filter_cons, List.filter_nil, Nat.reduceAdd, Nat.reduceEqDiff, Nat.reduceLT, Nat.reduceLeDiff, Nat.reduceBEq, Nat.reduceBNe, reduceIte, if_true, if_false, Bool.false_and, Bool.true_and, Bool.and_true, Bool.and_false, Bool.not_false, Bool.not_true, Bool.false_eq_true, beq_self_eq_true, BEq.rfl, zCat1, zCat2, zCat3, zKdI, zKdL, zKdR, true_and, and_true, zSI, zSL, zSR, zu_at, and_self, and_false, false_and, lv_args, zKdZ, zKdO, zB01, zB11, Option.toList_none, Option.toList_some, List.nil_append, List.cons_append, true_or, or_true, zRow_rd, zu_rd, zo_aload_n, zo_getfield, zo_iload_n, zo_baload, zo_if_ne, zo_iload, zo_ireturn, zKd_10_38, sh_87, rf_87_38, sh_104, zRt, zKn_s, zKn_0, zFind, hv6, zCat2, nI_clamp (n := wh) (by omega), h104, zN10, zN01, not_true_eq_false, not_false_eq_true, false_implies, true_implies, implies_true, eq_self, nI_1, nI_40, nI_7, vz0, vz1, zb1_e0, zb1_n0]
  refine ⟨fun h => ?_, fun h => ?_⟩
  · have ht : told wh = true := by simpa using h
    refine z_cV0 (M' := mX10_lawOf) (R' := rX10_lawOf) (i := 87) [.int (nI wh), .int (nI b), .int (nI q), .int t] [] eX10_lawOf k10_452 (by decide +kernel : decode cX10_boundLaw 18 = .ok (.invokevirtual 452, 3)) (Nat.le_of_ble_eq_true rfl) ⟨Nat.le_of_ble_eq_true rfl, Nat.le_of_ble_eq_true rfl, Nat.le_of_ble_eq_true rfl, Nat.le_of_ble_eq_true rfl, Nat.le_of_ble_eq_true rfl⟩ rfl rfl rfl sh_87 ?_
    refine mo_lawOf hwh hb hq hE ((hL wh hwh).2 ht) (fun I' L' x e h1 h2 h3 h4 => ?_)
    have hQ := hQ I' L' h1 h2
    unfold lwR lwJ at hQ
    rw [if_pos ht] at hQ
    rw [zNmR_eq hV hE.1 (by omega)] at h4
    refine zBlkR (M := mX10_boundLaw) (nL := 10) (rt := (Option.some .int)) (blk := bX10_boundLaw_21) (T := [(35, bX10_boundLaw_35), (49, bX10_boundLaw_49), (63, bX10_boundLaw_63), (66, bX10_boundLaw_66)]) 3 hX10_boundLaw_21 (zChks_cons hX10_boundLaw_35 (zChks_cons hX10_boundLaw_49 (zChks_cons hX10_boundLaw_63 (zChks_cons hX10_boundLaw_66 zChks_nil)))) rfl rfl rfl (Nat.le_of_ble_eq_true rfl) (Nat.le_of_ble_eq_true rfl) ?_
    simp only [bX10_boundLaw_21, bX10_boundLaw_35, bX10_boundLaw_49, bX10_boundLaw_63, bX10_boundLaw_66, zRun_cons, zRun_nil, zLk, zSto, zIns, zFil, zf0, zf1, zf2, zf3, List.filter_cons, List.filter_nil, Nat.reduceAdd, Nat.reduceEqDiff, Nat.reduceLT, Nat.reduceLeDiff, Nat.reduceBEq, Nat.reduceBNe, reduceIte, if_true, if_false, Bool.false_and, Bool.true_and, Bool.and_true, Bool.and_false, Bool.not_false, Bool.not_true, Bool.false_eq_true, beq_self_eq_true, BEq.rfl, zCat1, zCat2, zCat3, zKdI, zKdL, zKdR, true_and, and_true, zSI, zSL, zSR, zu_at, and_self, and_false, false_and, lv_args, zKdZ, zKdO, zB01, zB11, Option.toList_none, Option.toList_some, List.nil_append, List.cons_append, true_or, or_true, zRow_rd, zu_rd, zo_lstore, zo_aload_n, zo_getfield, zo_if_eq, zo_iload, zo_goto, zo_lload, zo_i2l, zo_lcmp, zo_if_ge, zo_if_le, zo_l2i, zo_ireturn, zKd_10_54, sh_87, zRt, zKn_s, zKn_0, zFind, zCat2, lc_ge, lc_le, h3, zN10, zN01, not_true_eq_false, not_false_eq_true, false_implies, true_implies, implies_true, eq_self, nI_1, nI_40, nI_7, vz0, vz1, zb1_e0, zb1_n0]
    generalize jLaw _ _ _ _ _ = o at h4 hQ
    cases o with
    | none =>
      obtain ⟨rfl, rfl⟩ := h4.1 rfl
      exact ⟨fun q => (by cases q), fun _ => hQ⟩
    | some v =>
      obtain ⟨rfl, rfl⟩ := h4.2 v rfl
      simp only [oBL] at hQ
      refine ⟨fun _ => ⟨fun g => ⟨fun g2 => ?_, fun g2 => ?_⟩, fun g => ?_⟩, fun q => absurd rfl q⟩
      · rw [if_neg (Int64.not_lt.mpr g), if_neg (Int64.not_lt.mpr g2)] at hQ
        exact hQ
      · rw [if_neg (Int64.not_lt.mpr g), if_pos (Int64.not_le.mp g2)] at hQ
        exact hQ
      · rw [if_pos (Int64.not_le.mp g)] at hQ
        exact hQ
  · have hQ := hQ I L zKpt_rfl zKpt_rfl
    unfold lwR lwJ at hQ
    rw [if_neg (by rw [h]; decide)] at hQ
    exact hQ
/-- what a place is worth -/
def oWth (lw : Nat → Nat → Nat → Nat → Option Int64) (told0 : Bool) (vw : Nat → Int32) (q tk fe : Nat) : Int64 := if told0 = true then (lw 0 q tk fe).getD 0 else (vw q).toInt64
def oOpen (V : Nat → Nat → Int32) (sh : Int32) (ch q : Nat) : Bool := !(nI q == sh) && !(oCnt V (nI q) 1 ch == 0)
def oWthV (lw : Nat → Nat → Nat → Nat → Option Int64) (told0 : Bool) (vw : Nat → Int32) (ch : Nat) (V : Nat → Nat → Int32) (q : Nat) : Int64 := oWth lw told0 vw q (oCnt V (nI q) 2 ch) (oCnt V (nI q) 1 ch)
theorem oBest_n {op : Nat → Bool} {wth : Nat → Int64} {n : Nat} (h : op n = false) : oBest op wth (n + 1) = oBest op wth n := by rw [oBest, if_neg (by rw [h]; decide)]
theorem oBest_y {op : Nat → Bool} {wth : Nat → Int64} {n : Nat} (h : op n = true) (h2 : oBI (oBest op wth n) < 0 ∨ oBM (oBest op wth n) < wth n) (h3 : ∀ q, oBest op wth n = some q → q.1 < n) (hn : n < 2 ^ 31) : oBest op wth (n + 1) = some (n, wth n) := by
  rw [oBest, if_pos h]
  cases ho : oBest op wth n with
  | none => rfl
  | some q =>
    rw [ho] at h2
    have := h3 q ho
    rcases h2 with h2 | h2
    · exact absurd h2 (nI_nn (by omega))
    · exact if_pos h2
theorem oBest_k {op : Nat → Bool} {wth : Nat → Int64} {n : Nat} (h2 : ¬ oBI (oBest op wth n) < 0) (h4 : ¬ oBM (oBest op wth n) < wth n) : oBest op wth (n + 1) = oBest op wth n := by
  rw [oBest]
  split
  · cases ho : oBest op wth n with
    | none => rw [ho] at h2; exact absurd (by decide) h2
    | some q => rw [ho] at h4; exact if_neg h4
  · rfl
theorem oBest_lt {op : Nat → Bool} {wth : Nat → Int64} : ∀ {n : Nat} {q : Nat × Int64}, oBest op wth n = some q → q.1 < n ∧ op q.1 = true ∧ q.2 = wth q.1
  | 0, q, h => by cases h
  | n + 1, q, h => by
    rw [oBest] at h
    split at h
    · rename_i ho
      split at h
      · cases h; exact ⟨Nat.lt_succ_self _, ho, rfl⟩
      · rename_i q2 h2
        have := oBest_lt h2
        split at h
        · cases h; exact ⟨Nat.lt_succ_self _, ho, rfl⟩
        · cases h; exact ⟨Nat.lt_succ_of_lt this.1, this.2⟩
    · have := oBest_lt h
      exact ⟨Nat.lt_succ_of_lt this.1, this.2⟩
set_option maxRecDepth 20000 in
theorem mo_best86 {q : Nat} {t : Int32} {v : Int64} {J : Nat → Nat → Int32} {K : Nat → Nat → Int64} {o o' : Option (Nat × Int64)} (hq : q < 5) (h1 : oBI o < 0 ∨ oBM o < v → o' = some (q, v)) (h2 : ¬ oBI o < 0 → ¬ oBM o < v → o' = o) (ih : zX w mX10_bestPlace rX10_bestPlace Q 0 0 8 [(0, Value.ref 87), (1, Value.int (nI b)), (2, Value.int t), (3, Value.int (oBI o')), (4, Value.long (oBM o')), (6, Value.int (nI (q + 1)))] [] (SH, J, K, RF p s r)) :
    (oBI o < 0 → zX w mX10_bestPlace rX10_bestPlace Q 0 0 8 [(0, Value.ref 87), (1, Value.int (nI b)), (2, Value.int t), (3, Value.int (nI q)), (4, Value.long v), (6, Value.int (nI (q + 1))), (7, Value.long v)] [] (SH, J, K, RF p s r)) ∧ (¬ oBI o < 0 → (oBM o < v → zX w mX10_bestPlace rX10_bestPlace Q 0 0 8 [(0, Value.ref 87), (1, Value.int (nI b)), (2, Value.int t), (3, Value.int (nI q)), (4, Value.long v), (6, Value.int (nI (q + 1))), (7, Value.long v)] [] (SH, J, K, RF p s r)) ∧ (¬ oBM o < v → zX w mX10_bestPlace rX10_bestPlace Q 0 0 8 [(0, Value.ref 87), (1, Value.int (nI b)), (2, Value.int t), (3, Value.int (oBI o)), (4, Value.long (oBM o)), (6, Value.int (nI (q + 1))), (7, Value.long v)] [] (SH, J, K, RF p s r))) := by
  have hy : (oBI o < 0 ∨ oBM o < v) → zX w mX10_bestPlace rX10_bestPlace Q 0 0 8 [(0, Value.ref 87), (1, Value.int (nI b)), (2, Value.int t), (3, Value.int (nI q)), (4, Value.long v), (6, Value.int (nI (q + 1))), (7, Value.long v)] [] (SH, J, K, RF p s r) := by
    intro h
    rw [h1 h] at ih
    exact zX.sub' ih (by simp [oBI, oBM])
  refine ⟨fun h => hy (Or.inl h), fun h => ⟨fun h3 => hy (Or.inr h3), fun h3 => ?_⟩⟩
  rw [h2 h h3] at ih
  exact zX.sub' ih (by simp)
set_option maxRecDepth 20000 in
theorem mo_bestPlace {t : Int32} (hb : b < 2) (hnp : np ≤ 5) (h12 : I 87 12 = nI np) (hE : zEnvR I ch ns nb nr nbd) (hL : zLaws I told F T) (hV : vR b I = V) (hQ : ∀ I' L', zKpt zErrS I I' → zKpt zErrL L L' → Q (some (.int (oBI (oBest (oOpen V (I 87 72) ch) (oWthV (lwR I ns nb nr nbd told F T t) (told 0) (I 91) ch V) np)))) (SH, I', L', RF p s r)) : zXM w mX10_bestPlace rX10_bestPlace [.ref 87, .int (nI b), .int t] (SH, I, L, RF p s r) Q := by
  unfold zXM
  refine zBlkR (M := mX10_bestPlace) (nL := 9) (rt := (Option.some .int)) (blk := bX10_bestPlace_0) (T := []) 0 hX10_bestPlace_0 zChks_nil rfl rfl rfl (Nat.le_of_ble_eq_true rfl) (Nat.le_of_ble_eq_true rfl) ?_
  simp only [bX10_bestPlace_0, zRun_cons, zRun_nil, zLk, zSto, zIns, zFil, zf0, zf1, zf2, zf3, List.filter_cons, List.filter_nil, Nat.reduceAdd, Nat.reduceEqDiff, Nat.reduceLT, Nat.reduceLeDiff, Nat.reduceBEq, Nat.reduceBNe, reduceIte, if_true, if_false, Bool.false_and, Bool.true_and, Bool.and_true, Bool.and_false, Bool.not_false, Bool.not_true, Bool.false_eq_true, beq_self_eq_true, BEq.rfl, zCat1, zCat2, zCat3, zKdI, zKdL, zKdR, true_and, and_true, zSI, zSL, zSR, zu_at, and_self, and_false, false_and, lv_args, zKdZ, zKdO, zB01, zB11, Option.toList_none, Option.toList_some, List.nil_append, List.cons_append, true_or, or_true, zRow_rd, zu_rd, zo_iconst, zo_istore_n, zo_lconst, zo_lstore, zo_istore, zi_m1, zl_0, zi_0, zcl_0, zKn_0, zCat2, zN10, zN01, not_true_eq_false, not_false_eq_true, false_implies, true_implies, implies_true, eq_self, nI_1, nI_40, nI_7, vz0, vz1, zb1_e0, zb1_n0]
  generalize hop : oOpen V (I 87 72) ch = op at hQ
  generalize hwt : oWthV (lwR I ns nb nr nbd told F T t) (told 0) (I 91) ch V = wt at hQ
  refine zLoop (n := np) (P := fun q => ∀ J K, zKpt zErrS I J → zKpt zErrL L K → zX w mX10_bestPlace rX10_bestPlace Q 0 0 8 [(0, Value.ref 87), (1, Value.int (nI b)), (2, Value.int t), (3, Value.int (oBI (oBest op wt q))), (4, Value.long (oBM (oBest op wt q))), (6, Value.int (nI q))] [] (SH, J, K, RF p s r)) (fun q hq ih => ?_) 0 (Nat.zero_le _) I L zKpt_rfl zKpt_rfl
  intro J K hJ hK
  refine zBlkR (M := mX10_bestPlace) (nL := 9) (rt := (Option.some .int)) (blk := bX10_bestPlace_8) (T := [(93, bX10_bestPlace_93), (99, bX10_bestPlace_99)]) 1 hX10_bestPlace_8 (zChks_cons hX10_bestPlace_93 (zChks_cons hX10_bestPlace_99 zChks_nil)) rfl rfl rfl (Nat.le_of_ble_eq_true rfl) (Nat.le_of_ble_eq_true rfl) ?_
  simp only [bX10_bestPlace_8, bX10_bestPlace_93, bX10_bestPlace_99, zRun_cons, zRun_nil, zLk, zSto, zIns, zFil, zf0, zf1, zf2, zf3, List.filter_cons, List.filter_nil, Nat.reduceAdd, Nat.reduceEqDiff, Nat.reduceLT, Nat.reduceLeDiff, Nat.reduceBEq, Nat.reduceBNe, reduceIte, if_true, if_false, Bool.false_and, Bool.true_and, Bool.and_true, Bool.and_false, Bool.not_false, Bool.not_true, Bool.false_eq_true, beq_self_eq_true, BEq.rfl, zCat1, zCat2, zCat3, zKdI, zKdL, zKdR, true_and, and_true, zSI, zSL, zSR, zu_at, and_self, and_false, false_and, lv_args, zKdZ, zKdO, zB01, zB11, Option.toList_none, Option.toList_some, List.nil_append, List.cons_append, true_or, or_true, zRow_rd, zu_rd, zo_iload, zo_aload_n, zo_getfield, zo_icmp_ge, zo_icmp_eq, zo_iload_n, zo_iconst, zo_iinc, zo_goto, zo_ireturn, zi_1, zKd_10_12, zKd_10_72, sh_87, zcl_1, zRt, zKn_s, zKn_0, zFind, zCat2, zErr_87 hJ (k := 12) (by decide), h12, zErr_87 hJ (k := 72) (by decide), zN10, zN01, not_true_eq_false, not_false_eq_true, false_implies, true_implies, implies_true, eq_self, nI_1, nI_40, nI_7, vz0, vz1, zb1_e0, zb1_n0]
  simp only [zle_nat (a := np) (b := q) (by omega) (by omega)]
  refine ⟨fun h => ?_, fun h => ⟨fun h2 => ?_, fun h2 => ?_⟩⟩
  · have : q = np := by omega
    subst this
    exact hQ J K hJ hK
  · have : op q = false := by rw [← hop, oOpen, h2]; simp
    have ih := ih (by omega) J K hJ hK
    rw [oBest_n this] at ih
    exact ih
  · have hVJ : vR b J = V := by rw [vR_err hJ, hV]
    have hE2 := zEnvR_err hJ hE
    refine z_cV0 (M' := mX10_manyAt) (R' := rX10_manyAt) (i := 87) [.int (nI b), .int (nI q), .int 1] [] eX10_manyAt k10_444 (by decide +kernel : decode cX10_bestPlace 31 = .ok (.invokevirtual 444, 3)) (Nat.le_of_ble_eq_true rfl) ⟨Nat.le_of_ble_eq_true rfl, Nat.le_of_ble_eq_true rfl, Nat.le_of_ble_eq_true rfl, Nat.le_of_ble_eq_true rfl, Nat.le_of_ble_eq_true rfl⟩ rfl rfl rfl sh_87 ?_
    refine mo_manyAt hb hE2.1 hE2.2.2.2.1 ?_
    rw [zMany_V hVJ hE.1 (by omega)]
    have hcl : oCnt V (nI q) 1 ch ≤ ch := zCnt_le _ _
    have hch := hE.1
    have e0 : (nI (oCnt V (nI q) 1 ch) = 0) = (oCnt V (nI q) 1 ch = 0) := by rw [show (0 : Int32) = nI 0 from rfl, zeq_nat (by omega) (by omega)]
    have h104 : J 104 0 = zb1 (told 0) := by rw [zErr_row hJ (by decide)]; exact (hL 0 (by omega)).1
    have hv : vp_in (nI q) 10 := zvn (by omega) (by omega)
    refine zBlkR (M := mX10_bestPlace) (nL := 9) (rt := (Option.some .int)) (blk := bX10_bestPlace_34) (T := [(40, bX10_bestPlace_40), (61, bX10_bestPlace_61), (86, bX10_bestPlace_86), (93, bX10_bestPlace_93)]) 3 hX10_bestPlace_34 (zChks_cons hX10_bestPlace_40 (zChks_cons hX10_bestPlace_61 (zChks_cons hX10_bestPlace_86 (zChks_cons hX10_bestPlace_93 zChks_nil)))) rfl rfl rfl (Nat.le_of_ble_eq_true rfl) (Nat.le_of_ble_eq_true rfl) ?_
    simp only [bX10_bestPlace_34, bX10_bestPlace_40, bX10_bestPlace_61, bX10_bestPlace_86, bX10_bestPlace_93, zRun_cons, zRun_nil, zLk, zSto, zIns, zFil, zf0, zf1, zf2, zf3, List.filter_cons, List.filter_nil, Nat.reduceAdd, Nat.reduceEqDiff, Nat.reduceLT, Nat.reduceLeDiff, Nat.reduceBEq, Nat.reduceBNe, reduceIte, if_true, if_false, Bool.false_and, Bool.true_and, Bool.and_true, Bool.and_false, Bool.not_false, Bool.not_true, Bool.false_eq_true, beq_self_eq_true, BEq.rfl, zCat1, zCat2, zCat3, zKdI, zKdL, zKdR, true_and, and_true, zSI, zSL, zSR, zu_at, and_self, and_false, false_and, lv_args, zKdZ, zKdO, zB01, zB11, Option.toList_none, Option.toList_some, List.nil_append, List.cons_append, true_or, or_true, zRow_rd, zu_rd, zo_if_ne, zo_goto, zo_aload_n, zo_getfield, zo_iconst, zo_baload, zo_if_eq, zo_iload_n, zo_iload, zo_iaload, zo_i2l, zo_lstore, zo_if_lt, zo_lload, zo_lcmp, zo_if_gt, zo_istore_n, zo_iinc, zi_0, zi_1, zKd_10_38, zKd_10_25, sh_87, rf_87_38, sh_104, zcl_0, rf_87_25, sh_91, zvi_0_6, zvi_0_10, zKn_s, zKn_0, zFind, zCat2, e0, h104, lc_gt, hv, nI_clamp (n := q) (by omega), zErr_row hJ (i := 91) (by decide), zN10, zN01, not_true_eq_false, not_false_eq_true, false_implies, true_implies, implies_true, eq_self, nI_1, nI_40, nI_7, vz0, vz1, zb1_e0, zb1_n0]
    refine ⟨fun h3 => ?_, fun h3 => ?_⟩
    · have hopq : op q = true := by rw [← hop, oOpen]; simp [h2, h3]
      refine ⟨fun h4 => ?_, fun h4 => ?_⟩
      · have hx : (I 91 q).toInt64 = wt q := by rw [← hwt, oWthV, oWth, if_neg (by rw [h4]; decide)]
        rw [hx]
        exact mo_best86 (by omega) (fun g => oBest_y hopq g (fun q h => (oBest_lt h).1) (by omega)) (fun g1 g2 => oBest_k g1 g2) (ih (by omega) J K hJ hK)
      · have ht : told 0 = true := by simpa using h4
        refine z_cV0 (M' := mX10_lawOf) (R' := rX10_lawOf) (i := 87) [.int 0, .int (nI b), .int (nI q), .int t] [] eX10_lawOf k10_452 (by decide +kernel : decode cX10_bestPlace 55 = .ok (.invokevirtual 452, 3)) (Nat.le_of_ble_eq_true rfl) ⟨Nat.le_of_ble_eq_true rfl, Nat.le_of_ble_eq_true rfl, Nat.le_of_ble_eq_true rfl, Nat.le_of_ble_eq_true rfl, Nat.le_of_ble_eq_true rfl⟩ rfl rfl rfl sh_87 ?_
        refine mo_lawOf (wh := 0) (by omega) hb (by omega) hE2 ((zLaws_err hJ hL 0 (by omega)).2 ht) (fun I' L' x e k1 k2 k3 k4 => ?_)
        refine zBlkR (M := mX10_bestPlace) (nL := 9) (rt := (Option.some .int)) (blk := bX10_bestPlace_58) (T := [(69, bX10_bestPlace_69), (86, bX10_bestPlace_86), (93, bX10_bestPlace_93)]) 2 hX10_bestPlace_58 (zChks_cons hX10_bestPlace_69 (zChks_cons hX10_bestPlace_86 (zChks_cons hX10_bestPlace_93 zChks_nil))) rfl rfl rfl (Nat.le_of_ble_eq_true rfl) (Nat.le_of_ble_eq_true rfl) ?_
        simp only [bX10_bestPlace_58, bX10_bestPlace_69, bX10_bestPlace_86, bX10_bestPlace_93, zRun_cons, zRun_nil, zLk, zSto, zIns, zFil, zf0, zf1, zf2, zf3, List.filter_cons, List.filter_nil, Nat.reduceAdd, Nat.reduceEqDiff, Nat.reduceLT, Nat.reduceLeDiff, Nat.reduceBEq, Nat.reduceBNe, reduceIte, if_true, if_false, Bool.false_and, Bool.true_and, Bool.and_true, Bool.and_false, Bool.not_false, Bool.not_true, Bool.false_eq_true, beq_self_eq_true, BEq.rfl, zCat1, zCat2, zCat3, zKdI, zKdL, zKdR, true_and, and_true, zSI, zSL, zSR, zu_at, and_self, and_false, false_and, lv_args, zKdZ, zKdO, zB01, zB11, Option.toList_none, Option.toList_some, List.nil_append, List.cons_append, true_or, or_true, zRow_rd, zu_rd, zo_goto, zo_lstore, zo_iload_n, zo_if_lt, zo_lload, zo_lcmp, zo_if_gt, zo_iload, zo_istore_n, zo_iinc, zi_1, zKn_s, zKn_0, zFind, zCat2, lc_gt, zN10, zN01, not_true_eq_false, not_false_eq_true, false_implies, true_implies, implies_true, eq_self, nI_1, nI_40, nI_7, vz0, vz1, zb1_e0, zb1_n0]
        have hx : x = wt q := by
          rw [zNmR_eq hVJ hE.1 (by omega)] at k4
          have e1 : wt q = (lwR J ns nb nr nbd told F T t 0 q (oCnt V (nI q) 2 ch) (oCnt V (nI q) 1 ch)).getD 0 := by
            rw [← hwt, oWthV, oWth, if_pos ht, lwR_err hJ]
          rw [e1, lwR, lwJ, if_pos ht]
          generalize jLaw _ _ _ _ _ = o at k4
          cases o with
          | none => exact (k4.1 rfl).2
          | some v => exact (k4.2 v rfl).2
        rw [hx]
        exact mo_best86 (by omega) (fun g => oBest_y hopq g (fun q h => (oBest_lt h).1) (by omega)) (fun g1 g2 => oBest_k g1 g2) (ih (by omega) I' L' (hJ.trans k1) (hK.trans k2))
    · have : op q = false := by rw [← hop, oOpen, h3]; simp
      have ih := ih (by omega) J K hJ hK
      rw [oBest_n this] at ih
      exact ih
end ZMB
