section
-- needs: 49
/-! ===== SITTERS COME, THE BOY ASKS: pure, and the reference's ===== -/
/-- the least below n that is so; n: none -/
def zFst (P : Nat → Bool) : Nat → Nat
  | 0 => 0
  | n + 1 => if zFst P n < n then zFst P n else if P n = true then n else n + 1
theorem zFst_le (P : Nat → Bool) : ∀ n, zFst P n ≤ n
  | 0 => Nat.le_refl _
  | n + 1 => by
    unfold zFst
    have := zFst_le P n
    split
    · omega
    · split <;> omega
theorem zFst_lt {P : Nat → Bool} : ∀ {n : Nat}, zFst P n < n → P (zFst P n) = true
  | 0, h => absurd h (by unfold zFst; omega)
  | n + 1, h => by
    unfold zFst at h ⊢
    split
    · rename_i q; exact zFst_lt q
    · rename_i q
      rw [if_neg q] at h
      split
      · rename_i q2; exact q2
      · rename_i q2
        rw [if_neg q2] at h
        omega
theorem zFst_no {P : Nat → Bool} : ∀ {n c : Nat}, c < zFst P n → P c = false
  | 0, c, h => absurd h (by unfold zFst; omega)
  | n + 1, c, h => by
    have hl := zFst_le P n
    unfold zFst at h
    split at h
    · exact zFst_no h
    · rename_i q
      split at h
      · exact zFst_no (n := n) (by omega)
      · rename_i q2
        by_cases e : c = n
        · subst e; simpa using q2
        · exact zFst_no (n := n) (by omega)
theorem zFst_eq {P : Nat → Bool} {n c : Nat} (hc : c < n) (hP : P c = true) (hno : ∀ d, d < c → P d = false) : zFst P n = c := by
  rcases Nat.lt_trichotomy (zFst P n) c with h | h | h
  · have h1 := zFst_lt (P := P) (n := n) (by omega)
    rw [hno _ h] at h1; cases h1
  · exact h
  · have := zFst_no h
    rw [hP] at this; cases this
theorem zFst_none {P : Nat → Bool} {n : Nat} (hno : ∀ d, d < n → P d = false) : zFst P n = n := by
  have h := zFst_le P n
  rcases Nat.lt_or_ge (zFst P n) n with h1 | h1
  · have h2 := zFst_lt h1
    rw [hno _ h1] at h2; cases h2
  · omega
theorem zCnt_0 {P : Nat → Bool} : ∀ {n : Nat}, (∀ c, c < n → P c = false) → zCnt P n = 0
  | 0, _ => rfl
  | n + 1, h => by rw [zCnt, zCnt_0 (fun c hc => h c (by omega)), h n (by omega)]; rfl
theorem zCnt_0n {P : Nat → Bool} : ∀ {n : Nat}, zCnt P n = 0 → ∀ c, c < n → P c = false
  | 0, _, c, hc => absurd hc (by omega)
  | n + 1, h, c, hc => by
    rw [zCnt] at h
    by_cases e : c = n
    · subst e
      cases hP : P c with
      | false => rfl
      | true => rw [hP] at h; simp at h
    · exact zCnt_0n (n := n) (by omega) c (by omega)
theorem zFst_cnt {P : Nat → Bool} {n : Nat} (h : zCnt P n ≠ 0) : zFst P n < n := by
  rcases Nat.lt_or_ge (zFst P n) n with h1 | h1
  · exact h1
  · refine absurd (zCnt_0 (fun c hc => zFst_no (n := n) ?_)) h
    omega
def oFree (V : Nat → Nat → Int32) (q c : Nat) : Bool := V 1 c == 1 && V 2 c == nI q
def oSeat (till : Int32) (c : Nat) (V : Nat → Nat → Int32) : Nat → Nat → Int32 := zu (zu (zu V 1 c 2) 4 c till) 5 c 0
def oCome (lw : Nat → Nat → Nat → Nat → Option Int64) (t0 : Bool) (vw : Nat → Int32) (sh : Int32) (np ch : Nat) (t : Int32) (V : Nat → Nat → Int32) : Nat → Nat → Int32 := match oBest (oOpen V sh ch) (oWthV lw t0 vw ch V) np with
  | none => zu V 8 4 (V 8 4 + 1)
  | some q => oSeat (t + oBL (lw 1 q.1 (oCnt V (nI q.1) 2 ch) (oCnt V (nI q.1) 1 ch)) 8 1 95) (zFst (oFree V q.1) ch) V
abbrev oS : Type := (Nat → Nat → Int32) × Int64
def oNext (d : Int64) : Int64 := (d * 1103515245 + 12345) &&& 2147483647
def oHit (odds : Int32) (d : Int64) : Bool := decide (d / 65536 - d / 65536 / 100 * 100 < odds.toInt64)
def oAsk1 (odds pr : Int32) (q c : Nat) (S : oS) : oS := if S.1 1 c = 2 ∧ S.1 2 c = nI q ∧ S.1 5 c = 0 then (if oHit odds (oNext S.2) = true then (zu S.1 8 2 (S.1 8 2 + 1), oNext S.2) else (zu (zu (zu S.1 5 c 1) 8 1 (S.1 8 1 + 1)) 8 0 (S.1 8 0 + pr), oNext S.2)) else S
def oOdds (lw : Nat → Nat → Nat → Nat → Option Int64) (nd : Bool) (ch q : Nat) (V : Nat → Nat → Int32) : Int32 := if nd = true then 0 else oBL (lw 2 q (oCnt V (nI q) 2 ch) (oCnt V (nI q) 1 ch)) 0 0 100
def oAskAt (lw : Nat → Nat → Nat → Nat → Option Int64) (nd : Bool) (pr : Int32) (ch q : Nat) (S : oS) : oS := zIter (oAsk1 (oOdds lw nd ch q S.1) pr q) ch S
def oRound (lw : Nat → Nat → Nat → Nat → Option Int64) (nd : Bool) (pr : Int32) (ch rl rf : Nat) (rp : Nat → Nat) (sec : Bool) (t : Nat) (S : oS) : oS := if rl = 0 then S else if sec = true then oAskAt lw nd pr ch (rp (rl - 1 - (t - rf) % rl)) (oAskAt lw nd pr ch (rp ((t - rf) % rl)) S) else oAskAt lw nd pr ch (rp ((t - rf) % rl)) S
section ZC50
variable {V : Nat → Nat → Int32} {S : oS} {c d i ch np q : Nat} {wm t sh odds pr till : Int32} {nd t0 : Bool} {lw : Nat → Nat → Nat → Nat → Option Int64} {vw : Nat → Int32}
theorem oOk_seat (h : oOk ch np wm V) (h1 : V 1 c = 1) : oOk ch np wm (oSeat till c V) := by
  refine oOk_of (c := c) h (fun i d h1 h2 h3 => ?_) (fun hc hk => ?_)
  · simp only [oSeat, zu_at, h3, and_false, if_false]
  · simp only [oSeat, zu_at, Nat.reduceEqDiff, false_and, if_false, if_true, true_and, and_self]
    rcases hk with ⟨q1, h2, h3, h4, h5⟩ | ⟨q1, h2, h3, h4, h5, h6⟩ | ⟨q1, h2, h3, h4, h5⟩ | ⟨q1, h2, h3, h4, h5⟩
    · rw [q1] at h1; exact absurd h1 (by decide)
    · exact Or.inr (Or.inr (Or.inl ⟨rfl, h2, h3, Or.inl rfl, h6⟩))
    · rw [q1] at h1; exact absurd h1 (by decide)
    · rw [q1] at h1; exact absurd h1 (by decide)
theorem oOpen_fst (h : oOpen V sh ch q = true) : zFst (oFree V q) ch < ch := by
  apply zFst_cnt
  unfold oOpen at h
  intro e
  have : oCnt V (nI q) 1 ch = 0 := e
  rw [this] at h
  simp at h
theorem oFree_1 (h : oFree V q c = true) : V 1 c = 1 ∧ V 2 c = nI q := by
  unfold oFree at h
  simpa using h
theorem oOk_come (h : oOk ch np wm V) : oOk ch np wm (oCome lw t0 vw sh np ch t V) := by
  unfold oCome
  split
  · exact oOk_s8 h
  · rename_i q hq
    have := oBest_lt hq
    exact oOk_seat h (oFree_1 (zFst_lt (oOpen_fst this.2.1))).1
theorem oOk_ask1 (h : oOk ch np wm S.1) : oOk ch np wm (oAsk1 odds pr q c S).1 := by
  unfold oAsk1
  split
  · rename_i h1
    split
    · exact oOk_s8 h
    · refine oOk_s8 (oOk_s8 ?_)
      refine oOk_of (c := c) h (fun i d h1 h2 h3 => ?_) (fun hc hk => ?_)
      · simp only [zu_at, h3, and_false, if_false]
      · simp only [zu_at, Nat.reduceEqDiff, false_and, if_false, if_true, and_self]
        obtain ⟨h1, h2, h3⟩ := h1
        rcases hk with ⟨q1, h2, h3, h4, h5⟩ | ⟨q1, h2, h3, h4, h5, h6⟩ | ⟨q1, h2, h3, h4, h5⟩ | ⟨q1, h2, h3, h4, h5⟩
        · rw [q1] at h1; exact absurd h1 (by decide)
        · rw [q1] at h1; exact absurd h1 (by decide)
        · exact Or.inr (Or.inr (Or.inl ⟨q1, h2, h3, Or.inr rfl, h5⟩))
        · rw [q1] at h1; exact absurd h1 (by decide)
  · exact h
theorem oOk_askAt (h : oOk ch np wm S.1) : oOk ch np wm (oAskAt lw nd pr ch q S).1 := zIter_ok (P := fun S : oS => oOk ch np wm S.1) (fun _ _ h => oOk_ask1 h) ch S h
end ZC50
section ZC51
variable {I J V : Nat → Nat → Int32} {b ch ns nb : Nat} {nr nbd : Bool} {told : Nat → Bool} {F T : Nat → Nat} {t : Int32}
theorem zFR_row {i : Nat} (h : zKpt (zFR b) I J) (hi : (i < 114 ∧ i ≠ 87) ∨ 119 < i) : J i = I i := funext fun k => h i k (by unfold zFR; omega)
theorem zFR_87 {k : Nat} (h : zKpt (zFR b) I J) (hk : k ≠ 54) : J 87 k = I 87 k := h 87 k (by unfold zFR; omega)
theorem zErr_FR (h : zKpt zErrS I J) : zKpt (zFR b) I J := h.mono (fun _ _ q => Or.inr (Or.inr q))
theorem zEnvR_R (h : zKpt (zFR b) I J) (hE : zEnvR I ch ns nb nr nbd) : zEnvR J ch ns nb nr nbd := by
  obtain ⟨a, b, c, e1, e2, e3, e4, e5⟩ := hE
  refine ⟨a, b, c, ?_, ?_, ?_, ?_, ?_⟩
  · rw [zFR_row h (by decide), e1]
  · rw [zFR_87 h (by decide), e2]
  · rw [zFR_87 h (by decide), e3]
  · rw [zFR_87 h (by decide), e4]
  · rw [zFR_87 h (by decide), e5]
theorem zLaws_R (h : zKpt (zFR b) I J) (hE : zLaws I told F T) : zLaws J told F T := by
  intro wh hwh
  have := hE wh hwh
  unfold zLawR at this ⊢
  rw [zFR_row h (i := 104) (by decide), zFR_row h (i := 105) (by decide), zFR_row h (i := 106) (by decide), zFR_row h (i := 107) (by decide), zFR_row h (i := 108) (by decide), zFR_row h (i := 109) (by decide)]
  exact this
theorem lwR_R (h : zKpt (zFR b) I J) : lwR J ns nb nr nbd told F T t = lwR I ns nb nr nbd told F T t := by
  unfold lwR
  rw [zFR_row h (i := 107) (by decide), zFR_row h (i := 108) (by decide), zFR_row h (i := 91) (by decide), zFR_row h (i := 92) (by decide), zFR_row h (i := 96) (by decide), zFR_row h (i := 97) (by decide), zFR_row h (i := 98) (by decide), zFR_row h (i := 99) (by decide), zFR_row h (i := 100) (by decide), zFR_87 h (k := 67) (by decide)]
end ZC51
section ZC52
variable {w : zP} {Q : Option Value → zMem → Prop} {I J V : Nat → Nat → Int32} {L : Nat → Nat → Int64} {p s : Nat} {r : Option Nat} {b c ch np ns nb : Nat} {wm : Int32} {nr nbd nd : Bool} {told : Nat → Bool} {F T : Nat → Nat}
set_option maxRecDepth 20000 in
theorem mo_comesOn {t : Int32} (hb : b < 2) (hnp : np ≤ 5) (h12 : I 87 12 = nI np) (hE : zEnvR I ch ns nb nr nbd) (hL : zLaws I told F T) (hV : vR b I = V) (hQ : ∀ I' L', zKpt (zFR b) I I' → zKpt zErrL L L' → vR b I' = oCome (lwR I ns nb nr nbd told F T t) (told 0) (I 91) (I 87 72) np ch t V → Q none (SH, I', L', RF p s r)) : zXM w mX10_comesOn rX10_comesOn [.ref 87, .int (nI b), .int t] (SH, I, L, RF p s r) Q := by
  unfold zXM
  refine zBlkR (M := mX10_comesOn) (nL := 6) (rt := (Option.none : Option Jvm.ClassFile.FieldType)) (blk := bX10_comesOn_0) (T := []) 0 hX10_comesOn_0 zChks_nil rfl rfl rfl (Nat.le_of_ble_eq_true rfl) (Nat.le_of_ble_eq_true rfl) ?_
  simp only [bX10_comesOn_0, zRun_cons, zRun_nil, zLk, zSto, zIns, zFil, zf0, zf1, zf2, zf3, List.filter_cons, List.filter_nil, Nat.reduceAdd, Nat.reduceEqDiff, Nat.reduceLT, Nat.reduceLeDiff, Nat.reduceBEq, Nat.reduceBNe, reduceIte, if_true, if_false, Bool.false_and, Bool.true_and, Bool.and_true, Bool.and_false, Bool.not_false, Bool.not_true, Bool.false_eq_true, beq_self_eq_true, BEq.rfl, zCat1, zCat2, zCat3, zKdI, zKdL, zKdR, true_and, and_true, zSI, zSL, zSR, zu_at, and_self, and_false, false_and, lv_args, zKdZ, zKdO, zB01, zB11, Option.toList_none, Option.toList_some, List.nil_append, List.cons_append, true_or, or_true, zRow_rd, zu_rd, zo_aload_n, zo_iload_n, zKn_0, zN10, zN01, not_true_eq_false, not_false_eq_true, false_implies, true_implies, implies_true, eq_self, nI_1, nI_40, nI_7, vz0, vz1, zb1_e0, zb1_n0]
  refine z_cV0 (M' := mX10_bestPlace) (R' := rX10_bestPlace) (i := 87) [.int (nI b), .int t] [] eX10_bestPlace k10_466 (by decide +kernel : decode cX10_comesOn 3 = .ok (.invokevirtual 466, 3)) (Nat.le_of_ble_eq_true rfl) ⟨Nat.le_of_ble_eq_true rfl, Nat.le_of_ble_eq_true rfl, Nat.le_of_ble_eq_true rfl, Nat.le_of_ble_eq_true rfl, Nat.le_of_ble_eq_true rfl⟩ rfl rfl rfl sh_87 ?_
  refine mo_bestPlace hb hnp h12 hE hL hV (fun I1 L1 h1 h2 => ?_)
  unfold oCome at hQ
  have hlt := fun q => oBest_lt (op := oOpen V (I 87 72) ch) (wth := oWthV (lwR I ns nb nr nbd told F T t) (told 0) (I 91) ch V) (n := np) (q := q)
  generalize oBest (oOpen V (I 87 72) ch) (oWthV (lwR I ns nb nr nbd told F T t) (told 0) (I 91) ch V) np = o at hQ hlt
  have hV1 : vR b I1 = V := by rw [vR_err h1, hV]
  have hv4 : vp_in (nI (7 * b + 4)) 14 := zvn (by omega) (by omega)
  cases o with
  | none =>
    refine zBlkR (M := mX10_comesOn) (nL := 6) (rt := (Option.none : Option Jvm.ClassFile.FieldType)) (blk := bX10_comesOn_6) (T := [(27, bX10_comesOn_27)]) 1 hX10_comesOn_6 (zChks_cons hX10_comesOn_27 zChks_nil) rfl rfl rfl (Nat.le_of_ble_eq_true rfl) (Nat.le_of_ble_eq_true rfl) ?_
    simp only [bX10_comesOn_6, bX10_comesOn_27, zRun_cons, zRun_nil, zLk, zSto, zIns, zFil, zf0, zf1, zf2, zf3, List.filter_cons, List.filter_nil, Nat.reduceAdd, Nat.reduceEqDiff, Nat.reduceLT, Nat.reduceLeDiff, Nat.reduceBEq, Nat.reduceBNe, reduceIte, if_true, if_false, Bool.false_and, Bool.true_and, Bool.and_true, Bool.and_false, Bool.not_false, Bool.not_true, Bool.false_eq_true, beq_self_eq_true, BEq.rfl, zCat1, zCat2, zCat3, zKdI, zKdL, zKdR, true_and, and_true, zSI, zSL, zSR, zu_at, and_self, and_false, false_and, lv_args, zKdZ, zKdO, zB01, zB11, Option.toList_none, Option.toList_some, List.nil_append, List.cons_append, true_or, or_true, zRow_rd, zu_rd, zo_istore_n, zo_iload_n, zo_if_ge, zo_aload_n, zo_getfield, zo_bipush, zo_imul, zo_iconst, zo_iadd, zo_dup2, zo_dup2_2, zo_iaload, zo_iastore, zo_return_, zb_7, zi_4, zi_1, zb_8, zb_95, zKd_10_62, sh_87, rf_87_62, sh_119, zcl_7, zcl_4, zcl_1, zcl_8, zcl_95, zvi_7_14, zvi_4_14, zvi_1_14, zvi_8_14, zKn_s, zKn_0, zFind, show oBI none = (-1 : Int32) from rfl, zN10, zN01, not_true_eq_false, not_false_eq_true, false_implies, true_implies, implies_true, eq_self, nI_1, nI_40, nI_7, vz0, vz1, zb1_e0, zb1_n0]
    refine ⟨fun h => absurd h (by decide), fun _ => ?_⟩
    simp only [show (4 : Int32) = nI 4 from rfl, nI_7, nI_clamp (n := 7 * b + 4) (by omega), hv4, true_and]
    refine hQ _ L1 ((zErr_FR h1).u (by unfold zFR; omega)) h2 ?_
    rw [vR_u8 (by omega), hV1, ← hV1, vR_8 (by omega)]
  | some q =>
    obtain ⟨hq1, hq2, -⟩ := hlt q rfl
    dsimp only at hQ
    have hf := oOpen_fst hq2
    have hqb : oBI (some q) = nI q.1 := rfl
    refine zBlkR (M := mX10_comesOn) (nL := 6) (rt := (Option.none : Option Jvm.ClassFile.FieldType)) (blk := bX10_comesOn_6) (T := [(27, bX10_comesOn_27)]) 1 hX10_comesOn_6 (zChks_cons hX10_comesOn_27 zChks_nil) rfl rfl rfl (Nat.le_of_ble_eq_true rfl) (Nat.le_of_ble_eq_true rfl) ?_
    simp only [bX10_comesOn_6, bX10_comesOn_27, zRun_cons, zRun_nil, zLk, zSto, zIns, zFil, zf0, zf1, zf2, zf3, List.filter_cons, List.filter_nil, Nat.reduceAdd, Nat.reduceEqDiff, Nat.reduceLT, Nat.reduceLeDiff, Nat.reduceBEq, Nat.reduceBNe, reduceIte, if_true, if_false, Bool.false_and, Bool.true_and, Bool.and_true, Bool.and_false, Bool.not_false, Bool.not_true, Bool.false_eq_true, beq_self_eq_true, BEq.rfl, zCat1, zCat2, zCat3, zKdI, zKdL, zKdR, true_and, and_true, zSI, zSL, zSR, zu_at, and_self, and_false, false_and, lv_args, zKdZ, zKdO, zB01, zB11, Option.toList_none, Option.toList_some, List.nil_append, List.cons_append, true_or, or_true, zRow_rd, zu_rd, zo_istore_n, zo_iload_n, zo_if_ge, zo_aload_n, zo_getfield, zo_bipush, zo_imul, zo_iconst, zo_iadd, zo_dup2, zo_dup2_2, zo_iaload, zo_iastore, zo_return_, zb_7, zi_4, zi_1, zb_8, zb_95, zKd_10_62, sh_87, rf_87_62, sh_119, zcl_7, zcl_4, zcl_1, zcl_8, zcl_95, zvi_7_14, zvi_4_14, zvi_1_14, zvi_8_14, zKn_s, zKn_0, zFind, hqb, zN10, zN01, not_true_eq_false, not_false_eq_true, false_implies, true_implies, implies_true, eq_self, nI_1, nI_40, nI_7, vz0, vz1, zb1_e0, zb1_n0]
    refine ⟨fun _ => ?_, fun h => absurd h (by rw [Int32.not_le]; exact fun g => absurd g (nI_nn (by omega)))⟩
    have hE1 := zEnvR_err h1 hE
    refine z_cV0 (M' := mX10_boundLaw) (R' := rX10_boundLaw) (i := 87) [.int 1, .int (nI b), .int (nI q.1), .int t, .int 8, .int 1, .int 95] [] eX10_boundLaw k10_469 (by decide +kernel : decode cX10_comesOn 37 = .ok (.invokevirtual 469, 3)) (Nat.le_of_ble_eq_true rfl) ⟨Nat.le_of_ble_eq_true rfl, Nat.le_of_ble_eq_true rfl, Nat.le_of_ble_eq_true rfl, Nat.le_of_ble_eq_true rfl, Nat.le_of_ble_eq_true rfl⟩ rfl rfl rfl sh_87 ?_
    refine mo_boundLaw (wh := 1) (by omega) hb (by omega) hE1 (zLaws_err h1 hL) hV1 (fun I2 L2 h3 h4 => ?_)
    rw [lwR_err h1]
    have hV2 : vR b I2 = V := by rw [vR_err h3, hV1]
    have hch := hE.1
    refine zBlkR (M := mX10_comesOn) (nL := 6) (rt := (Option.none : Option Jvm.ClassFile.FieldType)) (blk := bX10_comesOn_40) (T := []) 0 hX10_comesOn_40 zChks_nil rfl rfl rfl (Nat.le_of_ble_eq_true rfl) (Nat.le_of_ble_eq_true rfl) ?_
    simp only [bX10_comesOn_40, zRun_cons, zRun_nil, zLk, zSto, zIns, zFil, zf0, zf1, zf2, zf3, List.filter_cons, List.filter_nil, Nat.reduceAdd, Nat.reduceEqDiff, Nat.reduceLT, Nat.reduceLeDiff, Nat.reduceBEq, Nat.reduceBNe, reduceIte, if_true, if_false, Bool.false_and, Bool.true_and, Bool.and_true, Bool.and_false, Bool.not_false, Bool.not_true, Bool.false_eq_true, beq_self_eq_true, BEq.rfl, zCat1, zCat2, zCat3, zKdI, zKdL, zKdR, true_and, and_true, zSI, zSL, zSR, zu_at, and_self, and_false, false_and, lv_args, zKdZ, zKdO, zB01, zB11, Option.toList_none, Option.toList_some, List.nil_append, List.cons_append, true_or, or_true, zRow_rd, zu_rd, zo_istore, zo_iconst, zi_0, zcl_0, zKn_0, zN10, zN01, not_true_eq_false, not_false_eq_true, false_implies, true_implies, implies_true, eq_self, nI_1, nI_40, nI_7, vz0, vz1, zb1_e0, zb1_n0]
    have h12 : zKpt (zFR b) I I2 := (zErr_FR h1).trans (zErr_FR h3)
    have key : ∀ c, c ≤ zFst (oFree V q.1) ch → zX w mX10_comesOn rX10_comesOn Q 0 0 45 [(0, Value.ref 87), (1, Value.int (nI b)), (2, Value.int t), (3, Value.int (nI q.1)), (4, Value.int (oBL (lwR I ns nb nr nbd told F T t 1 q.1 (oCnt V (nI q.1) 2 ch) (oCnt V (nI q.1) 1 ch)) 8 1 95)), (5, Value.int (nI c))] [] (SH, I2, L2, RF p s r) := by
      refine zLoop (n := zFst (oFree V q.1) ch) (fun c hc ih => ?_)
      have hc4 : c < 40 := by omega
      have hv : vp_in (nI (40 * b + c)) 80 := zvn (by omega) (by omega)
      have e1 : I2 114 (40 * b + c) = V 1 c := by rw [← hV2, vR_1 hc4]
      have e2 : I2 115 (40 * b + c) = V 2 c := by rw [← hV2, vR_2 hc4]
      refine zBlkR (M := mX10_comesOn) (nL := 6) (rt := (Option.none : Option Jvm.ClassFile.FieldType)) (blk := bX10_comesOn_45) (T := [(77, bX10_comesOn_77), (83, bX10_comesOn_83)]) 1 hX10_comesOn_45 (zChks_cons hX10_comesOn_77 (zChks_cons hX10_comesOn_83 zChks_nil)) rfl rfl rfl (Nat.le_of_ble_eq_true rfl) (Nat.le_of_ble_eq_true rfl) ?_
      simp only [bX10_comesOn_45, bX10_comesOn_77, bX10_comesOn_83, zRun_cons, zRun_nil, zLk, zSto, zIns, zFil, zf0, zf1, zf2, zf3, List.filter_cons, List.filter_nil, Nat.reduceAdd, Nat.reduceEqDiff, Nat.reduceLT, Nat.reduceLeDiff, Nat.reduceBEq, Nat.reduceBNe, reduceIte, if_true, if_false, Bool.false_and, Bool.true_and, Bool.and_true, Bool.and_false, Bool.not_false, Bool.not_true, Bool.false_eq_true, beq_self_eq_true, BEq.rfl, zCat1, zCat2, zCat3, zKdI, zKdL, zKdR, true_and, and_true, zSI, zSL, zSR, zu_at, and_self, and_false, false_and, lv_args, zKdZ, zKdO, zB01, zB11, Option.toList_none, Option.toList_some, List.nil_append, List.cons_append, true_or, or_true, zRow_rd, zu_rd, zo_aload_n, zo_getfield, zo_bipush, zo_iload_n, zo_imul, zo_iload, zo_iadd, zo_iaload, zo_iconst, zo_icmp_ne, zo_icmp_eq, zo_iinc, zo_goto, zo_iastore, zo_bastore, zo_return_, zb_40, zi_1, zi_2, zi_0, zKd_10_57, zKd_10_58, zKd_10_60, zKd_10_61, sh_87, rf_87_57, sh_114, zcl_40, zcl_1, rf_87_58, sh_115, zcl_2, rf_87_60, sh_117, rf_87_61, sh_118, zcl_0, zvi_40_80, zvi_1_80, zvi_2_80, zvi_0_80, zKn_s, zKn_0, zFind, hv, e1, e2, nI_clamp (n := 40 * b + c) (by omega), zN10, zN01, not_true_eq_false, not_false_eq_true, false_implies, true_implies, implies_true, eq_self, nI_1, nI_40, nI_7, vz0, vz1, zb1_e0, zb1_n0]
      refine ⟨fun g1 => ?_, fun g1 => ⟨fun g2 => ?_, fun g2 => ?_⟩⟩
      · refine ih ?_
        rcases Nat.lt_or_ge c (zFst (oFree V q.1) ch) with g | g
        · exact g
        · have e : c = zFst (oFree V q.1) ch := by omega
          exact absurd (oFree_1 (zFst_lt hf)).1 (by rw [← e]; exact g1)
      · have e : zFst (oFree V q.1) ch = c := by
          rcases Nat.lt_or_ge c (zFst (oFree V q.1) ch) with g | g
          · have := zFst_no g
            simp [oFree, g1, g2] at this
          · omega
        rw [e] at hQ
        refine hQ _ L2 (((h12.u (by unfold zFR; omega)).u (by unfold zFR; omega)).u (by unfold zFR; omega)) (h2.trans h4) ?_
        rw [vR_u5 hc4, vR_u4 hc4, vR_u1 hc4, hV2]
        rfl
      · refine ih ?_
        rcases Nat.lt_or_ge c (zFst (oFree V q.1) ch) with g | g
        · exact g
        · have e : c = zFst (oFree V q.1) ch := by omega
          exact absurd (oFree_1 (zFst_lt hf)).2 (by rw [← e]; exact g2)
    exact key 0 (Nat.zero_le _)
end ZC52
end

section
-- needs: 50
/-! ===== THE REFERENCE: the boy goes round; a tick ===== -/
/-- a plan: rows (numbered as the reference's), which laws are told, where they begin and end; chairs, places, comes, skies, bands, signs, knots -/
abbrev oPn : Type := (Nat → Nat → Int32) × (Nat → Bool) × (Nat → Nat) × (Nat → Nat) × Nat × Nat × Nat × Nat × Nat × Nat × Nat
abbrev pR (P : oPn) : Nat → Nat → Int32 := P.1
abbrev pTold (P : oPn) : Nat → Bool := P.2.1
abbrev pF (P : oPn) : Nat → Nat := P.2.2.1
abbrev pT (P : oPn) : Nat → Nat := P.2.2.2.1
abbrev pCh (P : oPn) : Nat := P.2.2.2.2.1
abbrev pNp (P : oPn) : Nat := P.2.2.2.2.2.1
abbrev pNc (P : oPn) : Nat := P.2.2.2.2.2.2.1
abbrev pNs (P : oPn) : Nat := P.2.2.2.2.2.2.2.1
abbrev pNb (P : oPn) : Nat := P.2.2.2.2.2.2.2.2.1
abbrev pNg (P : oPn) : Nat := P.2.2.2.2.2.2.2.2.2.1
abbrev pNk (P : oPn) : Nat := P.2.2.2.2.2.2.2.2.2.2
/-- what a run has otherwise: price, shut, absent, no rain, no bands, no dodge, no wets, a second boy -/
abbrev oTm : Type := Int32 × Int32 × Int32 × Bool × Bool × Bool × Bool × Bool
abbrev mPr (m : oTm) : Int32 := m.1
abbrev mSh (m : oTm) : Int32 := m.2.1
abbrev mAb (m : oTm) : Int32 := m.2.2.1
abbrev mNr (m : oTm) : Bool := m.2.2.2.1
abbrev mNb (m : oTm) : Bool := m.2.2.2.2.1
abbrev mNd (m : oTm) : Bool := m.2.2.2.2.2.1
abbrev mNw (m : oTm) : Bool := m.2.2.2.2.2.2.1
abbrev m2 (m : oTm) : Bool := m.2.2.2.2.2.2.2
/-- a route: how long, from when, which places -/
abbrev oRt : Type := Nat × Nat × (Nat → Nat)
def lwP (P : oPn) (m : oTm) (t : Int32) : Nat → Nat → Nat → Nat → Option Int64 := lwJ (pR P 107) (pR P 108) (pTold P) (pF P) (pT P) (pR P 91) (pR P 92) (decide (oSky (pR P 96) (pR P 97) t (pNs P) (mNr m) = 0)) (fun q => !mNb m && zAny (oMusP (pR P 98) (pR P 99) (pR P 100) (nI q) t) (pNb P)) (mPr m) t
def pHit (P : oPn) (t : Nat) (q : Int32) : Bool := !decide (pR P 93 q.toNatClampNeg < 0) && !decide (nI t < pR P 93 q.toNatClampNeg)
def pRains (P : oPn) (m : oTm) (t : Nat) : Bool := decide (oSky (pR P 96) (pR P 97) (nI t) (pNs P) (mNr m) = 2)
/-- how many come at t, by the first k tellings -/
def oComers (f g : Nat → Int32) (ab t : Int32) : Nat → Nat
  | 0 => 0
  | k + 1 => oComers f g ab t k + if f k = t ∧ nI k ≠ ab then (g k).toNatClampNeg else 0
abbrev pComers (P : oPn) : Int32 → Int32 → Nat → Nat := oComers (pR P 94) (pR P 95)
def oCm (P : oPn) (m : oTm) (t : Nat) : (Nat → Nat → Int32) → Nat → Nat → Int32 := oCome (lwP P m (nI t)) (pTold P 0) (pR P 91) (mSh m) (pNp P) (pCh P) (nI t)
def oV1 (P : oPn) (t : Nat) (V : Nat → Nat → Int32) : Nat → Nat → Int32 := zIter (oTide (pHit P t)) (pCh P) V
def oV4 (P : oPn) (m : oTm) (t : Nat) (V : Nat → Nat → Int32) : Nat → Nat → Int32 := if pRains P m t = true then zIter (oGo (nI t)) (pCh P) (zIter (oRain (mNw m) (pR P 102 8)) (pCh P) (oV1 P t V)) else zIter (fun _ => oCm P m t) (pComers P (mAb m) (nI t) (pNc P)) (zIter (oGo (nI t)) (pCh P) (oV1 P t V))
/-- a tick -/
def oG (P : oPn) (m : oTm) (rt : oRt) (t : Nat) (S : oS) : oS := oRound (lwP P m (nI t)) (mNd m) (mPr m) (pCh P) rt.1 rt.2.1 rt.2.2 (m2 m) t (oV4 P m t S.1, S.2)
/-- a plan may be so -/
def POk (P : oPn) : Prop := pCh P ≤ 40 ∧ pNp P ≤ 5 ∧ pNc P ≤ 16 ∧ pNs P ≤ 12 ∧ pNb P ≤ 2 ∧ pR P 102 1 = nI (pCh P) ∧ zLaws (pR P) (pTold P) (pF P) (pT P) ∧ ∀ k, k < pNc P → ∃ n, n ≤ 20 ∧ pR P 95 k = nI n
def ROk (P : oPn) (rt : oRt) (t : Nat) : Prop := rt.1 ≤ 8 ∧ rt.2.1 ≤ t ∧ ∀ k, k < rt.1 → rt.2.2 k < pNp P
/-- the reference holds this plan, these terms, this route to be gone -/
def zRefP (I : Nat → Nat → Int32) (P : oPn) : Prop := (∀ i, 90 ≤ i → i ≤ 109 → I i = pR P i) ∧ I 87 12 = nI (pNp P) ∧ I 87 13 = nI (pNc P) ∧ I 87 14 = nI (pNs P) ∧ I 87 15 = nI (pNb P)
def zRefM (I : Nat → Nat → Int32) (m : oTm) (rt : oRt) : Prop := I 87 67 = mPr m ∧ I 87 72 = mSh m ∧ I 87 73 = mAb m ∧ I 87 68 = zb1 (mNr m) ∧ I 87 69 = zb1 (mNb m) ∧ I 87 70 = zb1 (mNd m) ∧ I 87 71 = zb1 (mNw m) ∧ I 87 74 = zb1 (m2 m) ∧ I 87 75 = nI rt.1 ∧ I 87 76 = nI rt.2.1 ∧ ∀ k, k < rt.1 → I 122 k = nI (rt.2.2 k)
section ZR51
variable {w : zP} {Q : Option Value → zMem → Prop} {I J V : Nat → Nat → Int32} {L : Nat → Nat → Int64} {p s : Nat} {r : Option Nat} {b c ch np ns nb : Nat} {wm : Int32} {nr nbd nd : Bool} {told : Nat → Bool} {F T : Nat → Nat} {P : oPn} {m : oTm} {rt : oRt} {S : oS}
theorem zRefP_R (h : zKpt (zFR b) I J) (hP : zRefP I P) : zRefP J P := by
  obtain ⟨h1, h2, h3, h4, h5⟩ := hP
  refine ⟨fun i a c => ?_, ?_, ?_, ?_, ?_⟩
  · by_cases e : i = 87
    · omega
    · rw [zFR_row h (by omega)]; exact h1 i a c
  · rw [zFR_87 h (by decide), h2]
  · rw [zFR_87 h (by decide), h3]
  · rw [zFR_87 h (by decide), h4]
  · rw [zFR_87 h (by decide), h5]
theorem zRefM_R (h : zKpt (zFR b) I J) (hP : zRefM I m rt) : zRefM J m rt := by
  unfold zRefM at hP ⊢
  rw [zFR_87 h (k := 67) (by decide), zFR_87 h (k := 72) (by decide), zFR_87 h (k := 73) (by decide), zFR_87 h (k := 68) (by decide), zFR_87 h (k := 69) (by decide), zFR_87 h (k := 70) (by decide), zFR_87 h (k := 71) (by decide), zFR_87 h (k := 74) (by decide), zFR_87 h (k := 75) (by decide), zFR_87 h (k := 76) (by decide), zFR_row h (i := 122) (by decide)]
  exact hP
theorem zRef_env (hO : POk P) (hP : zRefP I P) (hM : zRefM I m rt) : zEnvR I (pCh P) (pNs P) (pNb P) (mNr m) (mNb m) :=
  ⟨hO.1, hO.2.2.2.1, hO.2.2.2.2.1, by rw [hP.1 102 (by omega) (by omega)]; exact hO.2.2.2.2.2.1, hP.2.2.2.1, hP.2.2.2.2, hM.2.2.2.1, hM.2.2.2.2.1⟩
theorem zRef_laws (hO : POk P) (hP : zRefP I P) : zLaws I (pTold P) (pF P) (pT P) := by
  intro wh hwh
  have := hO.2.2.2.2.2.2.1 wh hwh
  unfold zLawR at this ⊢
  rw [hP.1 104 (by omega) (by omega), hP.1 105 (by omega) (by omega), hP.1 106 (by omega) (by omega), hP.1 107 (by omega) (by omega), hP.1 108 (by omega) (by omega), hP.1 109 (by omega) (by omega)]
  exact this
theorem zRef_lw {t : Int32} (hP : zRefP I P) (hM : zRefM I m rt) : lwR I (pNs P) (pNb P) (mNr m) (mNb m) (pTold P) (pF P) (pT P) t = lwP P m t := by
  unfold lwR lwP
  rw [hP.1 107 (by omega) (by omega), hP.1 108 (by omega) (by omega), hP.1 91 (by omega) (by omega), hP.1 92 (by omega) (by omega), hP.1 96 (by omega) (by omega), hP.1 97 (by omega) (by omega), hP.1 98 (by omega) (by omega), hP.1 99 (by omega) (by omega), hP.1 100 (by omega) (by omega), hM.1]
theorem zFRL_e {K : Nat → Nat → Int64} (h : zKpt zErrL L K) : zKpt (zFRL b) L K := h.mono (fun _ _ q => q.elim Or.inl (fun q => Or.inr (Or.inl q)))
theorem zErrL_120 {K : Nat → Nat → Int64} {k : Nat} (h : zKpt zErrL L K) : K 120 k = L 120 k := h 120 k (by unfold zErrL; omega)
set_option maxRecDepth 20000 in
theorem mo_round28 {t odds pr : Int32} {q : Nat} (hb : b < 2) (hq : q < 5) (hch : ch ≤ 40) (hI : I 102 1 = nI ch) (hpr : I 87 67 = pr) (hV : vR b I = S.1) (hd : L 120 b = S.2) (hQ : ∀ I' L', zKpt (zFR b) I I' → zKpt (zFRL b) L L' → vR b I' = (zIter (oAsk1 odds pr q) ch S).1 → L' 120 b = (zIter (oAsk1 odds pr q) ch S).2 → Q none (SH, I', L', RF p s r)) : zX w mX10_roundOn rX10_roundOn Q 0 0 28 [(0, Value.ref 87), (1, Value.int (nI b)), (2, Value.int (nI q)), (3, Value.int t), (4, Value.int odds), (5, Value.int (nI 0))] [] (SH, I, L, RF p s r) := by
  refine zLoop (n := ch) (P := fun c => ∀ J K, zKpt (zFR b) I J → zKpt (zFRL b) L K → vR b J = (zIter (oAsk1 odds pr q) c S).1 → K 120 b = (zIter (oAsk1 odds pr q) c S).2 → zX w mX10_roundOn rX10_roundOn Q 0 0 28 [(0, Value.ref 87), (1, Value.int (nI b)), (2, Value.int (nI q)), (3, Value.int t), (4, Value.int odds), (5, Value.int (nI c))] [] (SH, J, K, RF p s r)) (fun c hc ih => ?_) 0 (Nat.zero_le _) I L zKpt_rfl zKpt_rfl hV hd
  intro J K hJ hK hVJ hdK
  generalize hW : zIter (oAsk1 odds pr q) c S = W at *
  have ihW : zIter (oAsk1 odds pr q) (c + 1) S = oAsk1 odds pr q c W := by rw [zIter, hW]
  rw [ihW] at ih
  refine zBlkR (M := mX10_roundOn) (nL := 7) (rt := (Option.none : Option Jvm.ClassFile.FieldType)) (blk := bX10_roundOn_28) (T := [(83, bX10_roundOn_83), (146, bX10_roundOn_146), (185, bX10_roundOn_185), (191, bX10_roundOn_191)]) 2 hX10_roundOn_28 (zChks_cons hX10_roundOn_83 (zChks_cons hX10_roundOn_146 (zChks_cons hX10_roundOn_185 (zChks_cons hX10_roundOn_191 zChks_nil)))) rfl rfl rfl (Nat.le_of_ble_eq_true rfl) (Nat.le_of_ble_eq_true rfl) ?_
  simp only [bX10_roundOn_28, bX10_roundOn_83, bX10_roundOn_146, bX10_roundOn_185, bX10_roundOn_191, zRun_cons, zRun_nil, zLk, zSto, zIns, zFil, zf0, zf1, zf2, zf3, List.filter_cons, List.filter_nil, Nat.reduceAdd, Nat.reduceEqDiff, Nat.reduceLT, Nat.reduceLeDiff, Nat.reduceBEq, Nat.reduceBNe, reduceIte, if_true, if_false, Bool.false_and, Bool.true_and, Bool.and_true, Bool.and_false, Bool.not_false, Bool.not_true, Bool.false_eq_true, beq_self_eq_true, BEq.rfl, zCat1, zCat2, zCat3, zKdI, zKdL, zKdR, true_and, and_true, zSI, zSL, zSR, zu_at, and_self, and_false, false_and, lv_args, zKdZ, zKdO, zB01, zB11, Option.toList_none, Option.toList_some, List.nil_append, List.cons_append, true_or, or_true, zRow_rd, zu_rd, zo_iload, zo_aload_n, zo_getfield, zo_iconst, zo_iaload, zo_icmp_ge, zo_bipush, zo_iload_n, zo_imul, zo_iadd, zo_istore, zo_icmp_ne, zo_baload, zo_if_eq, zo_goto, zo_laload, zo_ldc2_w, zo_lmul, zo_ladd, zo_land, zo_lastore, zo_ldiv, zo_lrem, zo_i2l, zo_lcmp, zo_if_ge, zo_dup2, zo_dup2_2, zo_iastore, zo_bastore, zo_iinc, zo_return_, zi_1, zb_40, zi_2, zL_1103515245, zL_12345, zL_2147483647, zL_65536, zL_100, zb_7, zKd_10_36, zKd_10_57, zKd_10_58, zKd_10_61, zKd_10_63, zKd_10_62, zKd_10_67, sh_87, rf_87_36, sh_102, zcl_1, zcl_40, rf_87_57, sh_114, zcl_2, rf_87_58, sh_115, rf_87_61, sh_118, rf_87_63, sh_120, rf_87_62, sh_119, zcl_7, zvi_1_2, zvi_1_14, zvi_1_32, zvi_1_80, zvi_40_80, zvi_2_14, zvi_2_32, zvi_2_80, zvi_7_14, zvi_7_32, zvi_7_80, zKn_s, zKn_0, zFind, zCat2, lc_ge, zN10, zN01, not_true_eq_false, not_false_eq_true, false_implies, true_implies, implies_true, eq_self, nI_1, nI_40, nI_7, vz0, vz1, zb1_e0, zb1_n0]
  simp only [hJ.R (i := 102) (k := 1) (by omega), hI, zle_nat (a := ch) (b := c) (by omega) (by omega), nI_clamp (n := 40 * b + c) (by omega)]
  refine ⟨fun h => ?_, fun h => ?_⟩
  · have : c = ch := by omega
    subst this
    exact hQ _ _ hJ hK (by rw [hVJ, hW]) (by rw [hdK, hW])
  have hc4 : c < 40 := by omega
  have hv : vp_in (nI (40 * b + c)) 80 := zvn (by omega) (by omega)
  have hvb : vp_in (nI b) 2 := zvn (by omega) (by omega)
  have hv0 : vp_in (nI (7 * b + 0)) 14 := zvn (by omega) (by omega)
  have hv1 : vp_in (nI (7 * b + 1)) 14 := zvn (by omega) (by omega)
  have hv2 : vp_in (nI (7 * b + 2)) 14 := zvn (by omega) (by omega)
  have e1 : J 114 (40 * b + c) = W.1 1 c := by rw [← hVJ, vR_1 hc4]
  have e2 : J 115 (40 * b + c) = W.1 2 c := by rw [← hVJ, vR_2 hc4]
  have e5 : J 118 (40 * b + c) = W.1 5 c := by rw [← hVJ, vR_5 hc4]
  have e80 : J 119 (7 * b + 0) = W.1 8 0 := by rw [← hVJ, vR_8 (by omega)]
  have e81 : J 119 (7 * b + 1) = W.1 8 1 := by rw [← hVJ, vR_8 (by omega)]
  have e82 : J 119 (7 * b + 2) = W.1 8 2 := by rw [← hVJ, vR_8 (by omega)]
  have x70 : (7 : Int32) * nI b = nI (7 * b + 0) := by rw [show (7 : Int32) = nI 7 from rfl, pk_mul]; rfl
  have x71 : nI (7 * b + 0) + 1 = nI (7 * b + 1) := by rw [nI_1]
  have x72 : nI (7 * b + 0) + 2 = nI (7 * b + 2) := by rw [show (2 : Int32) = nI 2 from rfl, nI_add]
  simp only [hv, hvb, true_and, e1, e2, e5, nI_clamp (n := b) (by omega), hdK, x70, x71, x72, hv0, hv1, hv2, nI_clamp (n := 7 * b + 0) (by omega), nI_clamp (n := 7 * b + 1) (by omega), nI_clamp (n := 7 * b + 2) (by omega), hJ.R (i := 87) (k := 67) (by omega), hpr, e80, e81, e82]
  have n1 : (7 * b + 0 = 7 * b + 1) = False := eq_false (by omega)
  simp only [n1, and_false, if_false]
  refine ⟨fun g1 => ?_, fun g1 => ⟨fun g2 => ?_, fun g2 => ⟨fun g3 => ⟨by decide, by decide, fun g4 => ?_, fun g4 => ?_⟩, fun g3 => ?_⟩⟩⟩
  · have e : oAsk1 odds pr q c W = W := by rw [oAsk1, if_neg (fun q => g1 q.1)]
    rw [e] at ih
    exact zX.sub' (ih (by omega) J K hJ hK hVJ hdK) (by simp)
  · have e : oAsk1 odds pr q c W = W := by rw [oAsk1, if_neg (fun q => g2 q.2.1)]
    rw [e] at ih
    exact zX.sub' (ih (by omega) J K hJ hK hVJ hdK) (by simp)
  · have hh : oHit odds (oNext W.2) = false := decide_eq_false (Int64.not_lt.mpr g4)
    have e : oAsk1 odds pr q c W = (zu (zu (zu W.1 5 c 1) 8 1 (W.1 8 1 + 1)) 8 0 (W.1 8 0 + pr), oNext W.2) := by rw [oAsk1, if_pos ⟨g1, g2, g3⟩, hh]; rfl
    rw [e] at ih
    refine zX.sub' (ih (by omega) _ _ (((hJ.u ?_).u ?_).u ?_) (hK.u ?_) ?_ ?_) (by simp)
    · unfold zFR; omega
    · unfold zFR; omega
    · unfold zFR; omega
    · unfold zFRL; omega
    · rw [vR_u8 (by omega), vR_u8 (by omega), vR_u5 hc4, hVJ]
    · simp [zu_at, oNext]
  · have hh : oHit odds (oNext W.2) = true := decide_eq_true (Int64.not_le.mp g4)
    have e : oAsk1 odds pr q c W = (zu W.1 8 2 (W.1 8 2 + 1), oNext W.2) := by rw [oAsk1, if_pos ⟨g1, g2, g3⟩, hh]; rfl
    rw [e] at ih
    refine zX.sub' (ih (by omega) _ _ (hJ.u ?_) (hK.u ?_) ?_ ?_) (by simp)
    · unfold zFR; omega
    · unfold zFRL; omega
    · rw [vR_u8 (by omega), hVJ]
    · simp [zu_at, oNext]
  · have e : oAsk1 odds pr q c W = W := by rw [oAsk1, if_neg (fun q => g3 q.2.2)]
    rw [e] at ih
    exact zX.sub' (ih (by omega) J K hJ hK hVJ hdK) (by simp)
set_option maxRecDepth 20000 in
theorem mo_roundOn {t q : Nat} (hb : b < 2) (hq : q < 5) (hO : POk P) (hP : zRefP I P) (hM : zRefM I m rt) (hV : vR b I = S.1) (hd : L 120 b = S.2) (hQ : ∀ I' L', zKpt (zFR b) I I' → zKpt (zFRL b) L L' → vR b I' = (oAskAt (lwP P m (nI t)) (mNd m) (mPr m) (pCh P) q S).1 → L' 120 b = (oAskAt (lwP P m (nI t)) (mNd m) (mPr m) (pCh P) q S).2 → Q none (SH, I', L', RF p s r)) : zXM w mX10_roundOn rX10_roundOn [.ref 87, .int (nI b), .int (nI q), .int (nI t)] (SH, I, L, RF p s r) Q := by
  unfold zXM
  have hI : I 102 1 = nI (pCh P) := (zRef_env hO hP hM).2.2.2.1
  have hnd := hM.2.2.2.2.2.1
  refine zBlkR (M := mX10_roundOn) (nL := 7) (rt := (Option.none : Option Jvm.ClassFile.FieldType)) (blk := bX10_roundOn_0) (T := [(11, bX10_roundOn_11), (23, bX10_roundOn_23)]) 1 hX10_roundOn_0 (zChks_cons hX10_roundOn_11 (zChks_cons hX10_roundOn_23 zChks_nil)) rfl rfl rfl (Nat.le_of_ble_eq_true rfl) (Nat.le_of_ble_eq_true rfl) ?_
  simp only [bX10_roundOn_0, bX10_roundOn_11, bX10_roundOn_23, zRun_cons, zRun_nil, zLk, zSto, zIns, zFil, zf0, zf1, zf2, zf3, List.filter_cons, List.filter_nil, Nat.reduceAdd, Nat.reduceEqDiff, Nat.reduceLT, Nat.reduceLeDiff, Nat.reduceBEq, Nat.reduceBNe, reduceIte, if_true, if_false, Bool.false_and, Bool.true_and, Bool.and_true, Bool.and_false, Bool.not_false, Bool.not_true, Bool.false_eq_true, beq_self_eq_true, BEq.rfl, zCat1, zCat2, zCat3, zKdI, zKdL, zKdR, true_and, and_true, zSI, zSL, zSR, zu_at, and_self, and_false, false_and, lv_args, zKdZ, zKdO, zB01, zB11, Option.toList_none, Option.toList_some, List.nil_append, List.cons_append, true_or, or_true, zRow_rd, zu_rd, zo_aload_n, zo_getfield, zo_if_eq, zo_iconst, zo_goto, zo_iload_n, zo_bipush, zo_istore, zi_0, zi_2, zb_100, zKd_10_70, sh_87, zcl_0, zcl_2, zcl_100, zKn_s, zKn_0, zFind, hnd, zN10, zN01, not_true_eq_false, not_false_eq_true, false_implies, true_implies, implies_true, eq_self, nI_1, nI_40, nI_7, vz0, vz1, zb1_e0, zb1_n0]
  refine ⟨fun h => ?_, fun h => ?_⟩
  · refine z_cV0 (M' := mX10_boundLaw) (R' := rX10_boundLaw) (i := 87) [.int 2, .int (nI b), .int (nI q), .int (nI t), .int 0, .int 0, .int 100] [] eX10_boundLaw k10_469 (by decide +kernel : decode cX10_roundOn 20 = .ok (.invokevirtual 469, 3)) (Nat.le_of_ble_eq_true rfl) ⟨Nat.le_of_ble_eq_true rfl, Nat.le_of_ble_eq_true rfl, Nat.le_of_ble_eq_true rfl, Nat.le_of_ble_eq_true rfl, Nat.le_of_ble_eq_true rfl⟩ rfl rfl rfl sh_87 ?_
    refine mo_boundLaw (wh := 2) (by omega) hb (by omega) (zRef_env hO hP hM) (zRef_laws hO hP) hV (fun I1 L1 h1 h2 => ?_)
    rw [zRef_lw hP hM]
    refine zBlkR (M := mX10_roundOn) (nL := 7) (rt := (Option.none : Option Jvm.ClassFile.FieldType)) (blk := bX10_roundOn_23) (T := []) 0 hX10_roundOn_23 zChks_nil rfl rfl rfl (Nat.le_of_ble_eq_true rfl) (Nat.le_of_ble_eq_true rfl) ?_
    simp only [bX10_roundOn_23, zRun_cons, zRun_nil, zLk, zSto, zIns, zFil, zf0, zf1, zf2, zf3, List.filter_cons, List.filter_nil, Nat.reduceAdd, Nat.reduceEqDiff, Nat.reduceLT, Nat.reduceLeDiff, Nat.reduceBEq, Nat.reduceBNe, reduceIte, if_true, if_false, Bool.false_and, Bool.true_and, Bool.and_true, Bool.and_false, Bool.not_false, Bool.not_true, Bool.false_eq_true, beq_self_eq_true, BEq.rfl, zCat1, zCat2, zCat3, zKdI, zKdL, zKdR, true_and, and_true, zSI, zSL, zSR, zu_at, and_self, and_false, false_and, lv_args, zKdZ, zKdO, zB01, zB11, Option.toList_none, Option.toList_some, List.nil_append, List.cons_append, true_or, or_true, zRow_rd, zu_rd, zo_istore, zo_iconst, zi_0, zcl_0, zKn_0, zN10, zN01, not_true_eq_false, not_false_eq_true, false_implies, true_implies, implies_true, eq_self, nI_1, nI_40, nI_7, vz0, vz1, zb1_e0, zb1_n0]
    refine mo_round28 (S := S) (pr := mPr m) hb hq hO.1 (by rw [zErr_row h1 (by decide), hI]) (by rw [zErr_87 h1 (by decide)]; exact hM.1) (by rw [vR_err h1, hV]) (by rw [zErrL_120 h2, hd]) (fun I2 L2 k1 k2 k3 k4 => ?_)
    have e : oOdds (lwP P m (nI t)) (mNd m) (pCh P) q S.1 = oBL (lwP P m (nI t) 2 q (oCnt S.1 (nI q) 2 (pCh P)) (oCnt S.1 (nI q) 1 (pCh P))) 0 0 100 := by rw [oOdds, if_neg (by rw [h]; decide)]
    refine hQ I2 L2 ((zErr_FR h1).trans k1) ((zFRL_e h2).trans k2) ?_ ?_
    · rw [oAskAt, e]; exact k3
    · rw [oAskAt, e]; exact k4
  · have e : oOdds (lwP P m (nI t)) (mNd m) (pCh P) q S.1 = 0 := by rw [oOdds, if_pos (by simpa using h)]
    refine mo_round28 (S := S) hb hq hO.1 hI hM.1 hV hd (fun I2 L2 k1 k2 k3 k4 => ?_)
    refine hQ I2 L2 k1 k2 ?_ ?_
    · rw [oAskAt, e]; exact k3
    · rw [oAskAt, e]; exact k4
set_option maxRecDepth 20000 in
theorem mo_step105 {t : Nat} {x3 x4 : Int32} (hb : b < 2) (ht : t < 2 ^ 20) (hO : POk P) (hR : ROk P rt t) (hP : zRefP I P) (hM : zRefM I m rt) (hV : vR b I = S.1) (hd : L 120 b = S.2) (hQ : ∀ I' L', zKpt (zFR b) I I' → zKpt (zFRL b) L L' → vR b I' = (oRound (lwP P m (nI t)) (mNd m) (mPr m) (pCh P) rt.1 rt.2.1 rt.2.2 (m2 m) t S).1 → L' 120 b = (oRound (lwP P m (nI t)) (mNd m) (mPr m) (pCh P) rt.1 rt.2.1 rt.2.2 (m2 m) t S).2 → Q none (SH, I', L', RF p s r)) : zX w mX10_step rX10_step Q 0 0 105 [(0, Value.ref 87), (1, Value.int (nI b)), (2, Value.int (nI t)), (3, Value.int x3), (4, Value.int x4)] [] (SH, I, L, RF p s r) := by
  obtain ⟨r8, rf, rp⟩ := hR
  have h75 := hM.2.2.2.2.2.2.2.2.1
  have h76 := hM.2.2.2.2.2.2.2.2.2.1
  have h122 := hM.2.2.2.2.2.2.2.2.2.2
  have hnp := hO.2.1
  by_cases h0 : rt.1 = 0
  · have e0 : I 87 75 = 0 := by rw [h75, h0]; rfl
    refine zBlkR (M := mX10_step) (nL := 6) (rt := (Option.none : Option Jvm.ClassFile.FieldType)) (blk := bX10_step_105) (T := [(113, bX10_step_113)]) 1 hX10_step_105 (zChks_cons hX10_step_113 zChks_nil) rfl rfl rfl (Nat.le_of_ble_eq_true rfl) (Nat.le_of_ble_eq_true rfl) ?_
    simp only [bX10_step_105, bX10_step_113, zRun_cons, zRun_nil, zLk, zSto, zIns, zFil, zf0, zf1, zf2, zf3, List.filter_cons, List.filter_nil, Nat.reduceAdd, Nat.reduceEqDiff, Nat.reduceLT, Nat.reduceLeDiff, Nat.reduceBEq, Nat.reduceBNe, reduceIte, if_true, if_false, Bool.false_and, Bool.true_and, Bool.and_true, Bool.and_false, Bool.not_false, Bool.not_true, Bool.false_eq_true, beq_self_eq_true, BEq.rfl, zCat1, zCat2, zCat3, zKdI, zKdL, zKdR, true_and, and_true, zSI, zSL, zSR, zu_at, and_self, and_false, false_and, lv_args, zKdZ, zKdO, zB01, zB11, Option.toList_none, Option.toList_some, List.nil_append, List.cons_append, true_or, or_true, zRow_rd, zu_rd, zo_aload_n, zo_getfield, zo_if_ne, zo_return_, zo_iload_n, zo_isub, zo_irem, zo_istore, zo_iload, zo_iaload, zKd_10_75, zKd_10_76, zKd_10_77, sh_87, rf_87_77, sh_122, zKn_s, zKn_0, zFind, e0, zN10, zN01, not_true_eq_false, not_false_eq_true, false_implies, true_implies, implies_true, eq_self, nI_1, nI_40, nI_7, vz0, vz1, zb1_e0, zb1_n0]
    exact hQ I L zKpt_rfl zKpt_rfl (by rw [oRound, if_pos h0]; exact hV) (by rw [oRound, if_pos h0]; exact hd)
  · have e1 : ¬ nI rt.1 = 0 := nI_ne0 (by omega) (by omega)
    have hlt : (t - rt.2.1) % rt.1 < rt.1 := Nat.mod_lt _ (by omega)
    have x1 : nI t - nI rt.2.1 = nI (t - rt.2.1) := pk_sub rf
    have x2 : nI (t - rt.2.1) - nI (t - rt.2.1) / nI rt.1 * nI rt.1 = nI ((t - rt.2.1) % rt.1) := pk_rem (by omega) (by omega) (by omega)
    generalize hk : (t - rt.2.1) % rt.1 = k at *
    have hv : vp_in (nI k) 8 := zvn (by omega) (by omega)
    have e3 := h122 k (by omega)
    have hq := rp k (by omega)
    refine zBlkR (M := mX10_step) (nL := 6) (rt := (Option.none : Option Jvm.ClassFile.FieldType)) (blk := bX10_step_105) (T := [(113, bX10_step_113)]) 1 hX10_step_105 (zChks_cons hX10_step_113 zChks_nil) rfl rfl rfl (Nat.le_of_ble_eq_true rfl) (Nat.le_of_ble_eq_true rfl) ?_
    simp only [bX10_step_105, bX10_step_113, zRun_cons, zRun_nil, zLk, zSto, zIns, zFil, zf0, zf1, zf2, zf3, List.filter_cons, List.filter_nil, Nat.reduceAdd, Nat.reduceEqDiff, Nat.reduceLT, Nat.reduceLeDiff, Nat.reduceBEq, Nat.reduceBNe, reduceIte, if_true, if_false, Bool.false_and, Bool.true_and, Bool.and_true, Bool.and_false, Bool.not_false, Bool.not_true, Bool.false_eq_true, beq_self_eq_true, BEq.rfl, zCat1, zCat2, zCat3, zKdI, zKdL, zKdR, true_and, and_true, zSI, zSL, zSR, zu_at, and_self, and_false, false_and, lv_args, zKdZ, zKdO, zB01, zB11, Option.toList_none, Option.toList_some, List.nil_append, List.cons_append, true_or, or_true, zRow_rd, zu_rd, zo_aload_n, zo_getfield, zo_if_ne, zo_return_, zo_iload_n, zo_isub, zo_irem, zo_istore, zo_iload, zo_iaload, zKd_10_75, zKd_10_76, zKd_10_77, sh_87, rf_87_77, sh_122, zKn_s, zKn_0, zFind, h75, h76, e1, x1, x2, hv, e3, nI_clamp (n := k) (by omega), zN10, zN01, not_true_eq_false, not_false_eq_true, false_implies, true_implies, implies_true, eq_self, nI_1, nI_40, nI_7, vz0, vz1, zb1_e0, zb1_n0]
    refine z_cV0 (M' := mX10_roundOn) (R' := rX10_roundOn) (i := 87) [.int (nI b), .int (nI (rt.2.2 k)), .int (nI t)] [] eX10_roundOn k10_495 (by decide +kernel : decode cX10_step 136 = .ok (.invokevirtual 495, 3)) (Nat.le_of_ble_eq_true rfl) ⟨Nat.le_of_ble_eq_true rfl, Nat.le_of_ble_eq_true rfl, Nat.le_of_ble_eq_true rfl, Nat.le_of_ble_eq_true rfl, Nat.le_of_ble_eq_true rfl⟩ rfl rfl rfl sh_87 ?_
    refine mo_roundOn hb (by omega) hO hP hM hV hd (fun I1 L1 k1 k2 k3 k4 => ?_)
    have hP1 := zRefP_R k1 hP
    have hM1 := zRefM_R k1 hM
    have g75 := hM1.2.2.2.2.2.2.2.2.1
    have g74 := hM1.2.2.2.2.2.2.2.1
    have g122 := hM1.2.2.2.2.2.2.2.2.2.2
    have x3 : nI rt.1 - 1 - nI k = nI (rt.1 - 1 - k) := by rw [show (1 : Int32) = nI 1 from rfl, pk_sub (by omega), pk_sub (by omega)]
    have hv2 : vp_in (nI (rt.1 - 1 - k)) 8 := zvn (by omega) (by omega)
    have e4 := g122 (rt.1 - 1 - k) (by omega)
    have hq2 := rp (rt.1 - 1 - k) (by omega)
    refine zBlkR (M := mX10_step) (nL := 6) (rt := (Option.none : Option Jvm.ClassFile.FieldType)) (blk := bX10_step_139) (T := [(166, bX10_step_166)]) 1 hX10_step_139 (zChks_cons hX10_step_166 zChks_nil) rfl rfl rfl (Nat.le_of_ble_eq_true rfl) (Nat.le_of_ble_eq_true rfl) ?_
    simp only [bX10_step_139, bX10_step_166, zRun_cons, zRun_nil, zLk, zSto, zIns, zFil, zf0, zf1, zf2, zf3, List.filter_cons, List.filter_nil, Nat.reduceAdd, Nat.reduceEqDiff, Nat.reduceLT, Nat.reduceLeDiff, Nat.reduceBEq, Nat.reduceBNe, reduceIte, if_true, if_false, Bool.false_and, Bool.true_and, Bool.and_true, Bool.and_false, Bool.not_false, Bool.not_true, Bool.false_eq_true, beq_self_eq_true, BEq.rfl, zCat1, zCat2, zCat3, zKdI, zKdL, zKdR, true_and, and_true, zSI, zSL, zSR, zu_at, and_self, and_false, false_and, lv_args, zKdZ, zKdO, zB01, zB11, Option.toList_none, Option.toList_some, List.nil_append, List.cons_append, true_or, or_true, zRow_rd, zu_rd, zo_aload_n, zo_getfield, zo_if_eq, zo_iload_n, zo_iconst, zo_isub, zo_iload, zo_iaload, zo_return_, zi_1, zKd_10_74, zKd_10_77, zKd_10_75, sh_87, rf_87_77, sh_122, zcl_1, zvi_1_8, zKn_s, zKn_0, zFind, g75, g74, x3, hv2, e4, nI_clamp (n := rt.1 - 1 - k) (by omega), zN10, zN01, not_true_eq_false, not_false_eq_true, false_implies, true_implies, implies_true, eq_self, nI_1, nI_40, nI_7, vz0, vz1, zb1_e0, zb1_n0]
    refine ⟨fun h => ?_, fun h => ?_⟩
    · refine hQ I1 L1 k1 k2 ?_ ?_
      · rw [oRound, if_neg h0, if_neg (by rw [h]; decide), hk]; exact k3
      · rw [oRound, if_neg h0, if_neg (by rw [h]; decide), hk]; exact k4
    · have h2 : m2 m = true := by simpa using h
      refine z_cV0 (M' := mX10_roundOn) (R' := rX10_roundOn) (i := 87) [.int (nI b), .int (nI (rt.2.2 (rt.1 - 1 - k))), .int (nI t)] [] eX10_roundOn k10_495 (by decide +kernel : decode cX10_step 163 = .ok (.invokevirtual 495, 3)) (Nat.le_of_ble_eq_true rfl) ⟨Nat.le_of_ble_eq_true rfl, Nat.le_of_ble_eq_true rfl, Nat.le_of_ble_eq_true rfl, Nat.le_of_ble_eq_true rfl, Nat.le_of_ble_eq_true rfl⟩ rfl rfl rfl sh_87 ?_
      refine mo_roundOn hb (by omega) hO hP1 hM1 k3 k4 (fun I2 L2 l1 l2 l3 l4 => ?_)
      refine zBlkR (M := mX10_step) (nL := 6) (rt := (Option.none : Option Jvm.ClassFile.FieldType)) (blk := bX10_step_166) (T := []) 0 hX10_step_166 zChks_nil rfl rfl rfl (Nat.le_of_ble_eq_true rfl) (Nat.le_of_ble_eq_true rfl) ?_
      simp only [bX10_step_166, zRun_cons, zRun_nil, zLk, zSto, zIns, zFil, zf0, zf1, zf2, zf3, List.filter_cons, List.filter_nil, Nat.reduceAdd, Nat.reduceEqDiff, Nat.reduceLT, Nat.reduceLeDiff, Nat.reduceBEq, Nat.reduceBNe, reduceIte, if_true, if_false, Bool.false_and, Bool.true_and, Bool.and_true, Bool.and_false, Bool.not_false, Bool.not_true, Bool.false_eq_true, beq_self_eq_true, BEq.rfl, zCat1, zCat2, zCat3, zKdI, zKdL, zKdR, true_and, and_true, zSI, zSL, zSR, zu_at, and_self, and_false, false_and, lv_args, zKdZ, zKdO, zB01, zB11, Option.toList_none, Option.toList_some, List.nil_append, List.cons_append, true_or, or_true, zRow_rd, zu_rd, zo_return_, zKn_0, zN10, zN01, not_true_eq_false, not_false_eq_true, false_implies, true_implies, implies_true, eq_self, nI_1, nI_40, nI_7, vz0, vz1, zb1_e0, zb1_n0]
      refine hQ I2 L2 (k1.trans l1) (k2.trans l2) ?_ ?_
      · rw [oRound, if_neg h0, if_pos h2, hk]; exact l3
      · rw [oRound, if_neg h0, if_pos h2, hk]; exact l4
theorem oOk_V1 {t : Nat} (hch : pCh P ≤ 40) (h : oOk (pCh P) (pNp P) wm V) : oOk (pCh P) (pNp P) wm (oV1 P t V) := zIter_lt (N := pCh P) (fun c a h1 h => oOk_tide (by omega) h) (pCh P) V (Nat.le_refl _) h
theorem oOk_V4 {t : Nat} (hch : pCh P ≤ 40) (h : oOk (pCh P) (pNp P) (pR P 102 8) V) : oOk (pCh P) (pNp P) (pR P 102 8) (oV4 P m t V) := by
  unfold oV4
  split
  · exact zIter_ok (fun c a h => oOk_go h) _ _ (zIter_lt (N := pCh P) (fun c a h1 h => oOk_rain (by omega) h) (pCh P) _ (Nat.le_refl _) (oOk_V1 hch h))
  · exact zIter_ok (fun c a h => oOk_come h) _ _ (zIter_ok (fun c a h => oOk_go h) _ _ (oOk_V1 hch h))
theorem oOk_G {t : Nat} (hch : pCh P ≤ 40) (h : oOk (pCh P) (pNp P) (pR P 102 8) S.1) : oOk (pCh P) (pNp P) (pR P 102 8) (oG P m rt t S).1 := by
  have h4 : oOk (pCh P) (pNp P) (pR P 102 8) (oV4 P m t S.1, S.2).1 := oOk_V4 hch h
  unfold oG oRound
  split
  · exact h4
  · split
    · exact oOk_askAt (oOk_askAt h4)
    · exact oOk_askAt h4
set_option maxRecDepth 20000 in
/-- sitters come -/
theorem mo_step39 {t : Nat} {V3 : Nat → Nat → Int32} (hb : b < 2) (ht : t < 2 ^ 20) (hO : POk P) (hR : ROk P rt t) (hP : zRefP I P) (hM : zRefM I m rt) (hV : vR b I = V3) (hd : L 120 b = S.2) (hrn : pRains P m t = false) (hV4 : oV4 P m t S.1 = zIter (fun _ => oCm P m t) (pComers P (mAb m) (nI t) (pNc P)) V3) (hQ : ∀ I' L', zKpt (zFR b) I I' → zKpt (zFRL b) L L' → vR b I' = (oG P m rt t S).1 → L' 120 b = (oG P m rt t S).2 → Q none (SH, I', L', RF p s r)) : zX w mX10_step rX10_step Q 0 0 39 [(0, Value.ref 87), (1, Value.int (nI b)), (2, Value.int (nI t)), (3, Value.int 0), (4, Value.int (nI 0))] [] (SH, I, L, RF p s r) := by
  have hnc := hO.2.2.1
  refine zLoop (n := pNc P) (P := fun k => ∀ J K, zKpt (zFR b) I J → zKpt (zFRL b) L K → K 120 b = S.2 → vR b J = zIter (fun _ => oCm P m t) (pComers P (mAb m) (nI t) k) V3 → zX w mX10_step rX10_step Q 0 0 39 [(0, Value.ref 87), (1, Value.int (nI b)), (2, Value.int (nI t)), (3, Value.int 0), (4, Value.int (nI k))] [] (SH, J, K, RF p s r)) (fun k hk ih => ?_) 0 (Nat.zero_le _) I L zKpt_rfl zKpt_rfl hd hV
  intro J K hJ hK hd1 hVJ
  have hP1 := zRefP_R hJ hP
  have hM1 := zRefM_R hJ hM
  have g13 := hP1.2.2.1
  refine zBlkR (M := mX10_step) (nL := 6) (rt := (Option.none : Option Jvm.ClassFile.FieldType)) (blk := bX10_step_39) (T := []) 0 hX10_step_39 zChks_nil rfl rfl rfl (Nat.le_of_ble_eq_true rfl) (Nat.le_of_ble_eq_true rfl) ?_
  simp only [bX10_step_39, zRun_cons, zRun_nil, zLk, zSto, zIns, zFil, zf0, zf1, zf2, zf3, List.filter_cons, List.filter_nil, Nat.reduceAdd, Nat.reduceEqDiff, Nat.reduceLT, Nat.reduceLeDiff, Nat.reduceBEq, Nat.reduceBNe, reduceIte, if_true, if_false, Bool.false_and, Bool.true_and, Bool.and_true, Bool.and_false, Bool.not_false, Bool.not_true, Bool.false_eq_true, beq_self_eq_true, BEq.rfl, zCat1, zCat2, zCat3, zKdI, zKdL, zKdR, true_and, and_true, zSI, zSL, zSR, zu_at, and_self, and_false, false_and, lv_args, zKdZ, zKdO, zB01, zB11, Option.toList_none, Option.toList_some, List.nil_append, List.cons_append, true_or, or_true, zRow_rd, zu_rd, zo_iload, zo_aload_n, zo_getfield, zo_icmp_ge, zo_iload_n, zo_if_ne, zo_iconst, zo_istore, zi_0, zKd_10_13, sh_87, zcl_0, zKn_0, g13, zle_nat (a := pNc P) (b := k) (by omega) (by omega), zN10, zN01, not_true_eq_false, not_false_eq_true, false_implies, true_implies, implies_true, eq_self, nI_1, nI_40, nI_7, vz0, vz1, zb1_e0, zb1_n0]
  refine ⟨fun h => ?_, fun h => ?_⟩
  · have : k = pNc P := by omega
    subst this
    refine mo_step105 (S := (oV4 P m t S.1, S.2)) hb ht hO hR hP1 hM1 (by rw [hVJ, hV4]) hd1 (fun I2 L2 l1 l2 l3 l4 => ?_)
    exact hQ I2 L2 (hJ.trans l1) (hK.trans l2) l3 l4
  have hk2 : k < pNc P := by omega
  obtain ⟨n, hn, e95⟩ := hO.2.2.2.2.2.2.2 k hk2
  have f95 : J 95 k = nI n := by rw [hP1.1 95 (by omega) (by omega), e95]
  have f94 : J 94 k = pR P 94 k := by rw [hP1.1 94 (by omega) (by omega)]
  have g73 := hM1.2.2.1
  have hv : vp_in (nI k) 32 := zvn (by omega) (by omega)
  have ih := ih hk2
  unfold pComers at ih hVJ
  rw [oComers] at ih
  by_cases hc : pR P 94 k = nI t ∧ nI k ≠ mAb m
  · rw [if_pos hc, e95, nI_clamp (by omega)] at ih
    refine zLoop (n := n) (P := fun j => ∀ J2 K2, zKpt (zFR b) J J2 → zKpt (zFRL b) K K2 → K2 120 b = S.2 → vR b J2 = zIter (fun _ => oCm P m t) (oComers (pR P 94) (pR P 95) (mAb m) (nI t) k + j) V3 → zX w mX10_step rX10_step Q 0 0 55 [(0, Value.ref 87), (1, Value.int (nI b)), (2, Value.int (nI t)), (3, Value.int 0), (4, Value.int (nI k)), (5, Value.int (nI j))] [] (SH, J2, K2, RF p s r)) (fun j hj ih2 => ?_) 0 (Nat.zero_le _) J K zKpt_rfl zKpt_rfl hd1 hVJ
    intro J2 K2 hJ2 hK2 hd2 hVJ2
    have hP2 := zRefP_R hJ2 hP1
    have hM2 := zRefM_R hJ2 hM1
    have f95 : J2 95 k = nI n := by rw [hP2.1 95 (by omega) (by omega), e95]
    have f94 : J2 94 k = nI t := by rw [hP2.1 94 (by omega) (by omega), hc.1]
    have g73 := hM2.2.2.1
    have hc2 : (nI k = mAb m) = False := eq_false hc.2
    refine zBlkR (M := mX10_step) (nL := 6) (rt := (Option.none : Option Jvm.ClassFile.FieldType)) (blk := bX10_step_55) (T := [(99, bX10_step_99)]) 1 hX10_step_55 (zChks_cons hX10_step_99 zChks_nil) rfl rfl rfl (Nat.le_of_ble_eq_true rfl) (Nat.le_of_ble_eq_true rfl) ?_
    simp only [bX10_step_55, bX10_step_99, zRun_cons, zRun_nil, zLk, zSto, zIns, zFil, zf0, zf1, zf2, zf3, List.filter_cons, List.filter_nil, Nat.reduceAdd, Nat.reduceEqDiff, Nat.reduceLT, Nat.reduceLeDiff, Nat.reduceBEq, Nat.reduceBNe, reduceIte, if_true, if_false, Bool.false_and, Bool.true_and, Bool.and_true, Bool.and_false, Bool.not_false, Bool.not_true, Bool.false_eq_true, beq_self_eq_true, BEq.rfl, zCat1, zCat2, zCat3, zKdI, zKdL, zKdR, true_and, and_true, zSI, zSL, zSR, zu_at, and_self, and_false, false_and, lv_args, zKdZ, zKdO, zB01, zB11, Option.toList_none, Option.toList_some, List.nil_append, List.cons_append, true_or, or_true, zRow_rd, zu_rd, zo_iload, zo_aload_n, zo_getfield, zo_iaload, zo_icmp_ge, zo_iload_n, zo_icmp_ne, zo_icmp_eq, zo_iinc, zo_goto, zi_1, zKd_10_29, zKd_10_28, zKd_10_73, sh_87, rf_87_29, sh_95, rf_87_28, sh_94, zKn_s, zKn_0, zFind, hv, f95, f94, g73, hc2, nI_clamp (n := k) (by omega), zle_nat (a := n) (b := j) (by omega) (by omega), zN10, zN01, not_true_eq_false, not_false_eq_true, false_implies, true_implies, implies_true, eq_self, nI_1, nI_40, nI_7, vz0, vz1, zb1_e0, zb1_n0]
    refine ⟨fun h => ?_, fun h => ?_⟩
    · have : j = n := by omega
      subst this
      exact zX.sub' (ih J2 K2 (hJ.trans hJ2) (hK.trans hK2) hd2 hVJ2) (by simp)
    · refine z_cV0 (M' := mX10_comesOn) (R' := rX10_comesOn) (i := 87) [.int (nI b), .int (nI t)] [] eX10_comesOn k10_492 (by decide +kernel : decode cX10_step 90 = .ok (.invokevirtual 492, 3)) (Nat.le_of_ble_eq_true rfl) ⟨Nat.le_of_ble_eq_true rfl, Nat.le_of_ble_eq_true rfl, Nat.le_of_ble_eq_true rfl, Nat.le_of_ble_eq_true rfl, Nat.le_of_ble_eq_true rfl⟩ rfl rfl rfl sh_87 ?_
      refine mo_comesOn hb hO.2.1 hP2.2.1 (zRef_env hO hP2 hM2) (zRef_laws hO hP2) hVJ2 (fun I3 L3 l1 l2 l3 => ?_)
      refine zBlkR (M := mX10_step) (nL := 6) (rt := (Option.none : Option Jvm.ClassFile.FieldType)) (blk := bX10_step_93) (T := []) 0 hX10_step_93 zChks_nil rfl rfl rfl (Nat.le_of_ble_eq_true rfl) (Nat.le_of_ble_eq_true rfl) ?_
      simp only [bX10_step_93, zRun_cons, zRun_nil, zLk, zSto, zIns, zFil, zf0, zf1, zf2, zf3, List.filter_cons, List.filter_nil, Nat.reduceAdd, Nat.reduceEqDiff, Nat.reduceLT, Nat.reduceLeDiff, Nat.reduceBEq, Nat.reduceBNe, reduceIte, if_true, if_false, Bool.false_and, Bool.true_and, Bool.and_true, Bool.and_false, Bool.not_false, Bool.not_true, Bool.false_eq_true, beq_self_eq_true, BEq.rfl, zCat1, zCat2, zCat3, zKdI, zKdL, zKdR, true_and, and_true, zSI, zSL, zSR, zu_at, and_self, and_false, false_and, lv_args, zKdZ, zKdO, zB01, zB11, Option.toList_none, Option.toList_some, List.nil_append, List.cons_append, true_or, or_true, zRow_rd, zu_rd, zo_iinc, zo_goto, zi_1, zKn_0, zN10, zN01, not_true_eq_false, not_false_eq_true, false_implies, true_implies, implies_true, eq_self, nI_1, nI_40, nI_7, vz0, vz1, zb1_e0, zb1_n0]
      refine ih2 (by omega) I3 L3 (hJ2.trans l1) (hK2.trans (zFRL_e l2)) (by rw [zErrL_120 l2, hd2]) ?_
      rw [l3, zRef_lw hP2 hM2, hP2.1 91 (by omega) (by omega), hM2.2.1]
      rfl
  · rw [if_neg hc] at ih
    refine zBlkR (M := mX10_step) (nL := 6) (rt := (Option.none : Option Jvm.ClassFile.FieldType)) (blk := bX10_step_55) (T := [(99, bX10_step_99)]) 1 hX10_step_55 (zChks_cons hX10_step_99 zChks_nil) rfl rfl rfl (Nat.le_of_ble_eq_true rfl) (Nat.le_of_ble_eq_true rfl) ?_
    simp only [bX10_step_55, bX10_step_99, zRun_cons, zRun_nil, zLk, zSto, zIns, zFil, zf0, zf1, zf2, zf3, List.filter_cons, List.filter_nil, Nat.reduceAdd, Nat.reduceEqDiff, Nat.reduceLT, Nat.reduceLeDiff, Nat.reduceBEq, Nat.reduceBNe, reduceIte, if_true, if_false, Bool.false_and, Bool.true_and, Bool.and_true, Bool.and_false, Bool.not_false, Bool.not_true, Bool.false_eq_true, beq_self_eq_true, BEq.rfl, zCat1, zCat2, zCat3, zKdI, zKdL, zKdR, true_and, and_true, zSI, zSL, zSR, zu_at, and_self, and_false, false_and, lv_args, zKdZ, zKdO, zB01, zB11, Option.toList_none, Option.toList_some, List.nil_append, List.cons_append, true_or, or_true, zRow_rd, zu_rd, zo_iload, zo_aload_n, zo_getfield, zo_iaload, zo_icmp_ge, zo_iload_n, zo_icmp_ne, zo_icmp_eq, zo_iinc, zo_goto, zi_1, zKd_10_29, zKd_10_28, zKd_10_73, sh_87, rf_87_29, sh_95, rf_87_28, sh_94, zKn_s, zKn_0, zFind, hv, f95, f94, g73, nI_clamp (n := k) (by omega), zN10, zN01, not_true_eq_false, not_false_eq_true, false_implies, true_implies, implies_true, eq_self, nI_1, nI_40, nI_7, vz0, vz1, zb1_e0, zb1_n0]
    refine ⟨fun _ => zX.sub' (ih J K hJ hK hd1 hVJ) (by simp), fun _ => ⟨fun _ => zX.sub' (ih J K hJ hK hd1 hVJ) (by simp), fun q1 => ⟨fun _ => zX.sub' (ih J K hJ hK hd1 hVJ) (by simp), fun q2 => absurd ⟨q1, q2⟩ hc⟩⟩⟩
set_option maxRecDepth 20000 in
theorem mo_step {t : Nat} (hb : b < 2) (ht : t < 2 ^ 20) (hO : POk P) (hR : ROk P rt t) (hP : zRefP I P) (hM : zRefM I m rt) (hV : vR b I = S.1) (hd : L 120 b = S.2) (hok : oOk (pCh P) (pNp P) (pR P 102 8) S.1) (hQ : ∀ I' L', zKpt (zFR b) I I' → zKpt (zFRL b) L L' → vR b I' = (oG P m rt t S).1 → L' 120 b = (oG P m rt t S).2 → Q none (SH, I', L', RF p s r)) : zXM w mX10_step rX10_step [.ref 87, .int (nI b), .int (nI t)] (SH, I, L, RF p s r) Q := by
  unfold zXM
  have hI : I 102 1 = nI (pCh P) := (zRef_env hO hP hM).2.2.2.1
  refine zBlkR (M := mX10_step) (nL := 6) (rt := (Option.none : Option Jvm.ClassFile.FieldType)) (blk := bX10_step_0) (T := []) 0 hX10_step_0 zChks_nil rfl rfl rfl (Nat.le_of_ble_eq_true rfl) (Nat.le_of_ble_eq_true rfl) ?_
  simp only [bX10_step_0, zRun_cons, zRun_nil, zLk, zSto, zIns, zFil, zf0, zf1, zf2, zf3, List.filter_cons, List.filter_nil, Nat.reduceAdd, Nat.reduceEqDiff, Nat.reduceLT, Nat.reduceLeDiff, Nat.reduceBEq, Nat.reduceBNe, reduceIte, if_true, if_false, Bool.false_and, Bool.true_and, Bool.and_true, Bool.and_false, Bool.not_false, Bool.not_true, Bool.false_eq_true, beq_self_eq_true, BEq.rfl, zCat1, zCat2, zCat3, zKdI, zKdL, zKdR, true_and, and_true, zSI, zSL, zSR, zu_at, and_self, and_false, false_and, lv_args, zKdZ, zKdO, zB01, zB11, Option.toList_none, Option.toList_some, List.nil_append, List.cons_append, true_or, or_true, zRow_rd, zu_rd, zo_aload_n, zo_iload_n, zKn_0, zN10, zN01, not_true_eq_false, not_false_eq_true, false_implies, true_implies, implies_true, eq_self, nI_1, nI_40, nI_7, vz0, vz1, zb1_e0, zb1_n0]
  refine z_cV0 (M' := mX10_tideOn) (R' := rX10_tideOn) (i := 87) [.int (nI b), .int (nI t)] [] eX10_tideOn k10_483 (by decide +kernel : decode cX10_step 3 = .ok (.invokevirtual 483, 3)) (Nat.le_of_ble_eq_true rfl) ⟨Nat.le_of_ble_eq_true rfl, Nat.le_of_ble_eq_true rfl, Nat.le_of_ble_eq_true rfl, Nat.le_of_ble_eq_true rfl, Nat.le_of_ble_eq_true rfl⟩ rfl rfl rfl sh_87 ?_
  refine mo_tideOn (hit := pHit P t) (np := pNp P) (wm := pR P 102 8) hb hO.1 hO.2.1 hI (fun q hq => ?_) hV hok (fun I1 k1 v1 => ?_)
  · have := hO.2.1
    rw [pHit, nI_clamp (by omega), hP.1 93 (by omega) (by omega)]
  have v1 : vR b I1 = oV1 P t S.1 := v1
  have hP1 := zRefP_R k1 hP
  have hM1 := zRefM_R k1 hM
  have hI1 : I1 102 1 = nI (pCh P) := (zRef_env hO hP1 hM1).2.2.2.1
  refine zBlkR (M := mX10_step) (nL := 6) (rt := (Option.none : Option Jvm.ClassFile.FieldType)) (blk := bX10_step_6) (T := []) 0 hX10_step_6 zChks_nil rfl rfl rfl (Nat.le_of_ble_eq_true rfl) (Nat.le_of_ble_eq_true rfl) ?_
  simp only [bX10_step_6, zRun_cons, zRun_nil, zLk, zSto, zIns, zFil, zf0, zf1, zf2, zf3, List.filter_cons, List.filter_nil, Nat.reduceAdd, Nat.reduceEqDiff, Nat.reduceLT, Nat.reduceLeDiff, Nat.reduceBEq, Nat.reduceBNe, reduceIte, if_true, if_false, Bool.false_and, Bool.true_and, Bool.and_true, Bool.and_false, Bool.not_false, Bool.not_true, Bool.false_eq_true, beq_self_eq_true, BEq.rfl, zCat1, zCat2, zCat3, zKdI, zKdL, zKdR, true_and, and_true, zSI, zSL, zSR, zu_at, and_self, and_false, false_and, lv_args, zKdZ, zKdO, zB01, zB11, Option.toList_none, Option.toList_some, List.nil_append, List.cons_append, true_or, or_true, zRow_rd, zu_rd, zo_aload_n, zo_iload_n, zKn_0, zN10, zN01, not_true_eq_false, not_false_eq_true, false_implies, true_implies, implies_true, eq_self, nI_1, nI_40, nI_7, vz0, vz1, zb1_e0, zb1_n0]
  refine z_cV0 (M' := mX10_skyOn) (R' := rX10_skyOn) (i := 87) [.int (nI t)] [] eX10_skyOn k10_438 (by decide +kernel : decode cX10_step 8 = .ok (.invokevirtual 438, 3)) (Nat.le_of_ble_eq_true rfl) ⟨Nat.le_of_ble_eq_true rfl, Nat.le_of_ble_eq_true rfl, Nat.le_of_ble_eq_true rfl, Nat.le_of_ble_eq_true rfl, Nat.le_of_ble_eq_true rfl⟩ rfl rfl rfl sh_87 ?_
  refine mo_skyOn (ns := pNs P) (nr := mNr m) hO.2.2.2.1 hP1.2.2.2.1 hM1.2.2.2.1 ?_
  rw [hP1.1 96 (by omega) (by omega), hP1.1 97 (by omega) (by omega)]
  refine zBlkR (M := mX10_step) (nL := 6) (rt := (Option.none : Option Jvm.ClassFile.FieldType)) (blk := bX10_step_11) (T := [(19, bX10_step_19), (20, bX10_step_20), (30, bX10_step_30)]) 2 hX10_step_11 (zChks_cons hX10_step_19 (zChks_cons hX10_step_20 (zChks_cons hX10_step_30 zChks_nil))) rfl rfl rfl (Nat.le_of_ble_eq_true rfl) (Nat.le_of_ble_eq_true rfl) ?_
  simp only [bX10_step_11, bX10_step_19, bX10_step_20, bX10_step_30, zRun_cons, zRun_nil, zLk, zSto, zIns, zFil, zf0, zf1, zf2, zf3, List.filter_cons, List.filter_nil, Nat.reduceAdd, Nat.reduceEqDiff, Nat.reduceLT, Nat.reduceLeDiff, Nat.reduceBEq, Nat.reduceBNe, reduceIte, if_true, if_false, Bool.false_and, Bool.true_and, Bool.and_true, Bool.and_false, Bool.not_false, Bool.not_true, Bool.false_eq_true, beq_self_eq_true, BEq.rfl, zCat1, zCat2, zCat3, zKdI, zKdL, zKdR, true_and, and_true, zSI, zSL, zSR, zu_at, and_self, and_false, false_and, lv_args, zKdZ, zKdO, zB01, zB11, Option.toList_none, Option.toList_some, List.nil_append, List.cons_append, true_or, or_true, zRow_rd, zu_rd, zo_iconst, zo_icmp_ne, zo_goto, zo_istore_n, zo_iload_n, zo_if_eq, zo_aload_n, zi_2, zi_1, zi_0, zcl_2, zcl_1, zcl_0, zKn_s, zKn_0, zFind, zN10, zN01, not_true_eq_false, not_false_eq_true, false_implies, true_implies, implies_true, eq_self, nI_1, nI_40, nI_7, vz0, vz1, zb1_e0, zb1_n0]
  refine ⟨fun h => ?_, fun h => ?_⟩
  · have hrn : pRains P m t = false := decide_eq_false h
    refine z_cV0 (M' := mX10_goesOn) (R' := rX10_goesOn) (i := 87) [.int (nI b), .int (nI t)] [] eX10_goesOn k10_489 (by decide +kernel : decode cX10_step 33 = .ok (.invokevirtual 489, 3)) (Nat.le_of_ble_eq_true rfl) ⟨Nat.le_of_ble_eq_true rfl, Nat.le_of_ble_eq_true rfl, Nat.le_of_ble_eq_true rfl, Nat.le_of_ble_eq_true rfl, Nat.le_of_ble_eq_true rfl⟩ rfl rfl rfl sh_87 ?_
    refine mo_goesOn hb hO.1 hI1 v1 (fun I2 k2 v2 => ?_)
    refine zBlkR (M := mX10_step) (nL := 6) (rt := (Option.none : Option Jvm.ClassFile.FieldType)) (blk := bX10_step_36) (T := []) 0 hX10_step_36 zChks_nil rfl rfl rfl (Nat.le_of_ble_eq_true rfl) (Nat.le_of_ble_eq_true rfl) ?_
    simp only [bX10_step_36, zRun_cons, zRun_nil, zLk, zSto, zIns, zFil, zf0, zf1, zf2, zf3, List.filter_cons, List.filter_nil, Nat.reduceAdd, Nat.reduceEqDiff, Nat.reduceLT, Nat.reduceLeDiff, Nat.reduceBEq, Nat.reduceBNe, reduceIte, if_true, if_false, Bool.false_and, Bool.true_and, Bool.and_true, Bool.and_false, Bool.not_false, Bool.not_true, Bool.false_eq_true, beq_self_eq_true, BEq.rfl, zCat1, zCat2, zCat3, zKdI, zKdL, zKdR, true_and, and_true, zSI, zSL, zSR, zu_at, and_self, and_false, false_and, lv_args, zKdZ, zKdO, zB01, zB11, Option.toList_none, Option.toList_some, List.nil_append, List.cons_append, true_or, or_true, zRow_rd, zu_rd, zo_iconst, zo_istore, zi_0, zcl_0, zKn_0, zN10, zN01, not_true_eq_false, not_false_eq_true, false_implies, true_implies, implies_true, eq_self, nI_1, nI_40, nI_7, vz0, vz1, zb1_e0, zb1_n0]
    refine mo_step39 (S := S) (V3 := zIter (oGo (nI t)) (pCh P) (oV1 P t S.1)) hb ht hO hR (zRefP_R k2 hP1) (zRefM_R k2 hM1) v2 hd hrn (by rw [oV4, hrn]; rfl) (fun I3 L3 l1 l2 l3 l4 => ?_)
    exact hQ I3 L3 ((k1.trans k2).trans l1) l2 l3 l4
  · have hrn : pRains P m t = true := decide_eq_true h
    refine z_cV0 (M' := mX10_rainOn) (R' := rX10_rainOn) (i := 87) [.int (nI b)] [] eX10_rainOn k10_486 (by decide +kernel : decode cX10_step 27 = .ok (.invokevirtual 486, 3)) (Nat.le_of_ble_eq_true rfl) ⟨Nat.le_of_ble_eq_true rfl, Nat.le_of_ble_eq_true rfl, Nat.le_of_ble_eq_true rfl, Nat.le_of_ble_eq_true rfl, Nat.le_of_ble_eq_true rfl⟩ rfl rfl rfl sh_87 ?_
    refine mo_rainOn (wm := pR P 102 8) hb hO.1 hI1 (by rw [hP1.1 102 (by omega) (by omega)]) hM1.2.2.2.2.2.2.1 v1 (fun I2 k2 v2 => ?_)
    have hI2 : I2 102 1 = nI (pCh P) := (zRef_env hO (zRefP_R k2 hP1) (zRefM_R k2 hM1)).2.2.2.1
    refine zBlkR (M := mX10_step) (nL := 6) (rt := (Option.none : Option Jvm.ClassFile.FieldType)) (blk := bX10_step_30) (T := []) 0 hX10_step_30 zChks_nil rfl rfl rfl (Nat.le_of_ble_eq_true rfl) (Nat.le_of_ble_eq_true rfl) ?_
    simp only [bX10_step_30, zRun_cons, zRun_nil, zLk, zSto, zIns, zFil, zf0, zf1, zf2, zf3, List.filter_cons, List.filter_nil, Nat.reduceAdd, Nat.reduceEqDiff, Nat.reduceLT, Nat.reduceLeDiff, Nat.reduceBEq, Nat.reduceBNe, reduceIte, if_true, if_false, Bool.false_and, Bool.true_and, Bool.and_true, Bool.and_false, Bool.not_false, Bool.not_true, Bool.false_eq_true, beq_self_eq_true, BEq.rfl, zCat1, zCat2, zCat3, zKdI, zKdL, zKdR, true_and, and_true, zSI, zSL, zSR, zu_at, and_self, and_false, false_and, lv_args, zKdZ, zKdO, zB01, zB11, Option.toList_none, Option.toList_some, List.nil_append, List.cons_append, true_or, or_true, zRow_rd, zu_rd, zo_aload_n, zo_iload_n, zKn_0, zN10, zN01, not_true_eq_false, not_false_eq_true, false_implies, true_implies, implies_true, eq_self, nI_1, nI_40, nI_7, vz0, vz1, zb1_e0, zb1_n0]
    refine z_cV0 (M' := mX10_goesOn) (R' := rX10_goesOn) (i := 87) [.int (nI b), .int (nI t)] [] eX10_goesOn k10_489 (by decide +kernel : decode cX10_step 33 = .ok (.invokevirtual 489, 3)) (Nat.le_of_ble_eq_true rfl) ⟨Nat.le_of_ble_eq_true rfl, Nat.le_of_ble_eq_true rfl, Nat.le_of_ble_eq_true rfl, Nat.le_of_ble_eq_true rfl, Nat.le_of_ble_eq_true rfl⟩ rfl rfl rfl sh_87 ?_
    refine mo_goesOn hb hO.1 hI2 v2 (fun I3 k3 v3 => ?_)
    have hP3 := zRefP_R k3 (zRefP_R k2 hP1)
    have hM3 := zRefM_R k3 (zRefM_R k2 hM1)
    have fin : zX w mX10_step rX10_step Q 0 0 105 [(0, Value.ref 87), (1, Value.int (nI b)), (2, Value.int (nI t)), (3, Value.int 1), (4, Value.int 0)] [] (SH, I3, L, RF p s r) := by
      refine mo_step105 (S := (oV4 P m t S.1, S.2)) hb ht hO hR hP3 hM3 (by rw [v3, oV4, hrn]; rfl) hd (fun I4 L4 l1 l2 l3 l4 => ?_)
      exact hQ I4 L4 (((k1.trans k2).trans k3).trans l1) l2 l3 l4
    refine zBlkR (M := mX10_step) (nL := 6) (rt := (Option.none : Option Jvm.ClassFile.FieldType)) (blk := bX10_step_36) (T := []) 0 hX10_step_36 zChks_nil rfl rfl rfl (Nat.le_of_ble_eq_true rfl) (Nat.le_of_ble_eq_true rfl) ?_
    simp only [bX10_step_36, zRun_cons, zRun_nil, zLk, zSto, zIns, zFil, zf0, zf1, zf2, zf3, List.filter_cons, List.filter_nil, Nat.reduceAdd, Nat.reduceEqDiff, Nat.reduceLT, Nat.reduceLeDiff, Nat.reduceBEq, Nat.reduceBNe, reduceIte, if_true, if_false, Bool.false_and, Bool.true_and, Bool.and_true, Bool.and_false, Bool.not_false, Bool.not_true, Bool.false_eq_true, beq_self_eq_true, BEq.rfl, zCat1, zCat2, zCat3, zKdI, zKdL, zKdR, true_and, and_true, zSI, zSL, zSR, zu_at, and_self, and_false, false_and, lv_args, zKdZ, zKdO, zB01, zB11, Option.toList_none, Option.toList_some, List.nil_append, List.cons_append, true_or, or_true, zRow_rd, zu_rd, zo_iconst, zo_istore, zi_0, zcl_0, zKn_0, zN10, zN01, not_true_eq_false, not_false_eq_true, false_implies, true_implies, implies_true, eq_self, nI_1, nI_40, nI_7, vz0, vz1, zb1_e0, zb1_n0]
    refine zBlkR (M := mX10_step) (nL := 6) (rt := (Option.none : Option Jvm.ClassFile.FieldType)) (blk := bX10_step_39) (T := []) 0 hX10_step_39 zChks_nil rfl rfl rfl (Nat.le_of_ble_eq_true rfl) (Nat.le_of_ble_eq_true rfl) ?_
    simp only [bX10_step_39, zRun_cons, zRun_nil, zLk, zSto, zIns, zFil, zf0, zf1, zf2, zf3, List.filter_cons, List.filter_nil, Nat.reduceAdd, Nat.reduceEqDiff, Nat.reduceLT, Nat.reduceLeDiff, Nat.reduceBEq, Nat.reduceBNe, reduceIte, if_true, if_false, Bool.false_and, Bool.true_and, Bool.and_true, Bool.and_false, Bool.not_false, Bool.not_true, Bool.false_eq_true, beq_self_eq_true, BEq.rfl, zCat1, zCat2, zCat3, zKdI, zKdL, zKdR, true_and, and_true, zSI, zSL, zSR, zu_at, and_self, and_false, false_and, lv_args, zKdZ, zKdO, zB01, zB11, Option.toList_none, Option.toList_some, List.nil_append, List.cons_append, true_or, or_true, zRow_rd, zu_rd, zo_iload, zo_aload_n, zo_getfield, zo_icmp_ge, zo_iload_n, zo_if_ne, zo_iconst, zo_istore, zi_0, zKd_10_13, sh_87, zcl_0, zKn_0, zN10, zN01, not_true_eq_false, not_false_eq_true, false_implies, true_implies, implies_true, eq_self, nI_1, nI_40, nI_7, vz0, vz1, zb1_e0, zb1_n0]
    exact ⟨fun _ => fin, fun _ => fin⟩
/-- n ticks from t0 on -/
def oGs (P : oPn) (m : oTm) (rt : oRt) (t0 n : Nat) (S : oS) : oS := zIter (fun j => oG P m rt (t0 + j)) n S
def oBal (P : oPn) (V : Nat → Nat → Int32) : Int32 := V 8 0 - pR P 102 9 * V 8 5
theorem oOk_Gs {t0 n : Nat} (hch : pCh P ≤ 40) (h : oOk (pCh P) (pNp P) (pR P 102 8) S.1) : oOk (pCh P) (pNp P) (pR P 102 8) (oGs P m rt t0 n S).1 := zIter_ok (P := fun S : oS => oOk (pCh P) (pNp P) (pR P 102 8) S.1) (fun _ _ h => oOk_G hch h) n S h
theorem ROk_mono {t t' : Nat} (h : ROk P rt t) (ht : t ≤ t') : ROk P rt t' := ⟨h.1, Nat.le_trans h.2.1 ht, h.2.2⟩
set_option maxRecDepth 20000 in
theorem mo_balanceOf (hb : b < 2) (hP : zRefP I P) (hV : vR b I = V) (hQ : Q (some (.int (oBal P V))) (SH, I, L, RF p s r)) : zXM w mX10_balanceOf rX10_balanceOf [.ref 87, .int (nI b)] (SH, I, L, RF p s r) Q := by
  unfold zXM
  have x70 : (7 : Int32) * nI b = nI (7 * b + 0) := by rw [show (7 : Int32) = nI 7 from rfl, pk_mul]; rfl
  have x75 : nI (7 * b + 0) + 5 = nI (7 * b + 5) := by rw [show (5 : Int32) = nI 5 from rfl, nI_add]
  have hv0 : vp_in (nI (7 * b + 0)) 14 := zvn (by omega) (by omega)
  have hv5 : vp_in (nI (7 * b + 5)) 14 := zvn (by omega) (by omega)
  have e0 : I 119 (7 * b + 0) = V 8 0 := by rw [← hV, vR_8 (by omega)]
  have e5 : I 119 (7 * b + 5) = V 8 5 := by rw [← hV, vR_8 (by omega)]
  have e9 : I 102 9 = pR P 102 9 := by rw [hP.1 102 (by omega) (by omega)]
  refine zBlkR (M := mX10_balanceOf) (nL := 2) (rt := (Option.some .int)) (blk := bX10_balanceOf_0) (T := []) 0 hX10_balanceOf_0 zChks_nil rfl rfl rfl (Nat.le_of_ble_eq_true rfl) (Nat.le_of_ble_eq_true rfl) ?_
  simp only [bX10_balanceOf_0, zRun_cons, zRun_nil, zLk, zSto, zIns, zFil, zf0, zf1, zf2, zf3, List.filter_cons, List.filter_nil, Nat.reduceAdd, Nat.reduceEqDiff, Nat.reduceLT, Nat.reduceLeDiff, Nat.reduceBEq, Nat.reduceBNe, reduceIte, if_true, if_false, Bool.false_and, Bool.true_and, Bool.and_true, Bool.and_false, Bool.not_false, Bool.not_true, Bool.false_eq_true, beq_self_eq_true, BEq.rfl, zCat1, zCat2, zCat3, zKdI, zKdL, zKdR, true_and, and_true, zSI, zSL, zSR, zu_at, and_self, and_false, false_and, lv_args, zKdZ, zKdO, zB01, zB11, Option.toList_none, Option.toList_some, List.nil_append, List.cons_append, true_or, or_true, zRow_rd, zu_rd, zo_aload_n, zo_getfield, zo_bipush, zo_iload_n, zo_imul, zo_iaload, zo_iconst, zo_iadd, zo_isub, zo_ireturn, zb_7, zb_9, zi_5, zKd_10_62, zKd_10_36, sh_87, rf_87_62, sh_119, zcl_7, rf_87_36, sh_102, zcl_9, zcl_5, zvi_7_14, zvi_7_32, zvi_9_14, zvi_9_32, zvi_5_14, zvi_5_32, zRt, zKn_0, x70, x75, hv0, hv5, e0, e5, e9, nI_clamp (n := 7 * b + 0) (by omega), nI_clamp (n := 7 * b + 5) (by omega), zN10, zN01, not_true_eq_false, not_false_eq_true, false_implies, true_implies, implies_true, eq_self, nI_1, nI_40, nI_7, vz0, vz1, zb1_e0, zb1_n0]
  exact hQ
set_option maxRecDepth 20000 in
theorem mo_runs {t0 n : Nat} (htn : t0 + n ≤ 96) (ht : I 87 55 = nI t0) (hO : POk P) (hR : ROk P rt t0) (hP : zRefP I P) (hM : zRefM I m rt) (hV : vR 1 I = S.1) (hd : L 120 1 = S.2) (hok : oOk (pCh P) (pNp P) (pR P 102 8) S.1) (hQ : ∀ I' L', zKpt (zFR 1) I I' → zKpt (zFRL 1) L L' → vR 1 I' = (oGs P m rt t0 n S).1 → L' 120 1 = (oGs P m rt t0 n S).2 → Q (some (.int (oBal P (oGs P m rt t0 n S).1))) (SH, I', L', RF p s r)) : zXM w mX10_runs rX10_runs [.ref 87, .int (nI n)] (SH, I, L, RF p s r) Q := by
  unfold zXM
  refine zBlkR (M := mX10_runs) (nL := 3) (rt := (Option.some .int)) (blk := bX10_runs_0) (T := []) 0 hX10_runs_0 zChks_nil rfl rfl rfl (Nat.le_of_ble_eq_true rfl) (Nat.le_of_ble_eq_true rfl) ?_
  simp only [bX10_runs_0, zRun_cons, zRun_nil, zLk, zSto, zIns, zFil, zf0, zf1, zf2, zf3, List.filter_cons, List.filter_nil, Nat.reduceAdd, Nat.reduceEqDiff, Nat.reduceLT, Nat.reduceLeDiff, Nat.reduceBEq, Nat.reduceBNe, reduceIte, if_true, if_false, Bool.false_and, Bool.true_and, Bool.and_true, Bool.and_false, Bool.not_false, Bool.not_true, Bool.false_eq_true, beq_self_eq_true, BEq.rfl, zCat1, zCat2, zCat3, zKdI, zKdL, zKdR, true_and, and_true, zSI, zSL, zSR, zu_at, and_self, and_false, false_and, lv_args, zKdZ, zKdO, zB01, zB11, Option.toList_none, Option.toList_some, List.nil_append, List.cons_append, true_or, or_true, zRow_rd, zu_rd, zo_aload_n, zo_getfield, zo_istore_n, zKd_10_55, sh_87, zKn_0, ht, zN10, zN01, not_true_eq_false, not_false_eq_true, false_implies, true_implies, implies_true, eq_self, nI_1, nI_40, nI_7, vz0, vz1, zb1_e0, zb1_n0]
  refine zLoop (n := n) (P := fun j => ∀ J K, zKpt (zFR 1) I J → zKpt (zFRL 1) L K → vR 1 J = (oGs P m rt t0 j S).1 → K 120 1 = (oGs P m rt t0 j S).2 → zX w mX10_runs rX10_runs Q 0 0 5 [(0, Value.ref 87), (1, Value.int (nI n)), (2, Value.int (nI (t0 + j)))] [] (SH, J, K, RF p s r)) (fun j hj ih => ?_) 0 (Nat.zero_le _) I L zKpt_rfl zKpt_rfl hV hd
  intro J K hJ hK hVJ hdK
  have hP1 := zRefP_R hJ hP
  have hM1 := zRefM_R hJ hM
  have ht1 : J 87 55 = nI t0 := by rw [zFR_87 hJ (by decide), ht]
  refine zBlkR (M := mX10_runs) (nL := 3) (rt := (Option.some .int)) (blk := bX10_runs_5) (T := [(27, bX10_runs_27)]) 1 hX10_runs_5 (zChks_cons hX10_runs_27 zChks_nil) rfl rfl rfl (Nat.le_of_ble_eq_true rfl) (Nat.le_of_ble_eq_true rfl) ?_
  simp only [bX10_runs_5, bX10_runs_27, zRun_cons, zRun_nil, zLk, zSto, zIns, zFil, zf0, zf1, zf2, zf3, List.filter_cons, List.filter_nil, Nat.reduceAdd, Nat.reduceEqDiff, Nat.reduceLT, Nat.reduceLeDiff, Nat.reduceBEq, Nat.reduceBNe, reduceIte, if_true, if_false, Bool.false_and, Bool.true_and, Bool.and_true, Bool.and_false, Bool.not_false, Bool.not_true, Bool.false_eq_true, beq_self_eq_true, BEq.rfl, zCat1, zCat2, zCat3, zKdI, zKdL, zKdR, true_and, and_true, zSI, zSL, zSR, zu_at, and_self, and_false, false_and, lv_args, zKdZ, zKdO, zB01, zB11, Option.toList_none, Option.toList_some, List.nil_append, List.cons_append, true_or, or_true, zRow_rd, zu_rd, zo_iload_n, zo_aload_n, zo_getfield, zo_iadd, zo_icmp_ge, zo_iconst, zi_1, zKd_10_55, sh_87, zcl_1, zKn_s, zKn_0, zFind, ht1, nI_add, zle_nat (a := t0 + n) (b := t0 + j) (by omega) (by omega), zN10, zN01, not_true_eq_false, not_false_eq_true, false_implies, true_implies, implies_true, eq_self, nI_1, nI_40, nI_7, vz0, vz1, zb1_e0, zb1_n0]
  refine ⟨fun h => ?_, fun h => ?_⟩
  · have : j = n := by omega
    subst this
    refine z_cV0 (M' := mX10_balanceOf) (R' := rX10_balanceOf) (i := 87) [.int 1] [] eX10_balanceOf k10_501 (by decide +kernel : decode cX10_runs 29 = .ok (.invokevirtual 501, 3)) (Nat.le_of_ble_eq_true rfl) ⟨Nat.le_of_ble_eq_true rfl, Nat.le_of_ble_eq_true rfl, Nat.le_of_ble_eq_true rfl, Nat.le_of_ble_eq_true rfl, Nat.le_of_ble_eq_true rfl⟩ rfl rfl rfl sh_87 ?_
    refine mo_balanceOf (b := 1) (by omega) hP1 hVJ ?_
    refine zBlkR (M := mX10_runs) (nL := 3) (rt := (Option.some .int)) (blk := bX10_runs_32) (T := []) 0 hX10_runs_32 zChks_nil rfl rfl rfl (Nat.le_of_ble_eq_true rfl) (Nat.le_of_ble_eq_true rfl) ?_
    simp only [bX10_runs_32, zRun_cons, zRun_nil, zLk, zSto, zIns, zFil, zf0, zf1, zf2, zf3, List.filter_cons, List.filter_nil, Nat.reduceAdd, Nat.reduceEqDiff, Nat.reduceLT, Nat.reduceLeDiff, Nat.reduceBEq, Nat.reduceBNe, reduceIte, if_true, if_false, Bool.false_and, Bool.true_and, Bool.and_true, Bool.and_false, Bool.not_false, Bool.not_true, Bool.false_eq_true, beq_self_eq_true, BEq.rfl, zCat1, zCat2, zCat3, zKdI, zKdL, zKdR, true_and, and_true, zSI, zSL, zSR, zu_at, and_self, and_false, false_and, lv_args, zKdZ, zKdO, zB01, zB11, Option.toList_none, Option.toList_some, List.nil_append, List.cons_append, true_or, or_true, zRow_rd, zu_rd, zo_ireturn, zRt, zKn_0, zN10, zN01, not_true_eq_false, not_false_eq_true, false_implies, true_implies, implies_true, eq_self, nI_1, nI_40, nI_7, vz0, vz1, zb1_e0, zb1_n0]
    exact hQ J K hJ hK hVJ hdK
  · refine z_cV0 (M' := mX10_step) (R' := rX10_step) (i := 87) [.int 1, .int (nI (t0 + j))] [] eX10_step k10_498 (by decide +kernel : decode cX10_runs 18 = .ok (.invokevirtual 498, 3)) (Nat.le_of_ble_eq_true rfl) ⟨Nat.le_of_ble_eq_true rfl, Nat.le_of_ble_eq_true rfl, Nat.le_of_ble_eq_true rfl, Nat.le_of_ble_eq_true rfl, Nat.le_of_ble_eq_true rfl⟩ rfl rfl rfl sh_87 ?_
    refine mo_step (b := 1) (S := oGs P m rt t0 j S) (by omega) (by omega) hO (ROk_mono hR (by omega)) hP1 hM1 hVJ hdK (oOk_Gs hO.1 hok) (fun I2 L2 l1 l2 l3 l4 => ?_)
    refine zBlkR (M := mX10_runs) (nL := 3) (rt := (Option.some .int)) (blk := bX10_runs_21) (T := []) 0 hX10_runs_21 zChks_nil rfl rfl rfl (Nat.le_of_ble_eq_true rfl) (Nat.le_of_ble_eq_true rfl) ?_
    simp only [bX10_runs_21, zRun_cons, zRun_nil, zLk, zSto, zIns, zFil, zf0, zf1, zf2, zf3, List.filter_cons, List.filter_nil, Nat.reduceAdd, Nat.reduceEqDiff, Nat.reduceLT, Nat.reduceLeDiff, Nat.reduceBEq, Nat.reduceBNe, reduceIte, if_true, if_false, Bool.false_and, Bool.true_and, Bool.and_true, Bool.and_false, Bool.not_false, Bool.not_true, Bool.false_eq_true, beq_self_eq_true, BEq.rfl, zCat1, zCat2, zCat3, zKdI, zKdL, zKdR, true_and, and_true, zSI, zSL, zSR, zu_at, and_self, and_false, false_and, lv_args, zKdZ, zKdO, zB01, zB11, Option.toList_none, Option.toList_some, List.nil_append, List.cons_append, true_or, or_true, zRow_rd, zu_rd, zo_iinc, zo_goto, zi_1, zKn_0, nI_1, zN10, zN01, not_true_eq_false, not_false_eq_true, false_implies, true_implies, implies_true, eq_self, nI_1, nI_40, nI_7, vz0, vz1, zb1_e0, zb1_n0]
    exact ih (by omega) I2 L2 (hJ.trans l1) (hK.trans l2) l3 l4
end ZR51
end

section
/-! ===== THE CLASS: where fronts, plans and walks lie ===== -/
def zBc (B : Nat) : Prop := B = 10 ∨ B = 19 ∨ B = 28
def zPc (p : Nat) : Prop := p = 55 ∨ p = 71
/-- a walk, its front, its terms -/
def zWc (W B T : Nat) : Prop := (W = 37 ∧ B = 10 ∧ T = 8) ∨ (W = 40 ∧ B = 19 ∧ T = 9)
/-- where a switch leads -/
def zSwF (x : Int32) (dt : Nat) : List (Int32 × Nat) → Nat
  | [] => dt
  | q :: r => if x = q.1 then q.2 else zSwF x dt r
theorem zSw_of {x : Int32} {K : Nat → Prop} {dt : Nat} : ∀ {r : List (Int32 × Nat)} {t : Nat}, zSwF x dt r = t → K t → zSw x K dt r
  | [], _, h, k => by rw [← h] at k; exact k
  | q :: r, t, h, k => by
    unfold zSwF at h
    refine ⟨fun e => ?_, fun e => ?_⟩
    · rw [if_pos e] at h; rw [h]; exact k
    · rw [if_neg e] at h; exact zSw_of h k
section ZF60
variable {B W T p q s : Nat} {r : Option Nat}
theorem fsh_0 (h : zBc B) : SH[B]? = some (.inr 2) := by rcases h with rfl | rfl | rfl <;> rfl
theorem fsh_1 (h : zBc B) : SH[B + 1]? = some (.inl (0, 40)) := by rcases h with rfl | rfl | rfl <;> rfl
theorem fsh_2 (h : zBc B) : SH[B + 2]? = some (.inl (0, 40)) := by rcases h with rfl | rfl | rfl <;> rfl
theorem fsh_3 (h : zBc B) : SH[B + 3]? = some (.inl (0, 40)) := by rcases h with rfl | rfl | rfl <;> rfl
theorem fsh_4 (h : zBc B) : SH[B + 4]? = some (.inl (0, 40)) := by rcases h with rfl | rfl | rfl <;> rfl
theorem fsh_5 (h : zBc B) : SH[B + 5]? = some (.inl (0, 40)) := by rcases h with rfl | rfl | rfl <;> rfl
theorem fsh_6 (h : zBc B) : SH[B + 6]? = some (.inl (0, 5)) := by rcases h with rfl | rfl | rfl <;> rfl
theorem fsh_7 (h : zBc B) : SH[B + 7]? = some (.inl (0, 5)) := by rcases h with rfl | rfl | rfl <;> rfl
theorem fsh_8 (h : zBc B) : SH[B + 8]? = some (.inl (0, 7)) := by rcases h with rfl | rfl | rfl <;> rfl
theorem frf_0 (h : zBc B) : RF p s r B 0 = some (B + 1) := by rcases h with rfl | rfl | rfl <;> rfl
theorem frf_1 (h : zBc B) : RF p s r B 1 = some (B + 2) := by rcases h with rfl | rfl | rfl <;> rfl
theorem frf_2 (h : zBc B) : RF p s r B 2 = some (B + 3) := by rcases h with rfl | rfl | rfl <;> rfl
theorem frf_3 (h : zBc B) : RF p s r B 3 = some (B + 4) := by rcases h with rfl | rfl | rfl <;> rfl
theorem frf_4 (h : zBc B) : RF p s r B 4 = some (B + 5) := by rcases h with rfl | rfl | rfl <;> rfl
theorem frf_5 (h : zBc B) : RF p s r B 5 = some (B + 6) := by rcases h with rfl | rfl | rfl <;> rfl
theorem frf_6 (h : zBc B) : RF p s r B 6 = some (B + 7) := by rcases h with rfl | rfl | rfl <;> rfl
theorem frf_7 (h : zBc B) : RF p s r B 7 = some (B + 8) := by rcases h with rfl | rfl | rfl <;> rfl
theorem psh_0 (h : zPc p) : SH[p]? = some (.inr 4) := by rcases h with rfl | rfl <;> rfl
theorem psh_1 (h : zPc p) : SH[p + 1]? = some (.inl (0, 5)) := by rcases h with rfl | rfl <;> rfl
theorem psh_2 (h : zPc p) : SH[p + 2]? = some (.inl (0, 5)) := by rcases h with rfl | rfl <;> rfl
theorem psh_3 (h : zPc p) : SH[p + 3]? = some (.inl (0, 5)) := by rcases h with rfl | rfl <;> rfl
theorem psh_4 (h : zPc p) : SH[p + 4]? = some (.inl (0, 5)) := by rcases h with rfl | rfl <;> rfl
theorem psh_5 (h : zPc p) : SH[p + 5]? = some (.inl (0, 16)) := by rcases h with rfl | rfl <;> rfl
theorem psh_6 (h : zPc p) : SH[p + 6]? = some (.inl (0, 16)) := by rcases h with rfl | rfl <;> rfl
theorem psh_7 (h : zPc p) : SH[p + 7]? = some (.inl (0, 96)) := by rcases h with rfl | rfl <;> rfl
theorem psh_8 (h : zPc p) : SH[p + 8]? = some (.inl (0, 2)) := by rcases h with rfl | rfl <;> rfl
theorem psh_9 (h : zPc p) : SH[p + 9]? = some (.inl (0, 2)) := by rcases h with rfl | rfl <;> rfl
theorem psh_10 (h : zPc p) : SH[p + 10]? = some (.inl (0, 2)) := by rcases h with rfl | rfl <;> rfl
theorem psh_11 (h : zPc p) : SH[p + 11]? = some (.inl (0, 7)) := by rcases h with rfl | rfl <;> rfl
theorem psh_12 (h : zPc p) : SH[p + 12]? = some (.inl (0, 4)) := by rcases h with rfl | rfl <;> rfl
theorem psh_13 (h : zPc p) : SH[p + 13]? = some (.inl (0, 64)) := by rcases h with rfl | rfl <;> rfl
theorem psh_14 (h : zPc p) : SH[p + 14]? = some (.inl (0, 3)) := by rcases h with rfl | rfl <;> rfl
theorem psh_15 (h : zPc p) : SH[p + 15]? = some (.inl (0, 3)) := by rcases h with rfl | rfl <;> rfl
theorem prf_1 (h : zPc p) : RF q s r p 1 = some (p + 1) := by rcases h with rfl | rfl <;> rfl
theorem prf_2 (h : zPc p) : RF q s r p 2 = some (p + 2) := by rcases h with rfl | rfl <;> rfl
theorem prf_3 (h : zPc p) : RF q s r p 3 = some (p + 3) := by rcases h with rfl | rfl <;> rfl
theorem prf_4 (h : zPc p) : RF q s r p 4 = some (p + 4) := by rcases h with rfl | rfl <;> rfl
theorem prf_6 (h : zPc p) : RF q s r p 6 = some (p + 5) := by rcases h with rfl | rfl <;> rfl
theorem prf_7 (h : zPc p) : RF q s r p 7 = some (p + 6) := by rcases h with rfl | rfl <;> rfl
theorem prf_8 (h : zPc p) : RF q s r p 8 = some (p + 7) := by rcases h with rfl | rfl <;> rfl
theorem prf_10 (h : zPc p) : RF q s r p 10 = some (p + 8) := by rcases h with rfl | rfl <;> rfl
theorem prf_11 (h : zPc p) : RF q s r p 11 = some (p + 9) := by rcases h with rfl | rfl <;> rfl
theorem prf_12 (h : zPc p) : RF q s r p 12 = some (p + 10) := by rcases h with rfl | rfl <;> rfl
theorem prf_13 (h : zPc p) : RF q s r p 13 = some (p + 11) := by rcases h with rfl | rfl <;> rfl
theorem prf_15 (h : zPc p) : RF q s r p 15 = some (p + 12) := by rcases h with rfl | rfl <;> rfl
theorem prf_17 (h : zPc p) : RF q s r p 17 = some (p + 13) := by rcases h with rfl | rfl <;> rfl
theorem prf_18 (h : zPc p) : RF q s r p 18 = some (p + 14) := by rcases h with rfl | rfl <;> rfl
theorem prf_19 (h : zPc p) : RF q s r p 19 = some (p + 15) := by rcases h with rfl | rfl <;> rfl
theorem wsh_0 (h : zWc W B T) : SH[W]? = some (.inr 8) := by rcases h with ⟨rfl, rfl, rfl⟩ | ⟨rfl, rfl, rfl⟩ <;> rfl
theorem wsh_1 (h : zWc W B T) : SH[W + 1]? = some (.inl (1, 64)) := by rcases h with ⟨rfl, rfl, rfl⟩ | ⟨rfl, rfl, rfl⟩ <;> rfl
theorem wsh_2 (h : zWc W B T) : SH[W + 2]? = some (.inl (1, 5)) := by rcases h with ⟨rfl, rfl, rfl⟩ | ⟨rfl, rfl, rfl⟩ <;> rfl
theorem wsh_3 (h : zWc W B T) : SH[T]? = some (.inr 6) := by rcases h with ⟨rfl, rfl, rfl⟩ | ⟨rfl, rfl, rfl⟩ <;> rfl
theorem wrf_0 (h : zWc W B T) : RF p s r W 0 = some B := by rcases h with ⟨rfl, rfl, rfl⟩ | ⟨rfl, rfl, rfl⟩ <;> rfl
theorem wrf_1 (h : zWc W B T) : RF p s r W 1 = some T := by rcases h with ⟨rfl, rfl, rfl⟩ | ⟨rfl, rfl, rfl⟩ <;> rfl
theorem wrf_2 (h : zWc W B T) : RF p s r W 2 = some (W + 1) := by rcases h with ⟨rfl, rfl, rfl⟩ | ⟨rfl, rfl, rfl⟩ <;> rfl
theorem wrf_3 (h : zWc W B T) : RF p s r W 3 = some (W + 2) := by rcases h with ⟨rfl, rfl, rfl⟩ | ⟨rfl, rfl, rfl⟩ <;> rfl
theorem wrf_4 (h : zWc W B T) : RF p s r W 4 = some p := by rcases h with ⟨rfl, rfl, rfl⟩ | ⟨rfl, rfl, rfl⟩ <;> rfl
theorem wB (h : zWc W B T) : zBc B := by rcases h with ⟨-, rfl, -⟩ | ⟨-, rfl, -⟩; exact Or.inl rfl; exact Or.inr (Or.inl rfl)
end ZF60
end

section
/-! ===== THE CLASS: a front's chairs ===== -/
theorem zCnt_pt {P P' : Nat → Bool} {c : Nat} : ∀ {n : Nat}, c < n → (∀ d, d < n → d ≠ c → P' d = P d) → zCnt P' n + (if P c = true then 1 else 0) = zCnt P n + (if P' c = true then 1 else 0)
  | 0, hc, _ => absurd hc (by omega)
  | n + 1, hc, h => by
    rw [zCnt, zCnt]
    by_cases e : c = n
    · subst e
      rw [zCnt_congr (P := P') (P' := P) (fun d hd => h d (by omega) (by omega))]
      omega
    · have ih := zCnt_pt (n := n) (by omega) (fun d hd hne => h d (by omega) hne)
      rw [h n (by omega) (fun q => e q.symm)]
      omega
def oStk (V : Nat → Nat → Int32) (n : Nat) : Nat := zCnt (fun c => V 1 c == 0) n
theorem oCnt_mv {V V' : Nat → Nat → Int32} {c ch : Nat} (hc : c < ch) (h1 : ∀ d, d ≠ c → V' 1 d = V 1 d) (h2 : ∀ d, d ≠ c → V' 2 d = V 2 d) (q x : Int32) : oCnt V' q x ch + (if V 1 c = x ∧ V 2 c = q then 1 else 0) = oCnt V q x ch + (if V' 1 c = x ∧ V' 2 c = q then 1 else 0) := by
  have h := zCnt_pt (P := fun c => V 1 c == x && V 2 c == q) (P' := fun c => V' 1 c == x && V' 2 c == q) hc (fun d _ hd => by simp only [h1 d hd, h2 d hd])
  simpa [oCnt] using h
theorem oStk_mv {V V' : Nat → Nat → Int32} {c ch : Nat} (hc : c < ch) (h1 : ∀ d, d ≠ c → V' 1 d = V 1 d) : oStk V' ch + (if V 1 c = 0 then 1 else 0) = oStk V ch + (if V' 1 c = 0 then 1 else 0) := by
  have h := zCnt_pt (P := fun c => V 1 c == 0) (P' := fun c => V' 1 c == 0) hc (fun d _ hd => by simp only [h1 d hd])
  simpa [oStk] using h
/-- what the chairs of a front may change -/
def zFB (B i k : Nat) : Prop := (B + 1 ≤ i ∧ i ≤ B + 8) ∨ (i = B ∧ k = 9)
/-- the front at B has these chairs, and counts them right -/
def zFC (B : Nat) (I : Nat → Nat → Int32) (ch : Nat) (V : Nat → Nat → Int32) : Prop := vC B I = V ∧ I B 8 = nI ch ∧ (∀ q, q < 5 → I (B + 6) q = nI (oCnt V (nI q) 1 ch)) ∧ (∀ q, q < 5 → I (B + 7) q = nI (oCnt V (nI q) 2 ch)) ∧ I B 9 = nI (oStk V ch)
/-- the sitter goes, if there is one -/
def oUn (c : Nat) (V : Nat → Nat → Int32) : Nat → Nat → Int32 := if V 1 c = 2 then zu (oOff c V) 1 c 1 else V
def oLs (c : Nat) (V : Nat → Nat → Int32) : Nat → Nat → Int32 := if V 1 c = 1 ∨ V 1 c = 2 then oLose c V else V
def oStack (c : Nat) (V : Nat → Nat → Int32) : Nat → Nat → Int32 := if V 1 c = 1 then zu (zu V 1 c 0) 2 c (-1) else V
def oPutC (q c : Nat) (V : Nat → Nat → Int32) : Nat → Nat → Int32 := if V 1 c = 0 then zu (zu V 1 c 1) 2 c (nI q) else V
section ZF61
variable {I V V' : Nat → Nat → Int32} {B c k ch q0 : Nat} {x : Int32} {A : Nat → Int32} {f f' : Nat → Nat}
theorem vCu1 (hc : c < 40) : vC B (zu I (B + 1) c x) = zu (vC B I) 1 c x := vC_u (i := 1) (by omega) hc
theorem vCu2 (hc : c < 40) : vC B (zu I (B + 2) c x) = zu (vC B I) 2 c x := vC_u (i := 2) (by omega) hc
theorem vCu3 (hc : c < 40) : vC B (zu I (B + 3) c x) = zu (vC B I) 3 c x := vC_u (i := 3) (by omega) hc
theorem vCu4 (hc : c < 40) : vC B (zu I (B + 4) c x) = zu (vC B I) 4 c x := vC_u (i := 4) (by omega) hc
theorem vCu5 (hc : c < 40) : vC B (zu I (B + 5) c x) = zu (vC B I) 5 c x := vC_u (i := 5) (by omega) hc
theorem vCu6 : vC B (zu I (B + 6) k x) = vC B I := vC_un (by omega)
theorem vCu7 : vC B (zu I (B + 7) k x) = vC B I := vC_un (by omega)
theorem vCuB : vC B (zu I B k x) = vC B I := vC_un (by omega)
theorem zFC.v1 (h : zFC B I ch V) (hc : c < 40) : I (B + 1) c = V 1 c := by rw [← h.1, vC_at (by omega) hc]
theorem zFC.v2 (h : zFC B I ch V) (hc : c < 40) : I (B + 2) c = V 2 c := by rw [← h.1, vC_at (by omega) hc]
theorem zFC.v3 (h : zFC B I ch V) (hc : c < 40) : I (B + 3) c = V 3 c := by rw [← h.1, vC_at (by omega) hc]
theorem zFC.v4 (h : zFC B I ch V) (hc : c < 40) : I (B + 4) c = V 4 c := by rw [← h.1, vC_at (by omega) hc]
theorem zFC.v5 (h : zFC B I ch V) (hc : c < 40) : I (B + 5) c = V 5 c := by rw [← h.1, vC_at (by omega) hc]
theorem zFC.v8 (h : zFC B I ch V) (hc : c < 7) : I (B + 8) c = V 8 c := by rw [← h.1, vC_8 hc]
theorem cnt_up (h : ∀ q, q < 5 → A q = nI (oCnt V (nI q) x ch)) (h0 : q0 < 5) (hm : oCnt V' (nI q0) x ch = oCnt V (nI q0) x ch + 1 ∧ ∀ q, q < 5 → q ≠ q0 → oCnt V' (nI q) x ch = oCnt V (nI q) x ch) : ∀ q, q < 5 → (if q = q0 then A q0 + 1 else A q) = nI (oCnt V' (nI q) x ch) := by
  intro q hq
  by_cases e : q = q0
  · subst e; rw [if_pos rfl, h _ h0, nI_1, hm.1]
  · rw [if_neg e, h q hq, hm.2 q hq e]
theorem cnt_dn (h : ∀ q, q < 5 → A q = nI (oCnt V (nI q) x ch)) (h0 : q0 < 5) (hm : oCnt V (nI q0) x ch = oCnt V' (nI q0) x ch + 1 ∧ ∀ q, q < 5 → q ≠ q0 → oCnt V' (nI q) x ch = oCnt V (nI q) x ch) : ∀ q, q < 5 → (if q = q0 then A q0 - 1 else A q) = nI (oCnt V' (nI q) x ch) := by
  intro q hq
  by_cases e : q = q0
  · subst e; rw [if_pos rfl, h _ h0, hm.1, nI_pred]
  · rw [if_neg e, h q hq, hm.2 q hq e]
theorem cnt_no (h : ∀ q, q < 5 → A q = nI (oCnt V (nI q) x ch)) (hf : ∀ q, q < 5 → oCnt V' (nI q) x ch = oCnt V (nI q) x ch) : ∀ q, q < 5 → A q = nI (oCnt V' (nI q) x ch) := fun q hq => by rw [h q hq, hf q hq]
theorem nI_q {a b : Nat} (ha : a < 5) (hb : b < 5) : (nI a = nI b) = (a = b) := zeq_nat (by omega) (by omega)
/-- the sitter of c at q0 goes -/
theorem mv_un (hc : c < ch) (h0 : q0 < 5) (e1 : V 1 c = 2) (e2 : V 2 c = nI q0) (k1 : ∀ d, d ≠ c → V' 1 d = V 1 d) (k2 : ∀ d, d ≠ c → V' 2 d = V 2 d) (e3 : V' 1 c = 1) (e4 : V' 2 c = nI q0) : (oCnt V' (nI q0) 1 ch = oCnt V (nI q0) 1 ch + 1 ∧ ∀ q, q < 5 → q ≠ q0 → oCnt V' (nI q) 1 ch = oCnt V (nI q) 1 ch) ∧ (oCnt V (nI q0) 2 ch = oCnt V' (nI q0) 2 ch + 1 ∧ ∀ q, q < 5 → q ≠ q0 → oCnt V' (nI q) 2 ch = oCnt V (nI q) 2 ch) ∧ oStk V' ch = oStk V ch := by
  refine ⟨⟨?_, fun q hq hne => ?_⟩, ⟨?_, fun q hq hne => ?_⟩, ?_⟩
  · have := oCnt_mv hc k1 k2 (nI q0) 1
    simp [e1, e2, e3, e4] at this; exact this
  · have := oCnt_mv hc k1 k2 (nI q) 1
    simp [e1, e2, e3, e4, nI_q h0 hq, Ne.symm hne] at this; exact this
  · have := oCnt_mv hc k1 k2 (nI q0) 2
    simp [e1, e2, e3, e4] at this; exact this.symm
  · have := oCnt_mv hc k1 k2 (nI q) 2
    simp [e1, e2, e3, e4, nI_q h0 hq, Ne.symm hne] at this; exact this
  · have := oStk_mv hc k1
    simp [e1, e3] at this; exact this
/-- c, out at q0, is lost (x = 3) or sat on (x = 2) or stacked (x = 0) -/
theorem mv_out (hc : c < ch) (h0 : q0 < 5) (e1 : V 1 c = 1) (e2 : V 2 c = nI q0) (k1 : ∀ d, d ≠ c → V' 1 d = V 1 d) (k2 : ∀ d, d ≠ c → V' 2 d = V 2 d) (hx : V' 1 c ≠ 1) : (oCnt V (nI q0) 1 ch = oCnt V' (nI q0) 1 ch + 1 ∧ ∀ q, q < 5 → q ≠ q0 → oCnt V' (nI q) 1 ch = oCnt V (nI q) 1 ch) := by
  refine ⟨?_, fun q hq hne => ?_⟩
  · have := oCnt_mv hc k1 k2 (nI q0) 1
    simp [e1, e2, hx] at this; exact this.symm
  · have := oCnt_mv hc k1 k2 (nI q) 1
    simp [e1, e2, hx, nI_q h0 hq, Ne.symm hne] at this; exact this
theorem mv_same (hc : c < ch) (e1 : V 1 c ≠ x) (e3 : V' 1 c ≠ x) (k1 : ∀ d, d ≠ c → V' 1 d = V 1 d) (k2 : ∀ d, d ≠ c → V' 2 d = V 2 d) : ∀ q, q < 5 → oCnt V' (nI q) x ch = oCnt V (nI q) x ch := by
  intro q hq
  have := oCnt_mv hc k1 k2 (nI q) x
  simp [e1, e3] at this; exact this
theorem st_same (hc : c < ch) (e1 : V 1 c ≠ 0) (e3 : V' 1 c ≠ 0) (k1 : ∀ d, d ≠ c → V' 1 d = V 1 d) : oStk V' ch = oStk V ch := by
  have := oStk_mv hc k1
  simp [e1, e3] at this; exact this
theorem mv_in (hc : c < ch) (h0 : q0 < 5) (e1 : V 1 c ≠ x) (k1 : ∀ d, d ≠ c → V' 1 d = V 1 d) (k2 : ∀ d, d ≠ c → V' 2 d = V 2 d) (e3 : V' 1 c = x) (e4 : V' 2 c = nI q0) : (oCnt V' (nI q0) x ch = oCnt V (nI q0) x ch + 1 ∧ ∀ q, q < 5 → q ≠ q0 → oCnt V' (nI q) x ch = oCnt V (nI q) x ch) := by
  refine ⟨?_, fun q hq hne => ?_⟩
  · have := oCnt_mv hc k1 k2 (nI q0) x
    simp [e1, e3, e4] at this; exact this
  · have := oCnt_mv hc k1 k2 (nI q) x
    simp [e1, e3, e4, nI_q h0 hq, Ne.symm hne] at this; exact this
end ZF61
section ZF62
variable {w : zP} {Q : Option Value → zMem → Prop} {μ : zMem} {I V : Nat → Nat → Int32} {L : Nat → Nat → Int64} {p s : Nat} {r : Option Nat} {B c ch np q0 : Nat} {wm x till : Int32}
set_option maxRecDepth 20000 in
theorem cl_isPlace (h0 : q0 < 5) (hQ : Q (some (.int 1)) μ) : zXM w mX2_isPlace rX2_isPlace [.int (nI q0)] μ Q := by
  unfold zXM
  have e1 : ¬ nI q0 < 0 := nI_nn (by omega)
  have e2 : ¬ (5 : Int32) ≤ nI q0 := by rw [show (5 : Int32) = nI 5 from rfl, zle_nat (by omega) (by omega)]; omega
  refine zBlkR (M := mX2_isPlace) (nL := 1) (rt := (Option.some .boolean)) (blk := bX2_isPlace_0) (T := [(13, bX2_isPlace_13), (14, bX2_isPlace_14)]) 1 hX2_isPlace_0 (zChks_cons hX2_isPlace_13 (zChks_cons hX2_isPlace_14 zChks_nil)) rfl rfl rfl (Nat.le_of_ble_eq_true rfl) (Nat.le_of_ble_eq_true rfl) ?_
  simp only [bX2_isPlace_0, bX2_isPlace_13, bX2_isPlace_14, zRun_cons, zRun_nil, zLk, zSto, zIns, zFil, zf0, zf1, zf2, zf3, List.filter_cons, List.filter_nil, Nat.reduceAdd, Nat.reduceEqDiff, Nat.reduceLT, Nat.reduceLeDiff, Nat.reduceBEq, Nat.reduceBNe, reduceIte, if_true, if_false, Bool.false_and, Bool.true_and, Bool.and_true, Bool.and_false, Bool.not_false, Bool.not_true, Bool.false_eq_true, beq_self_eq_true, BEq.rfl, zCat1, zCat2, zCat3, zKdI, zKdL, zKdR, true_and, and_true, zSI, zSL, zSR, zu_at, and_self, and_false, false_and, lv_args, zKdZ, zKdO, zB01, zB11, Option.toList_none, Option.toList_some, List.nil_append, List.cons_append, true_or, or_true, zRow_rd, zu_rd, zo_iload_n, zo_if_lt, zo_iconst, zo_icmp_ge, zo_goto, zo_ireturn, zi_5, zi_1, zi_0, zcl_5, zcl_1, zcl_0, zRt, zKn_s, zKn_0, zFind, e1, e2, zN10, zN01, not_true_eq_false, not_false_eq_true, false_implies, true_implies, implies_true, eq_self, nI_1, nI_40, nI_7, vz0, vz1, zb1_e0, zb1_n0]
  exact hQ
set_option maxRecDepth 20000 in
theorem cl_unseat (hB : zBc B) (hc : c < ch) (hch : ch ≤ 40) (hnp : np ≤ 5) (hF : zFC B I ch V) (hok : oOk ch np wm V) (hQ : ∀ I', zKpt (zFB B) I I' → zFC B I' ch (oUn c V) → Q none (SH, I', L, RF p s r)) : zXM w mX2_unseat rX2_unseat [.ref B, .int (nI c)] (SH, I, L, RF p s r) Q := by
  unfold zXM
  have hc4 : c < 40 := by omega
  have hv : vp_in (nI c) 40 := zvn (by omega) (by omega)
  refine zBlkR (M := mX2_unseat) (nL := 2) (rt := (Option.none : Option Jvm.ClassFile.FieldType)) (blk := bX2_unseat_0) (T := [(90, bX2_unseat_90)]) 1 hX2_unseat_0 (zChks_cons hX2_unseat_90 zChks_nil) rfl rfl rfl (Nat.le_of_ble_eq_true rfl) (Nat.le_of_ble_eq_true rfl) ?_
  simp only [bX2_unseat_0, bX2_unseat_90, zRun_cons, zRun_nil, zLk, zSto, zIns, zFil, zf0, zf1, zf2, zf3, List.filter_cons, List.filter_nil, Nat.reduceAdd, Nat.reduceEqDiff, Nat.reduceLT, Nat.reduceLeDiff, Nat.reduceBEq, Nat.reduceBNe, reduceIte, if_true, if_false, Bool.false_and, Bool.true_and, Bool.and_true, Bool.and_false, Bool.not_false, Bool.not_true, Bool.false_eq_true, beq_self_eq_true, BEq.rfl, zCat1, zCat2, zCat3, zKdI, zKdL, zKdR, true_and, and_true, zSI, zSL, zSR, zu_at, and_self, and_false, false_and, lv_args, zKdZ, zKdO, zB01, zB11, Option.toList_none, Option.toList_some, List.nil_append, List.cons_append, true_or, or_true, zRow_rd, zu_rd, zo_aload_n, zo_getfield, zo_iload_n, zo_iaload, zo_iconst, zo_icmp_ne, zo_return_, zi_2, zKd_2_0, zKd_2_1, sh_10, rf_10_0, sh_11, sh_19, rf_19_0, sh_20, sh_28, rf_28_0, sh_29, zcl_2, rf_10_1, sh_12, rf_19_1, sh_21, rf_28_1, sh_30, zvi_2_40, zKn_s, zKn_0, zFind, (fsh_0 hB), (fsh_1 hB), (fsh_2 hB), (fsh_3 hB), (fsh_4 hB), (fsh_5 hB), (fsh_6 hB), (fsh_7 hB), (fsh_8 hB), (frf_0 hB), (frf_1 hB), (frf_2 hB), (frf_3 hB), (frf_4 hB), (frf_5 hB), (frf_6 hB), (frf_7 hB), Nat.add_left_cancel_iff, Nat.left_eq_add, Nat.add_eq_left, hv, nI_clamp (n := c) (by omega), hF.v1 hc4, hF.v2 hc4, zN10, zN01, not_true_eq_false, not_false_eq_true, false_implies, true_implies, implies_true, eq_self, nI_1, nI_40, nI_7, vz0, vz1, zb1_e0, zb1_n0]
  refine ⟨fun h => ?_, fun h => ?_⟩
  · exact hQ I zKpt_rfl (by rw [oUn, if_neg h]; exact hF)
  obtain ⟨-, ⟨q0, h0, e2⟩, -⟩ := oOk_front hok hc4 (Or.inr h)
  have h05 : q0 < 5 := by omega
  have hv0 : vp_in (nI q0) 5 := zvn (by omega) (by omega)
  have e5 : V 5 c = 0 ∨ V 5 c = 1 := by
    rcases hok c hc4 with g | g | g | g
    · exact Or.inl g.2.2.2.1
    · exact Or.inl g.2.2.2.2.1
    · exact g.2.2.2.1
    · exact Or.inl g.2.2.2.2
  rw [e2]
  refine z_cS0 (M' := mX2_isPlace) (R' := rX2_isPlace) [.int (nI q0)] [] eX2_isPlace k2_92 (by decide +kernel : decode cX2_unseat 16 = .ok (.invokestatic 92, 3)) (Nat.le_of_ble_eq_true rfl) ⟨Nat.le_of_ble_eq_true rfl, Nat.le_of_ble_eq_true rfl, Nat.le_of_ble_eq_true rfl, Nat.le_of_ble_eq_true rfl, Nat.le_of_ble_eq_true rfl⟩ rfl rfl rfl ?_
  refine cl_isPlace h05 ?_
  refine zBlkR (M := mX2_unseat) (nL := 2) (rt := (Option.none : Option Jvm.ClassFile.FieldType)) (blk := bX2_unseat_19) (T := [(90, bX2_unseat_90)]) 1 hX2_unseat_19 (zChks_cons hX2_unseat_90 zChks_nil) rfl rfl rfl (Nat.le_of_ble_eq_true rfl) (Nat.le_of_ble_eq_true rfl) ?_
  simp only [bX2_unseat_19, bX2_unseat_90, zRun_cons, zRun_nil, zLk, zSto, zIns, zFil, zf0, zf1, zf2, zf3, List.filter_cons, List.filter_nil, Nat.reduceAdd, Nat.reduceEqDiff, Nat.reduceLT, Nat.reduceLeDiff, Nat.reduceBEq, Nat.reduceBNe, reduceIte, if_true, if_false, Bool.false_and, Bool.true_and, Bool.and_true, Bool.and_false, Bool.not_false, Bool.not_true, Bool.false_eq_true, beq_self_eq_true, BEq.rfl, zCat1, zCat2, zCat3, zKdI, zKdL, zKdR, true_and, and_true, zSI, zSL, zSR, zu_at, and_self, and_false, false_and, lv_args, zKdZ, zKdO, zB01, zB11, Option.toList_none, Option.toList_some, List.nil_append, List.cons_append, true_or, or_true, zRow_rd, zu_rd, zo_if_eq, zo_aload_n, zo_getfield, zo_iconst, zo_dup2, zo_dup2_2, zo_iaload, zo_iload_n, zo_isub, zo_iadd, zo_iastore, zo_return_, zi_3, zi_1, zi_m1, zi_0, zKd_2_7, zKd_2_4, zKd_2_0, zKd_2_3, zKd_2_6, zKd_2_1, zKd_2_5, sh_10, rf_10_7, sh_18, sh_19, rf_19_7, sh_27, sh_28, rf_28_7, sh_36, zcl_3, zcl_1, rf_10_4, sh_15, rf_19_4, sh_24, rf_28_4, sh_33, rf_10_0, sh_11, rf_19_0, sh_20, rf_28_0, sh_29, rf_10_3, sh_14, rf_19_3, sh_23, rf_28_3, sh_32, zcl_0, rf_10_6, sh_17, rf_19_6, sh_26, rf_28_6, sh_35, rf_10_1, sh_12, rf_19_1, sh_21, rf_28_1, sh_30, rf_10_5, sh_16, rf_19_5, sh_25, rf_28_5, sh_34, zvi_3_5, zvi_3_7, zvi_3_40, zvi_1_5, zvi_1_7, zvi_1_40, zvi_0_5, zvi_0_7, zvi_0_40, zKn_s, zKn_0, zFind, (fsh_0 hB), (fsh_1 hB), (fsh_2 hB), (fsh_3 hB), (fsh_4 hB), (fsh_5 hB), (fsh_6 hB), (fsh_7 hB), (fsh_8 hB), (frf_0 hB), (frf_1 hB), (frf_2 hB), (frf_3 hB), (frf_4 hB), (frf_5 hB), (frf_6 hB), (frf_7 hB), Nat.add_left_cancel_iff, Nat.left_eq_add, Nat.add_eq_left, hv, hv0, e2, nI_clamp (n := c) (by omega), nI_clamp (n := q0) (by omega), hF.v2 hc4, hF.v5 hc4, zN10, zN01, not_true_eq_false, not_false_eq_true, false_implies, true_implies, implies_true, eq_self, nI_1, nI_40, nI_7, vz0, vz1, zb1_e0, zb1_n0]
  have hV' : oUn c V = zu (oOff c V) 1 c 1 := by rw [oUn, if_pos h]
  have g1 : ∀ d, d ≠ c → oUn c V 1 d = V 1 d := fun d hd => by rw [hV', zu_at, oOff_at]; simp [hd]
  have g2 : ∀ d, d ≠ c → oUn c V 2 d = V 2 d := fun d hd => by rw [hV', zu_at, oOff_at]; simp
  have g3 : oUn c V 1 c = 1 := by rw [hV', zu_at]; simp
  have g4 : oUn c V 2 c = nI q0 := by rw [hV', zu_at, oOff_at]; simp [e2]
  obtain ⟨⟨a1, a2⟩, ⟨b1, b2⟩, c1⟩ := mv_un hc h05 h e2 g1 g2 g3 g4
  refine hQ _ ?_ ⟨?_, ?_, fun q hq => ?_, fun q hq => ?_, ?_⟩
  · refine (((((zKpt_rfl.u ?_).u ?_).u ?_).u ?_).u ?_).u ?_ <;> unfold zFB <;> omega
  · rw [vCu6, vCu7, vCu5 hc4, vCu4 hc4, vCu1 hc4, vC_u8 (by omega), hF.1, hV', hF.v8 (c := 3) (by omega)]
    funext i d
    simp only [zu_at, oOff_at]
    rcases e5 with e5 | e5 <;> simp only [e5] <;> grind
  · simp [zu_at]; exact hF.2.1
  · simp [zu_at]; exact cnt_up hF.2.2.1 h05 ⟨a1, a2⟩ q hq
  · simp [zu_at]; exact cnt_dn hF.2.2.2.1 h05 ⟨b1, b2⟩ q hq
  · simp [zu_at]; rw [c1]; exact hF.2.2.2.2
theorem oOk_un (h : oOk ch np wm V) : oOk ch np wm (oUn c V) := by
  unfold oUn
  split
  · rename_i q; exact oOk_out h (Or.inr q)
  · exact h
theorem oOk_ls (hc : c < 40) (h : oOk ch np wm V) : oOk ch np wm (oLs c V) := by
  unfold oLs
  split
  · rename_i q; exact oOk_lose (fun d hd _ => h d hd) (oOk_front h hc q).1
  · exact h
/-- a chair that is out, and nobody on it -/
theorem oOk_1 (h : oOk ch np wm V) (hc : c < 40) (h1 : V 1 c = 1) : V 4 c = -1 ∧ V 5 c = 0 := by
  rcases h c hc with g | g | g | g
  · rw [g.1] at h1; exact absurd h1 (by decide)
  · exact ⟨g.2.2.2.1, g.2.2.2.2.1⟩
  · rw [g.1] at h1; exact absurd h1 (by decide)
  · rw [g.1] at h1; exact absurd h1 (by decide)
set_option maxRecDepth 20000 in
theorem cl_lose (hB : zBc B) (hc : c < ch) (hch : ch ≤ 40) (hnp : np ≤ 5) (hF : zFC B I ch V) (hok : oOk ch np wm V) (hQ : ∀ I', zKpt (zFB B) I I' → zFC B I' ch (oLs c V) → Q none (SH, I', L, RF p s r)) : zXM w mX2_lose rX2_lose [.ref B, .int (nI c)] (SH, I, L, RF p s r) Q := by
  unfold zXM
  have hc4 : c < 40 := by omega
  have hv : vp_in (nI c) 40 := zvn (by omega) (by omega)
  refine zBlkR (M := mX2_lose) (nL := 2) (rt := (Option.none : Option Jvm.ClassFile.FieldType)) (blk := bX2_lose_0) (T := []) 0 hX2_lose_0 zChks_nil rfl rfl rfl (Nat.le_of_ble_eq_true rfl) (Nat.le_of_ble_eq_true rfl) ?_
  simp only [bX2_lose_0, zRun_cons, zRun_nil, zLk, zSto, zIns, zFil, zf0, zf1, zf2, zf3, List.filter_cons, List.filter_nil, Nat.reduceAdd, Nat.reduceEqDiff, Nat.reduceLT, Nat.reduceLeDiff, Nat.reduceBEq, Nat.reduceBNe, reduceIte, if_true, if_false, Bool.false_and, Bool.true_and, Bool.and_true, Bool.and_false, Bool.not_false, Bool.not_true, Bool.false_eq_true, beq_self_eq_true, BEq.rfl, zCat1, zCat2, zCat3, zKdI, zKdL, zKdR, true_and, and_true, zSI, zSL, zSR, zu_at, and_self, and_false, false_and, lv_args, zKdZ, zKdO, zB01, zB11, Option.toList_none, Option.toList_some, List.nil_append, List.cons_append, true_or, or_true, zRow_rd, zu_rd, zo_aload_n, zo_iload_n, zKn_0, zN10, zN01, not_true_eq_false, not_false_eq_true, false_implies, true_implies, implies_true, eq_self, nI_1, nI_40, nI_7, vz0, vz1, zb1_e0, zb1_n0]
  refine z_cV0 (M' := mX2_unseat) (R' := rX2_unseat) (i := B) [.int (nI c)] [] eX2_unseat k2_96 (by decide +kernel : decode cX2_lose 2 = .ok (.invokevirtual 96, 3)) (Nat.le_of_ble_eq_true rfl) ⟨Nat.le_of_ble_eq_true rfl, Nat.le_of_ble_eq_true rfl, Nat.le_of_ble_eq_true rfl, Nat.le_of_ble_eq_true rfl, Nat.le_of_ble_eq_true rfl⟩ rfl rfl rfl (fsh_0 hB) ?_
  refine cl_unseat hB hc hch hnp hF hok (fun I1 hk hF1 => ?_)
  have hok1 := oOk_un (c := c) hok
  refine zBlkR (M := mX2_lose) (nL := 2) (rt := (Option.none : Option Jvm.ClassFile.FieldType)) (blk := bX2_lose_5) (T := [(66, bX2_lose_66)]) 1 hX2_lose_5 (zChks_cons hX2_lose_66 zChks_nil) rfl rfl rfl (Nat.le_of_ble_eq_true rfl) (Nat.le_of_ble_eq_true rfl) ?_
  simp only [bX2_lose_5, bX2_lose_66, zRun_cons, zRun_nil, zLk, zSto, zIns, zFil, zf0, zf1, zf2, zf3, List.filter_cons, List.filter_nil, Nat.reduceAdd, Nat.reduceEqDiff, Nat.reduceLT, Nat.reduceLeDiff, Nat.reduceBEq, Nat.reduceBNe, reduceIte, if_true, if_false, Bool.false_and, Bool.true_and, Bool.and_true, Bool.and_false, Bool.not_false, Bool.not_true, Bool.false_eq_true, beq_self_eq_true, BEq.rfl, zCat1, zCat2, zCat3, zKdI, zKdL, zKdR, true_and, and_true, zSI, zSL, zSR, zu_at, and_self, and_false, false_and, lv_args, zKdZ, zKdO, zB01, zB11, Option.toList_none, Option.toList_some, List.nil_append, List.cons_append, true_or, or_true, zRow_rd, zu_rd, zo_aload_n, zo_getfield, zo_iload_n, zo_iaload, zo_iconst, zo_icmp_ne, zo_return_, zi_1, zKd_2_0, zKd_2_1, sh_10, rf_10_0, sh_11, sh_19, rf_19_0, sh_20, sh_28, rf_28_0, sh_29, zcl_1, rf_10_1, sh_12, rf_19_1, sh_21, rf_28_1, sh_30, zvi_1_40, zKn_s, zKn_0, zFind, (fsh_0 hB), (fsh_1 hB), (fsh_2 hB), (fsh_3 hB), (fsh_4 hB), (fsh_5 hB), (fsh_6 hB), (fsh_7 hB), (fsh_8 hB), (frf_0 hB), (frf_1 hB), (frf_2 hB), (frf_3 hB), (frf_4 hB), (frf_5 hB), (frf_6 hB), (frf_7 hB), Nat.add_left_cancel_iff, Nat.left_eq_add, Nat.add_eq_left, hv, nI_clamp (n := c) (by omega), hF1.v1 hc4, hF1.v2 hc4, zN10, zN01, not_true_eq_false, not_false_eq_true, false_implies, true_implies, implies_true, eq_self, nI_1, nI_40, nI_7, vz0, vz1, zb1_e0, zb1_n0]
  have hU1 : oUn c V 1 c = 1 ↔ (V 1 c = 1 ∨ V 1 c = 2) := by
    unfold oUn
    split
    · rename_i g; simp [zu_at, g]
    · rename_i g; simp [g]
  refine ⟨fun h => ?_, fun h => ?_⟩
  · have hn : ¬ (V 1 c = 1 ∨ V 1 c = 2) := fun g => h (hU1.mpr g)
    refine hQ I1 hk ?_
    rw [oLs, if_neg hn]
    rw [oUn, if_neg (fun g => hn (Or.inr g))] at hF1
    exact hF1
  have hfr := hU1.mp h
  obtain ⟨-, ⟨q0, h0, e2⟩, -⟩ := oOk_front hok1 hc4 (Or.inl h)
  have h05 : q0 < 5 := by omega
  have hv0 : vp_in (nI q0) 5 := zvn (by omega) (by omega)
  rw [e2]
  refine z_cS0 (M' := mX2_isPlace) (R' := rX2_isPlace) [.int (nI q0)] [] eX2_isPlace k2_92 (by decide +kernel : decode cX2_lose 21 = .ok (.invokestatic 92, 3)) (Nat.le_of_ble_eq_true rfl) ⟨Nat.le_of_ble_eq_true rfl, Nat.le_of_ble_eq_true rfl, Nat.le_of_ble_eq_true rfl, Nat.le_of_ble_eq_true rfl, Nat.le_of_ble_eq_true rfl⟩ rfl rfl rfl ?_
  refine cl_isPlace h05 ?_
  refine zBlkR (M := mX2_lose) (nL := 2) (rt := (Option.none : Option Jvm.ClassFile.FieldType)) (blk := bX2_lose_24) (T := [(66, bX2_lose_66)]) 1 hX2_lose_24 (zChks_cons hX2_lose_66 zChks_nil) rfl rfl rfl (Nat.le_of_ble_eq_true rfl) (Nat.le_of_ble_eq_true rfl) ?_
  simp only [bX2_lose_24, bX2_lose_66, zRun_cons, zRun_nil, zLk, zSto, zIns, zFil, zf0, zf1, zf2, zf3, List.filter_cons, List.filter_nil, Nat.reduceAdd, Nat.reduceEqDiff, Nat.reduceLT, Nat.reduceLeDiff, Nat.reduceBEq, Nat.reduceBNe, reduceIte, if_true, if_false, Bool.false_and, Bool.true_and, Bool.and_true, Bool.and_false, Bool.not_false, Bool.not_true, Bool.false_eq_true, beq_self_eq_true, BEq.rfl, zCat1, zCat2, zCat3, zKdI, zKdL, zKdR, true_and, and_true, zSI, zSL, zSR, zu_at, and_self, and_false, false_and, lv_args, zKdZ, zKdO, zB01, zB11, Option.toList_none, Option.toList_some, List.nil_append, List.cons_append, true_or, or_true, zRow_rd, zu_rd, zo_if_eq, zo_aload_n, zo_getfield, zo_iload_n, zo_iaload, zo_dup2, zo_dup2_2, zo_iconst, zo_isub, zo_iastore, zo_iadd, zo_return_, zi_1, zi_3, zi_m1, zi_5, zKd_2_5, zKd_2_1, zKd_2_0, zKd_2_7, sh_10, rf_10_5, sh_16, sh_19, rf_19_5, sh_25, sh_28, rf_28_5, sh_34, rf_10_1, sh_12, rf_19_1, sh_21, rf_28_1, sh_30, zcl_1, rf_10_0, sh_11, rf_19_0, sh_20, rf_28_0, sh_29, zcl_3, rf_10_7, sh_18, rf_19_7, sh_27, rf_28_7, sh_36, zcl_5, zvi_1_5, zvi_1_7, zvi_1_40, zvi_3_5, zvi_3_7, zvi_3_40, zvi_5_7, zvi_5_40, zKn_s, zKn_0, zFind, (fsh_0 hB), (fsh_1 hB), (fsh_2 hB), (fsh_3 hB), (fsh_4 hB), (fsh_5 hB), (fsh_6 hB), (fsh_7 hB), (fsh_8 hB), (frf_0 hB), (frf_1 hB), (frf_2 hB), (frf_3 hB), (frf_4 hB), (frf_5 hB), (frf_6 hB), (frf_7 hB), Nat.add_left_cancel_iff, Nat.left_eq_add, Nat.add_eq_left, hv, hv0, e2, nI_clamp (n := c) (by omega), nI_clamp (n := q0) (by omega), hF1.v2 hc4, zN10, zN01, not_true_eq_false, not_false_eq_true, false_implies, true_implies, implies_true, eq_self, nI_1, nI_40, nI_7, vz0, vz1, zb1_e0, zb1_n0]
  have hV' : oLs c V = zu (zu (zu (oUn c V) 1 c 3) 2 c (-1)) 8 5 (oUn c V 8 5 + 1) := by
    rw [oLs, if_pos hfr, oUn]
    funext i d
    rcases hfr with g | g
    · have := oOk_1 hok hc4 g
      simp only [zu_at, oLose_at, oOff_at, g]
      grind
    · simp only [zu_at, oLose_at, oOff_at, g, if_true]
      grind
  have g1 : ∀ d, d ≠ c → oLs c V 1 d = oUn c V 1 d := fun d hd => by rw [hV']; simp [zu_at, hd]
  have g2 : ∀ d, d ≠ c → oLs c V 2 d = oUn c V 2 d := fun d hd => by rw [hV']; simp [zu_at, hd]
  have g3 : oLs c V 1 c = 3 := by rw [hV']; simp [zu_at]
  refine hQ _ ?_ ⟨?_, ?_, fun q hq => ?_, fun q hq => ?_, ?_⟩
  · refine hk.trans ((((zKpt_rfl.u ?_).u ?_).u ?_).u ?_) <;> unfold zFB <;> omega
  · rw [vC_u8 (by omega), vCu2 hc4, vCu1 hc4, vCu6, hF1.1, hV', hF1.v8 (c := 5) (by omega)]
  · simp [zu_at]; exact hF1.2.1
  · simp [zu_at]; exact cnt_dn hF1.2.2.1 h05 (mv_out hc h05 h e2 g1 g2 (by rw [g3]; decide)) q hq
  · simp [zu_at]; exact cnt_no hF1.2.2.2.1 (mv_same hc (by rw [h]; decide) (by rw [g3]; decide) g1 g2) q hq
  · simp [zu_at]; rw [st_same hc (by rw [h]; decide) (by rw [g3]; decide) g1]; exact hF1.2.2.2.2
theorem oOk_stack (h : oOk ch np wm V) : oOk ch np wm (oStack c V) := by
  unfold oStack
  split
  · rename_i g
    refine oOk_of (c := c) h (fun i d h1 h2 h3 => ?_) (fun hc hk => ?_)
    · simp only [zu_at, h3, and_false, if_false]
    · simp only [zu_at, Nat.reduceEqDiff, false_and, if_false, if_true, true_and, and_self]
      rcases hk with ⟨q1, h2, h3, h4, h5⟩ | ⟨q1, h2, h3, h4, h5, h6⟩ | ⟨q1, h2, h3, h4, h5⟩ | ⟨q1, h2, h3, h4, h5⟩
      · rw [q1] at g; exact absurd g (by decide)
      · exact Or.inl ⟨rfl, rfl, h4, h5, h6⟩
      · rw [q1] at g; exact absurd g (by decide)
      · rw [q1] at g; exact absurd g (by decide)
  · exact h
theorem oOk_put (h : oOk ch np wm V) (hc : c < ch) (hq : q0 < np) : oOk ch np wm (oPutC q0 c V) := by
  unfold oPutC
  split
  · rename_i g
    refine oOk_of (c := c) h (fun i d h1 h2 h3 => ?_) (fun _ hk => ?_)
    · simp only [zu_at, h3, and_false, if_false]
    · simp only [zu_at, Nat.reduceEqDiff, false_and, if_false, if_true, true_and, and_self]
      rcases hk with ⟨q1, h2, h3, h4, h5⟩ | ⟨q1, h2, h3, h4, h5, h6⟩ | ⟨q1, h2, h3, h4, h5⟩ | ⟨q1, h2, h3, h4, h5⟩
      · exact Or.inr (Or.inl ⟨rfl, hc, ⟨q0, hq, rfl⟩, h3, h4, h5⟩)
      · rw [q1] at g; exact absurd g (by decide)
      · rw [q1] at g; exact absurd g (by decide)
      · rw [q1] at g; exact absurd g (by decide)
  · exact h
set_option maxRecDepth 20000 in
theorem cl_setStacked (hB : zBc B) (hc : c < ch) (hch : ch ≤ 40) (hnp : np ≤ 5) (hF : zFC B I ch V) (hok : oOk ch np wm V) (hQ : ∀ I', zKpt (zFB B) I I' → zFC B I' ch (oStack c V) → Q none (SH, I', L, RF p s r)) : zXM w mX2_setStacked rX2_setStacked [.ref B, .int (nI c)] (SH, I, L, RF p s r) Q := by
  unfold zXM
  have hc4 : c < 40 := by omega
  have hv : vp_in (nI c) 40 := zvn (by omega) (by omega)
  refine zBlkR (M := mX2_setStacked) (nL := 2) (rt := (Option.none : Option Jvm.ClassFile.FieldType)) (blk := bX2_setStacked_0) (T := [(61, bX2_setStacked_61)]) 1 hX2_setStacked_0 (zChks_cons hX2_setStacked_61 zChks_nil) rfl rfl rfl (Nat.le_of_ble_eq_true rfl) (Nat.le_of_ble_eq_true rfl) ?_
  simp only [bX2_setStacked_0, bX2_setStacked_61, zRun_cons, zRun_nil, zLk, zSto, zIns, zFil, zf0, zf1, zf2, zf3, List.filter_cons, List.filter_nil, Nat.reduceAdd, Nat.reduceEqDiff, Nat.reduceLT, Nat.reduceLeDiff, Nat.reduceBEq, Nat.reduceBNe, reduceIte, if_true, if_false, Bool.false_and, Bool.true_and, Bool.and_true, Bool.and_false, Bool.not_false, Bool.not_true, Bool.false_eq_true, beq_self_eq_true, BEq.rfl, zCat1, zCat2, zCat3, zKdI, zKdL, zKdR, true_and, and_true, zSI, zSL, zSR, zu_at, and_self, and_false, false_and, lv_args, zKdZ, zKdO, zB01, zB11, Option.toList_none, Option.toList_some, List.nil_append, List.cons_append, true_or, or_true, zRow_rd, zu_rd, zo_aload_n, zo_getfield, zo_iload_n, zo_iaload, zo_iconst, zo_icmp_ne, zo_return_, zi_1, zKd_2_0, zKd_2_1, sh_10, rf_10_0, sh_11, sh_19, rf_19_0, sh_20, sh_28, rf_28_0, sh_29, zcl_1, rf_10_1, sh_12, rf_19_1, sh_21, rf_28_1, sh_30, zvi_1_40, zKn_s, zKn_0, zFind, (fsh_0 hB), (fsh_1 hB), (fsh_2 hB), (fsh_3 hB), (fsh_4 hB), (fsh_5 hB), (fsh_6 hB), (fsh_7 hB), (fsh_8 hB), (frf_0 hB), (frf_1 hB), (frf_2 hB), (frf_3 hB), (frf_4 hB), (frf_5 hB), (frf_6 hB), (frf_7 hB), Nat.add_left_cancel_iff, Nat.left_eq_add, Nat.add_eq_left, hv, nI_clamp (n := c) (by omega), hF.v1 hc4, hF.v2 hc4, zN10, zN01, not_true_eq_false, not_false_eq_true, false_implies, true_implies, implies_true, eq_self, nI_1, nI_40, nI_7, vz0, vz1, zb1_e0, zb1_n0]
  refine ⟨fun h => ?_, fun h => ?_⟩
  · exact hQ I zKpt_rfl (by rw [oStack, if_neg h]; exact hF)
  obtain ⟨-, ⟨q0, h0, e2⟩, -⟩ := oOk_front hok hc4 (Or.inl h)
  have h05 : q0 < 5 := by omega
  have hv0 : vp_in (nI q0) 5 := zvn (by omega) (by omega)
  rw [e2]
  refine z_cS0 (M' := mX2_isPlace) (R' := rX2_isPlace) [.int (nI q0)] [] eX2_isPlace k2_92 (by decide +kernel : decode cX2_setStacked 16 = .ok (.invokestatic 92, 3)) (Nat.le_of_ble_eq_true rfl) ⟨Nat.le_of_ble_eq_true rfl, Nat.le_of_ble_eq_true rfl, Nat.le_of_ble_eq_true rfl, Nat.le_of_ble_eq_true rfl, Nat.le_of_ble_eq_true rfl⟩ rfl rfl rfl ?_
  refine cl_isPlace h05 ?_
  refine zBlkR (M := mX2_setStacked) (nL := 2) (rt := (Option.none : Option Jvm.ClassFile.FieldType)) (blk := bX2_setStacked_19) (T := [(61, bX2_setStacked_61)]) 1 hX2_setStacked_19 (zChks_cons hX2_setStacked_61 zChks_nil) rfl rfl rfl (Nat.le_of_ble_eq_true rfl) (Nat.le_of_ble_eq_true rfl) ?_
  simp only [bX2_setStacked_19, bX2_setStacked_61, zRun_cons, zRun_nil, zLk, zSto, zIns, zFil, zf0, zf1, zf2, zf3, List.filter_cons, List.filter_nil, Nat.reduceAdd, Nat.reduceEqDiff, Nat.reduceLT, Nat.reduceLeDiff, Nat.reduceBEq, Nat.reduceBNe, reduceIte, if_true, if_false, Bool.false_and, Bool.true_and, Bool.and_true, Bool.and_false, Bool.not_false, Bool.not_true, Bool.false_eq_true, beq_self_eq_true, BEq.rfl, zCat1, zCat2, zCat3, zKdI, zKdL, zKdR, true_and, and_true, zSI, zSL, zSR, zu_at, and_self, and_false, false_and, lv_args, zKdZ, zKdO, zB01, zB11, Option.toList_none, Option.toList_some, List.nil_append, List.cons_append, true_or, or_true, zRow_rd, zu_rd, zo_if_eq, zo_aload_n, zo_getfield, zo_iload_n, zo_iaload, zo_dup2, zo_dup2_2, zo_iconst, zo_isub, zo_iastore, zo_dup, zo_iadd, zo_putfield, zo_putfield_2, zo_putfield_3, zo_return_, zi_1, zi_0, zi_m1, zKd_2_5, zKd_2_1, zKd_2_9, zTy_2_9, zKd_2_0, sh_10, rf_10_5, sh_16, sh_19, rf_19_5, sh_25, sh_28, rf_28_5, sh_34, rf_10_1, sh_12, rf_19_1, sh_21, rf_28_1, sh_30, zcl_1, rf_10_0, sh_11, rf_19_0, sh_20, rf_28_0, sh_29, zcl_0, zvi_1_5, zvi_1_40, zvi_0_5, zvi_0_40, zPutC, zKn_s, zKn_0, zFind, (fsh_0 hB), (fsh_1 hB), (fsh_2 hB), (fsh_3 hB), (fsh_4 hB), (fsh_5 hB), (fsh_6 hB), (fsh_7 hB), (fsh_8 hB), (frf_0 hB), (frf_1 hB), (frf_2 hB), (frf_3 hB), (frf_4 hB), (frf_5 hB), (frf_6 hB), (frf_7 hB), Nat.add_left_cancel_iff, Nat.left_eq_add, Nat.add_eq_left, hv, hv0, e2, nI_clamp (n := c) (by omega), nI_clamp (n := q0) (by omega), hF.v2 hc4, zN10, zN01, not_true_eq_false, not_false_eq_true, false_implies, true_implies, implies_true, eq_self, nI_1, nI_40, nI_7, vz0, vz1, zb1_e0, zb1_n0]
  have hV' : oStack c V = zu (zu V 1 c 0) 2 c (-1) := by rw [oStack, if_pos h]
  have g1 : ∀ d, d ≠ c → oStack c V 1 d = V 1 d := fun d hd => by rw [hV']; simp [zu_at, hd]
  have g2 : ∀ d, d ≠ c → oStack c V 2 d = V 2 d := fun d hd => by rw [hV']; simp [zu_at, hd]
  have g3 : oStack c V 1 c = 0 := by rw [hV']; simp [zu_at]
  refine hQ _ ?_ ⟨?_, ?_, fun q hq => ?_, fun q hq => ?_, ?_⟩
  · refine (((zKpt_rfl.u ?_).u ?_).u ?_).u ?_ <;> unfold zFB <;> omega
  · rw [vCu2 hc4, vCu1 hc4, vCuB, vCu6, hF.1, hV']
  · simp [zu_at]; exact hF.2.1
  · simp [zu_at]; exact cnt_dn hF.2.2.1 h05 (mv_out hc h05 h e2 g1 g2 (by rw [g3]; decide)) q hq
  · simp [zu_at]; exact cnt_no hF.2.2.2.1 (mv_same hc (by rw [h]; decide) (by rw [g3]; decide) g1 g2) q hq
  · have hst := oStk_mv hc g1
    simp [h, g3] at hst
    simp [zu_at]; rw [hF.2.2.2.2, nI_1, hst]
set_option maxRecDepth 20000 in
theorem cl_setOut (hB : zBc B) (hc : c < ch) (hch : ch ≤ 40) (h05 : q0 < 5) (hF : zFC B I ch V) (hQ : ∀ I', zKpt (zFB B) I I' → zFC B I' ch (oPutC q0 c V) → Q none (SH, I', L, RF p s r)) : zXM w mX2_setOut rX2_setOut [.ref B, .int (nI c), .int (nI q0)] (SH, I, L, RF p s r) Q := by
  unfold zXM
  have hc4 : c < 40 := by omega
  have hv : vp_in (nI c) 40 := zvn (by omega) (by omega)
  refine zBlkR (M := mX2_setOut) (nL := 3) (rt := (Option.none : Option Jvm.ClassFile.FieldType)) (blk := bX2_setOut_0) (T := [(50, bX2_setOut_50)]) 1 hX2_setOut_0 (zChks_cons hX2_setOut_50 zChks_nil) rfl rfl rfl (Nat.le_of_ble_eq_true rfl) (Nat.le_of_ble_eq_true rfl) ?_
  simp only [bX2_setOut_0, bX2_setOut_50, zRun_cons, zRun_nil, zLk, zSto, zIns, zFil, zf0, zf1, zf2, zf3, List.filter_cons, List.filter_nil, Nat.reduceAdd, Nat.reduceEqDiff, Nat.reduceLT, Nat.reduceLeDiff, Nat.reduceBEq, Nat.reduceBNe, reduceIte, if_true, if_false, Bool.false_and, Bool.true_and, Bool.and_true, Bool.and_false, Bool.not_false, Bool.not_true, Bool.false_eq_true, beq_self_eq_true, BEq.rfl, zCat1, zCat2, zCat3, zKdI, zKdL, zKdR, true_and, and_true, zSI, zSL, zSR, zu_at, and_self, and_false, false_and, lv_args, zKdZ, zKdO, zB01, zB11, Option.toList_none, Option.toList_some, List.nil_append, List.cons_append, true_or, or_true, zRow_rd, zu_rd, zo_aload_n, zo_getfield, zo_iload_n, zo_iaload, zo_if_ne, zo_return_, zKd_2_0, sh_10, rf_10_0, sh_11, sh_19, rf_19_0, sh_20, sh_28, rf_28_0, sh_29, zKn_s, zKn_0, zFind, (fsh_0 hB), (fsh_1 hB), (fsh_2 hB), (fsh_3 hB), (fsh_4 hB), (fsh_5 hB), (fsh_6 hB), (fsh_7 hB), (fsh_8 hB), (frf_0 hB), (frf_1 hB), (frf_2 hB), (frf_3 hB), (frf_4 hB), (frf_5 hB), (frf_6 hB), (frf_7 hB), Nat.add_left_cancel_iff, Nat.left_eq_add, Nat.add_eq_left, hv, nI_clamp (n := c) (by omega), hF.v1 hc4, zN10, zN01, not_true_eq_false, not_false_eq_true, false_implies, true_implies, implies_true, eq_self, nI_1, nI_40, nI_7, vz0, vz1, zb1_e0, zb1_n0]
  refine ⟨fun h => ?_, fun h => ?_⟩
  · exact hQ I zKpt_rfl (by rw [oPutC, if_neg h]; exact hF)
  have hv0 : vp_in (nI q0) 5 := zvn (by omega) (by omega)
  refine z_cS0 (M' := mX2_isPlace) (R' := rX2_isPlace) [.int (nI q0)] [] eX2_isPlace k2_92 (by decide +kernel : decode cX2_setOut 10 = .ok (.invokestatic 92, 3)) (Nat.le_of_ble_eq_true rfl) ⟨Nat.le_of_ble_eq_true rfl, Nat.le_of_ble_eq_true rfl, Nat.le_of_ble_eq_true rfl, Nat.le_of_ble_eq_true rfl, Nat.le_of_ble_eq_true rfl⟩ rfl rfl rfl ?_
  refine cl_isPlace h05 ?_
  refine zBlkR (M := mX2_setOut) (nL := 3) (rt := (Option.none : Option Jvm.ClassFile.FieldType)) (blk := bX2_setOut_13) (T := [(50, bX2_setOut_50)]) 1 hX2_setOut_13 (zChks_cons hX2_setOut_50 zChks_nil) rfl rfl rfl (Nat.le_of_ble_eq_true rfl) (Nat.le_of_ble_eq_true rfl) ?_
  simp only [bX2_setOut_13, bX2_setOut_50, zRun_cons, zRun_nil, zLk, zSto, zIns, zFil, zf0, zf1, zf2, zf3, List.filter_cons, List.filter_nil, Nat.reduceAdd, Nat.reduceEqDiff, Nat.reduceLT, Nat.reduceLeDiff, Nat.reduceBEq, Nat.reduceBNe, reduceIte, if_true, if_false, Bool.false_and, Bool.true_and, Bool.and_true, Bool.and_false, Bool.not_false, Bool.not_true, Bool.false_eq_true, beq_self_eq_true, BEq.rfl, zCat1, zCat2, zCat3, zKdI, zKdL, zKdR, true_and, and_true, zSI, zSL, zSR, zu_at, and_self, and_false, false_and, lv_args, zKdZ, zKdO, zB01, zB11, Option.toList_none, Option.toList_some, List.nil_append, List.cons_append, true_or, or_true, zRow_rd, zu_rd, zo_if_eq, zo_aload_n, zo_getfield, zo_iload_n, zo_iconst, zo_iastore, zo_dup2, zo_dup2_2, zo_iaload, zo_iadd, zo_dup, zo_isub, zo_putfield, zo_putfield_2, zo_putfield_3, zo_return_, zi_1, zKd_2_0, zKd_2_1, zKd_2_5, zKd_2_9, zTy_2_9, sh_10, rf_10_0, sh_11, sh_19, rf_19_0, sh_20, sh_28, rf_28_0, sh_29, zcl_1, rf_10_1, sh_12, rf_19_1, sh_21, rf_28_1, sh_30, rf_10_5, sh_16, rf_19_5, sh_25, rf_28_5, sh_34, zvi_1_5, zvi_1_40, zPutC, zKn_s, zKn_0, zFind, (fsh_0 hB), (fsh_1 hB), (fsh_2 hB), (fsh_3 hB), (fsh_4 hB), (fsh_5 hB), (fsh_6 hB), (fsh_7 hB), (fsh_8 hB), (frf_0 hB), (frf_1 hB), (frf_2 hB), (frf_3 hB), (frf_4 hB), (frf_5 hB), (frf_6 hB), (frf_7 hB), Nat.add_left_cancel_iff, Nat.left_eq_add, Nat.add_eq_left, hv, hv0, nI_clamp (n := c) (by omega), nI_clamp (n := q0) (by omega), zN10, zN01, not_true_eq_false, not_false_eq_true, false_implies, true_implies, implies_true, eq_self, nI_1, nI_40, nI_7, vz0, vz1, zb1_e0, zb1_n0]
  have hV' : oPutC q0 c V = zu (zu V 1 c 1) 2 c (nI q0) := by rw [oPutC, if_pos h]
  have g1 : ∀ d, d ≠ c → oPutC q0 c V 1 d = V 1 d := fun d hd => by rw [hV']; simp [zu_at, hd]
  have g2 : ∀ d, d ≠ c → oPutC q0 c V 2 d = V 2 d := fun d hd => by rw [hV']; simp [zu_at, hd]
  have g3 : oPutC q0 c V 1 c = 1 := by rw [hV']; simp [zu_at]
  have g4 : oPutC q0 c V 2 c = nI q0 := by rw [hV']; simp [zu_at]
  refine hQ _ ?_ ⟨?_, ?_, fun q hq => ?_, fun q hq => ?_, ?_⟩
  · refine (((zKpt_rfl.u ?_).u ?_).u ?_).u ?_ <;> unfold zFB <;> omega
  · rw [vCuB, vCu6, vCu2 hc4, vCu1 hc4, hF.1, hV']
  · simp [zu_at]; exact hF.2.1
  · simp [zu_at]; exact cnt_up hF.2.2.1 h05 (mv_in hc h05 (by rw [h]; decide) g1 g2 g3 g4) q hq
  · simp [zu_at]; exact cnt_no hF.2.2.2.1 (mv_same hc (by rw [h]; decide) (by rw [g3]; decide) g1 g2) q hq
  · have hst := oStk_mv hc g1
    simp [h, g3] at hst
    simp [zu_at]; rw [hF.2.2.2.2, ← hst, nI_pred]
set_option maxRecDepth 20000 in
theorem cl_seatOne (hB : zBc B) (hch : ch ≤ 40) (h05 : q0 < 5) (hF : zFC B I ch V) (hok : oOk ch np wm V) (hf : zFst (oFree V q0) ch < ch) (hQ : ∀ I', zKpt (zFB B) I I' → zFC B I' ch (oSeat till (zFst (oFree V q0) ch) V) → Q none (SH, I', L, RF p s r)) : zXM w mX2_seatOne rX2_seatOne [.ref B, .int (nI q0), .int till] (SH, I, L, RF p s r) Q := by
  unfold zXM
  refine zBlkR (M := mX2_seatOne) (nL := 4) (rt := (Option.none : Option Jvm.ClassFile.FieldType)) (blk := bX2_seatOne_0) (T := []) 0 hX2_seatOne_0 zChks_nil rfl rfl rfl (Nat.le_of_ble_eq_true rfl) (Nat.le_of_ble_eq_true rfl) ?_
  simp only [bX2_seatOne_0, zRun_cons, zRun_nil, zLk, zSto, zIns, zFil, zf0, zf1, zf2, zf3, List.filter_cons, List.filter_nil, Nat.reduceAdd, Nat.reduceEqDiff, Nat.reduceLT, Nat.reduceLeDiff, Nat.reduceBEq, Nat.reduceBNe, reduceIte, if_true, if_false, Bool.false_and, Bool.true_and, Bool.and_true, Bool.and_false, Bool.not_false, Bool.not_true, Bool.false_eq_true, beq_self_eq_true, BEq.rfl, zCat1, zCat2, zCat3, zKdI, zKdL, zKdR, true_and, and_true, zSI, zSL, zSR, zu_at, and_self, and_false, false_and, lv_args, zKdZ, zKdO, zB01, zB11, Option.toList_none, Option.toList_some, List.nil_append, List.cons_append, true_or, or_true, zRow_rd, zu_rd, zo_iconst, zo_istore_n, zi_0, zcl_0, zKn_0, zN10, zN01, not_true_eq_false, not_false_eq_true, false_implies, true_implies, implies_true, eq_self, nI_1, nI_40, nI_7, vz0, vz1, zb1_e0, zb1_n0]
  have hv0 : vp_in (nI q0) 5 := zvn (by omega) (by omega)
  refine zLoop (n := zFst (oFree V q0) ch) (P := fun c => zX w mX2_seatOne rX2_seatOne Q 0 0 2 [(0, Value.ref B), (1, Value.int (nI q0)), (2, Value.int till), (3, Value.int (nI c))] [] (SH, I, L, RF p s r)) (fun c hc ih => ?_) 0 (Nat.zero_le _)
  have hcc : c < ch := by omega
  have hc4 : c < 40 := by omega
  have hv : vp_in (nI c) 40 := zvn (by omega) (by omega)
  refine zBlkR (M := mX2_seatOne) (nL := 4) (rt := (Option.none : Option Jvm.ClassFile.FieldType)) (blk := bX2_seatOne_2) (T := [(72, bX2_seatOne_72), (78, bX2_seatOne_78)]) 1 hX2_seatOne_2 (zChks_cons hX2_seatOne_72 (zChks_cons hX2_seatOne_78 zChks_nil)) rfl rfl rfl (Nat.le_of_ble_eq_true rfl) (Nat.le_of_ble_eq_true rfl) ?_
  simp only [bX2_seatOne_2, bX2_seatOne_72, bX2_seatOne_78, zRun_cons, zRun_nil, zLk, zSto, zIns, zFil, zf0, zf1, zf2, zf3, List.filter_cons, List.filter_nil, Nat.reduceAdd, Nat.reduceEqDiff, Nat.reduceLT, Nat.reduceLeDiff, Nat.reduceBEq, Nat.reduceBNe, reduceIte, if_true, if_false, Bool.false_and, Bool.true_and, Bool.and_true, Bool.and_false, Bool.not_false, Bool.not_true, Bool.false_eq_true, beq_self_eq_true, BEq.rfl, zCat1, zCat2, zCat3, zKdI, zKdL, zKdR, true_and, and_true, zSI, zSL, zSR, zu_at, and_self, and_false, false_and, lv_args, zKdZ, zKdO, zB01, zB11, Option.toList_none, Option.toList_some, List.nil_append, List.cons_append, true_or, or_true, zRow_rd, zu_rd, zo_iload_n, zo_aload_n, zo_getfield, zo_icmp_ge, zo_iaload, zo_iconst, zo_icmp_ne, zo_iinc, zo_goto, zo_return_, zi_1, zKd_2_8, zKd_2_0, zKd_2_1, sh_10, sh_19, sh_28, rf_10_0, sh_11, rf_19_0, sh_20, rf_28_0, sh_29, zcl_1, rf_10_1, sh_12, rf_19_1, sh_21, rf_28_1, sh_30, zvi_1_40, zKn_s, zKn_0, zFind, (fsh_0 hB), (fsh_1 hB), (fsh_2 hB), (fsh_3 hB), (fsh_4 hB), (fsh_5 hB), (fsh_6 hB), (fsh_7 hB), (fsh_8 hB), (frf_0 hB), (frf_1 hB), (frf_2 hB), (frf_3 hB), (frf_4 hB), (frf_5 hB), (frf_6 hB), (frf_7 hB), Nat.add_left_cancel_iff, Nat.left_eq_add, Nat.add_eq_left, hv, nI_clamp (n := c) (by omega), hF.v1 hc4, hF.v2 hc4, hF.2.1, zle_nat (a := ch) (b := c) (by omega) (by omega), zN10, zN01, not_true_eq_false, not_false_eq_true, false_implies, true_implies, implies_true, eq_self, nI_1, nI_40, nI_7, vz0, vz1, zb1_e0, zb1_n0]
  have hstep : ¬ (V 1 c = 1 ∧ V 2 c = nI q0) → c < zFst (oFree V q0) ch := by
    intro g
    rcases Nat.lt_or_ge c (zFst (oFree V q0) ch) with g2 | g2
    · exact g2
    · have e : c = zFst (oFree V q0) ch := by omega
      exact absurd (oFree_1 (zFst_lt hf)) (by rw [← e]; exact g)
  refine ⟨fun h => absurd h (by omega), fun _ => ⟨fun h1 => ih (hstep (fun g => h1 g.1)), fun h1 => ⟨fun h2 => ih (hstep (fun g => h2 g.2)), fun h2 => ?_⟩⟩⟩
  refine z_cS0 (M' := mX2_isPlace) (R' := rX2_isPlace) [.int (nI q0)] [] eX2_isPlace k2_92 (by decide +kernel : decode cX2_seatOne 31 = .ok (.invokestatic 92, 3)) (Nat.le_of_ble_eq_true rfl) ⟨Nat.le_of_ble_eq_true rfl, Nat.le_of_ble_eq_true rfl, Nat.le_of_ble_eq_true rfl, Nat.le_of_ble_eq_true rfl, Nat.le_of_ble_eq_true rfl⟩ rfl rfl rfl ?_
  refine cl_isPlace h05 ?_
  refine zBlkR (M := mX2_seatOne) (nL := 4) (rt := (Option.none : Option Jvm.ClassFile.FieldType)) (blk := bX2_seatOne_34) (T := [(72, bX2_seatOne_72)]) 1 hX2_seatOne_34 (zChks_cons hX2_seatOne_72 zChks_nil) rfl rfl rfl (Nat.le_of_ble_eq_true rfl) (Nat.le_of_ble_eq_true rfl) ?_
  simp only [bX2_seatOne_34, bX2_seatOne_72, zRun_cons, zRun_nil, zLk, zSto, zIns, zFil, zf0, zf1, zf2, zf3, List.filter_cons, List.filter_nil, Nat.reduceAdd, Nat.reduceEqDiff, Nat.reduceLT, Nat.reduceLeDiff, Nat.reduceBEq, Nat.reduceBNe, reduceIte, if_true, if_false, Bool.false_and, Bool.true_and, Bool.and_true, Bool.and_false, Bool.not_false, Bool.not_true, Bool.false_eq_true, beq_self_eq_true, BEq.rfl, zCat1, zCat2, zCat3, zKdI, zKdL, zKdR, true_and, and_true, zSI, zSL, zSR, zu_at, and_self, and_false, false_and, lv_args, zKdZ, zKdO, zB01, zB11, Option.toList_none, Option.toList_some, List.nil_append, List.cons_append, true_or, or_true, zRow_rd, zu_rd, zo_if_eq, zo_aload_n, zo_getfield, zo_iload_n, zo_iconst, zo_iastore, zo_dup2, zo_dup2_2, zo_iaload, zo_isub, zo_iadd, zo_return_, zo_iinc, zo_goto, zi_2, zi_1, zKd_2_0, zKd_2_3, zKd_2_5, zKd_2_6, sh_10, rf_10_0, sh_11, sh_19, rf_19_0, sh_20, sh_28, rf_28_0, sh_29, zcl_2, rf_10_3, sh_14, rf_19_3, sh_23, rf_28_3, sh_32, rf_10_5, sh_16, rf_19_5, sh_25, rf_28_5, sh_34, zcl_1, rf_10_6, sh_17, rf_19_6, sh_26, rf_28_6, sh_35, zvi_2_5, zvi_2_40, zvi_1_5, zvi_1_40, zKn_s, zKn_0, zFind, (fsh_0 hB), (fsh_1 hB), (fsh_2 hB), (fsh_3 hB), (fsh_4 hB), (fsh_5 hB), (fsh_6 hB), (fsh_7 hB), (fsh_8 hB), (frf_0 hB), (frf_1 hB), (frf_2 hB), (frf_3 hB), (frf_4 hB), (frf_5 hB), (frf_6 hB), (frf_7 hB), Nat.add_left_cancel_iff, Nat.left_eq_add, Nat.add_eq_left, hv, hv0, nI_clamp (n := c) (by omega), nI_clamp (n := q0) (by omega), zN10, zN01, not_true_eq_false, not_false_eq_true, false_implies, true_implies, implies_true, eq_self, nI_1, nI_40, nI_7, vz0, vz1, zb1_e0, zb1_n0]
  have e : zFst (oFree V q0) ch = c := by
    rcases Nat.lt_or_ge c (zFst (oFree V q0) ch) with g | g
    · have := zFst_no g
      simp [oFree, h1, h2] at this
    · omega
  rw [e] at hQ
  have hp := oOk_1 hok hc4 h1
  have g1 : ∀ d, d ≠ c → oSeat till c V 1 d = V 1 d := fun d hd => by simp [oSeat, zu_at, hd]
  have g2 : ∀ d, d ≠ c → oSeat till c V 2 d = V 2 d := fun d hd => by simp [oSeat, zu_at]
  have g3 : oSeat till c V 1 c = 2 := by simp [oSeat, zu_at]
  have g4 : oSeat till c V 2 c = nI q0 := by simp [oSeat, zu_at, h2]
  refine hQ _ ?_ ⟨?_, ?_, fun q hq => ?_, fun q hq => ?_, ?_⟩
  · refine (((zKpt_rfl.u ?_).u ?_).u ?_).u ?_ <;> unfold zFB <;> omega
  · rw [vCu7, vCu6, vCu4 hc4, vCu1 hc4, hF.1, oSeat]
    funext i d
    simp only [zu_at]
    grind
  · simp [zu_at]; exact hF.2.1
  · simp [zu_at]; exact cnt_dn hF.2.2.1 h05 (mv_out hcc h05 h1 h2 g1 g2 (by rw [g3]; decide)) q hq
  · simp [zu_at]; exact cnt_up hF.2.2.2.1 h05 (mv_in hcc h05 (by rw [h1]; decide) g1 g2 g3 g4) q hq
  · simp [zu_at]; rw [st_same hcc (by rw [h1]; decide) (by rw [g3]; decide) g1]; exact hF.2.2.2.2
end ZF62
end

section
/-! ===== THE CLASS: more of a front ===== -/
section ZF65
variable {w : zP} {Q : Option Value → zMem → Prop} {μ : zMem} {I V : Nat → Nat → Int32} {L : Nat → Nat → Int64} {p s : Nat} {r : Option Nat} {B c ch np q0 : Nat} {wm x till : Int32} {d : Int64}
set_option maxRecDepth 20000 in
theorem cl_following (hQ : Q (some (.long (oNext d))) μ) : zXM w mX2_following rX2_following [.long d] μ Q := by
  unfold zXM
  refine zBlkR (M := mX2_following) (nL := 2) (rt := (Option.some .long)) (blk := bX2_following_0) (T := []) 0 hX2_following_0 zChks_nil rfl rfl rfl (Nat.le_of_ble_eq_true rfl) (Nat.le_of_ble_eq_true rfl) ?_
  simp only [bX2_following_0, zRun_cons, zRun_nil, zLk, zSto, zIns, zFil, zf0, zf1, zf2, zf3, List.filter_cons, List.filter_nil, Nat.reduceAdd, Nat.reduceEqDiff, Nat.reduceLT, Nat.reduceLeDiff, Nat.reduceBEq, Nat.reduceBNe, reduceIte, if_true, if_false, Bool.false_and, Bool.true_and, Bool.and_true, Bool.and_false, Bool.not_false, Bool.not_true, Bool.false_eq_true, beq_self_eq_true, BEq.rfl, zCat1, zCat2, zCat3, zKdI, zKdL, zKdR, true_and, and_true, zSI, zSL, zSR, zu_at, and_self, and_false, false_and, lv_args, zKdZ, zKdO, zB01, zB11, Option.toList_none, Option.toList_some, List.nil_append, List.cons_append, true_or, or_true, zRow_rd, zu_rd, zo_lload_n, zo_ldc2_w, zo_lmul, zo_ladd, zo_land, zo_lreturn, zL_1103515245, zL_12345, zL_2147483647, zKn_0, zCat2, zN10, zN01, not_true_eq_false, not_false_eq_true, false_implies, true_implies, implies_true, eq_self, nI_1, nI_40, nI_7, vz0, vz1, zb1_e0, zb1_n0]
  exact hQ
set_option maxRecDepth 20000 in
theorem cl_numberOf (hQ : Q (some (.long (d >>> ((16 : Int32).toInt64 &&& 63)))) μ) : zXM w mX2_numberOf rX2_numberOf [.long d] μ Q := by
  unfold zXM
  refine zBlkR (M := mX2_numberOf) (nL := 2) (rt := (Option.some .long)) (blk := bX2_numberOf_0) (T := []) 0 hX2_numberOf_0 zChks_nil rfl rfl rfl (Nat.le_of_ble_eq_true rfl) (Nat.le_of_ble_eq_true rfl) ?_
  simp only [bX2_numberOf_0, zRun_cons, zRun_nil, zLk, zSto, zIns, zFil, zf0, zf1, zf2, zf3, List.filter_cons, List.filter_nil, Nat.reduceAdd, Nat.reduceEqDiff, Nat.reduceLT, Nat.reduceLeDiff, Nat.reduceBEq, Nat.reduceBNe, reduceIte, if_true, if_false, Bool.false_and, Bool.true_and, Bool.and_true, Bool.and_false, Bool.not_false, Bool.not_true, Bool.false_eq_true, beq_self_eq_true, BEq.rfl, zCat1, zCat2, zCat3, zKdI, zKdL, zKdR, true_and, and_true, zSI, zSL, zSR, zu_at, and_self, and_false, false_and, lv_args, zKdZ, zKdO, zB01, zB11, Option.toList_none, Option.toList_some, List.nil_append, List.cons_append, true_or, or_true, zRow_rd, zu_rd, zo_lload_n, zo_bipush, zo_lshr, zo_lreturn, zb_16, zcl_16, zKn_0, zCat2, zN10, zN01, not_true_eq_false, not_false_eq_true, false_implies, true_implies, implies_true, eq_self, nI_1, nI_40, nI_7, vz0, vz1, zb1_e0, zb1_n0]
  exact hQ
set_option maxRecDepth 20000 in
theorem cl_balance (hB : zBc B) (hF : zFC B I ch V) (hQ : Q (some (.int (V 8 0 - x * V 8 5))) (SH, I, L, RF p s r)) : zXM w mX2_balance rX2_balance [.ref B, .int x] (SH, I, L, RF p s r) Q := by
  unfold zXM
  refine zBlkR (M := mX2_balance) (nL := 2) (rt := (Option.some .int)) (blk := bX2_balance_0) (T := []) 0 hX2_balance_0 zChks_nil rfl rfl rfl (Nat.le_of_ble_eq_true rfl) (Nat.le_of_ble_eq_true rfl) ?_
  simp only [bX2_balance_0, zRun_cons, zRun_nil, zLk, zSto, zIns, zFil, zf0, zf1, zf2, zf3, List.filter_cons, List.filter_nil, Nat.reduceAdd, Nat.reduceEqDiff, Nat.reduceLT, Nat.reduceLeDiff, Nat.reduceBEq, Nat.reduceBNe, reduceIte, if_true, if_false, Bool.false_and, Bool.true_and, Bool.and_true, Bool.and_false, Bool.not_false, Bool.not_true, Bool.false_eq_true, beq_self_eq_true, BEq.rfl, zCat1, zCat2, zCat3, zKdI, zKdL, zKdR, true_and, and_true, zSI, zSL, zSR, zu_at, and_self, and_false, false_and, lv_args, zKdZ, zKdO, zB01, zB11, Option.toList_none, Option.toList_some, List.nil_append, List.cons_append, true_or, or_true, zRow_rd, zu_rd, zo_aload_n, zo_getfield, zo_iconst, zo_iaload, zo_iload_n, zo_imul, zo_isub, zo_ireturn, zi_0, zi_5, zKd_2_7, sh_10, rf_10_7, sh_18, sh_19, rf_19_7, sh_27, sh_28, rf_28_7, sh_36, zcl_0, zcl_5, zvi_0_7, zvi_5_7, zRt, zKn_0, (fsh_0 hB), (fsh_1 hB), (fsh_2 hB), (fsh_3 hB), (fsh_4 hB), (fsh_5 hB), (fsh_6 hB), (fsh_7 hB), (fsh_8 hB), (frf_0 hB), (frf_1 hB), (frf_2 hB), (frf_3 hB), (frf_4 hB), (frf_5 hB), (frf_6 hB), (frf_7 hB), Nat.add_left_cancel_iff, Nat.left_eq_add, Nat.add_eq_left, zvi_0_7, zvi_5_7, hF.v8 (c := 0) (by omega), hF.v8 (c := 5) (by omega), zN10, zN01, not_true_eq_false, not_false_eq_true, false_implies, true_implies, implies_true, eq_self, nI_1, nI_40, nI_7, vz0, vz1, zb1_e0, zb1_n0]
  exact hQ
set_option maxRecDepth 20000 in
/-- a chair that is out is lost; of the other chairs nothing is asked -/
theorem zXM_lose (hB : zBc B) (hc : c < ch) (hch : ch ≤ 40) (hnp : np ≤ 5) (hF : zFC B I ch V) (hq : ∃ q, q < np ∧ V 2 c = nI q) (h1 : V 1 c = 1) (h4 : V 4 c = -1) (h5 : V 5 c = 0) (hQ : ∀ I', zKpt (zFB B) I I' → zFC B I' ch (oLose c V) → Q none (SH, I', L, RF p s r)) : zXM w mX2_lose rX2_lose [.ref B, .int (nI c)] (SH, I, L, RF p s r) Q := by
  unfold zXM
  have hc4 : c < 40 := by omega
  have hv : vp_in (nI c) 40 := zvn (by omega) (by omega)
  obtain ⟨q0, h0, e2⟩ := hq
  have h05 : q0 < 5 := by omega
  have hv0 : vp_in (nI q0) 5 := zvn (by omega) (by omega)
  have hF1 := hF.v1 hc4
  rw [h1] at hF1
  have n12 : ((1 : Int32) = 2) = False := eq_false (by decide)
  refine zBlkR (M := mX2_lose) (nL := 2) (rt := (Option.none : Option Jvm.ClassFile.FieldType)) (blk := bX2_lose_0) (T := []) 0 hX2_lose_0 zChks_nil rfl rfl rfl (Nat.le_of_ble_eq_true rfl) (Nat.le_of_ble_eq_true rfl) ?_
  simp only [bX2_lose_0, zRun_cons, zRun_nil, zLk, zSto, zIns, zFil, zf0, zf1, zf2, zf3, List.filter_cons, List.filter_nil, Nat.reduceAdd, Nat.reduceEqDiff, Nat.reduceLT, Nat.reduceLeDiff, Nat.reduceBEq, Nat.reduceBNe, reduceIte, if_true, if_false, Bool.false_and, Bool.true_and, Bool.and_true, Bool.and_false, Bool.not_false, Bool.not_true, Bool.false_eq_true, beq_self_eq_true, BEq.rfl, zCat1, zCat2, zCat3, zKdI, zKdL, zKdR, true_and, and_true, zSI, zSL, zSR, zu_at, and_self, and_false, false_and, lv_args, zKdZ, zKdO, zB01, zB11, Option.toList_none, Option.toList_some, List.nil_append, List.cons_append, true_or, or_true, zRow_rd, zu_rd, zo_aload_n, zo_iload_n, zKn_0, zN10, zN01, not_true_eq_false, not_false_eq_true, false_implies, true_implies, implies_true, eq_self, nI_1, nI_40, nI_7, vz0, vz1, zb1_e0, zb1_n0]
  refine z_cV0 (M' := mX2_unseat) (R' := rX2_unseat) (i := B) [.int (nI c)] [] eX2_unseat k2_96 (by decide +kernel : decode cX2_lose 2 = .ok (.invokevirtual 96, 3)) (Nat.le_of_ble_eq_true rfl) ⟨Nat.le_of_ble_eq_true rfl, Nat.le_of_ble_eq_true rfl, Nat.le_of_ble_eq_true rfl, Nat.le_of_ble_eq_true rfl, Nat.le_of_ble_eq_true rfl⟩ rfl rfl rfl (fsh_0 hB) ?_
  unfold zXM
  refine zBlkR (M := mX2_unseat) (nL := 2) (rt := (Option.none : Option Jvm.ClassFile.FieldType)) (blk := bX2_unseat_0) (T := [(90, bX2_unseat_90)]) 1 hX2_unseat_0 (zChks_cons hX2_unseat_90 zChks_nil) rfl rfl rfl (Nat.le_of_ble_eq_true rfl) (Nat.le_of_ble_eq_true rfl) ?_
  simp only [bX2_unseat_0, bX2_unseat_90, zRun_cons, zRun_nil, zLk, zSto, zIns, zFil, zf0, zf1, zf2, zf3, List.filter_cons, List.filter_nil, Nat.reduceAdd, Nat.reduceEqDiff, Nat.reduceLT, Nat.reduceLeDiff, Nat.reduceBEq, Nat.reduceBNe, reduceIte, if_true, if_false, Bool.false_and, Bool.true_and, Bool.and_true, Bool.and_false, Bool.not_false, Bool.not_true, Bool.false_eq_true, beq_self_eq_true, BEq.rfl, zCat1, zCat2, zCat3, zKdI, zKdL, zKdR, true_and, and_true, zSI, zSL, zSR, zu_at, and_self, and_false, false_and, lv_args, zKdZ, zKdO, zB01, zB11, Option.toList_none, Option.toList_some, List.nil_append, List.cons_append, true_or, or_true, zRow_rd, zu_rd, zo_aload_n, zo_getfield, zo_iload_n, zo_iaload, zo_iconst, zo_icmp_ne, zo_return_, zi_2, zKd_2_0, zKd_2_1, sh_10, rf_10_0, sh_11, sh_19, rf_19_0, sh_20, sh_28, rf_28_0, sh_29, zcl_2, rf_10_1, sh_12, rf_19_1, sh_21, rf_28_1, sh_30, zvi_2_40, zKn_s, zKn_0, zFind, (fsh_0 hB), (fsh_1 hB), (fsh_2 hB), (fsh_3 hB), (fsh_4 hB), (fsh_5 hB), (fsh_6 hB), (fsh_7 hB), (fsh_8 hB), (frf_0 hB), (frf_1 hB), (frf_2 hB), (frf_3 hB), (frf_4 hB), (frf_5 hB), (frf_6 hB), (frf_7 hB), Nat.add_left_cancel_iff, Nat.left_eq_add, Nat.add_eq_left, hv, hF1, n12, nI_clamp (n := c) (by omega), zN10, zN01, not_true_eq_false, not_false_eq_true, false_implies, true_implies, implies_true, eq_self, nI_1, nI_40, nI_7, vz0, vz1, zb1_e0, zb1_n0]
  refine zBlkR (M := mX2_lose) (nL := 2) (rt := (Option.none : Option Jvm.ClassFile.FieldType)) (blk := bX2_lose_5) (T := [(66, bX2_lose_66)]) 1 hX2_lose_5 (zChks_cons hX2_lose_66 zChks_nil) rfl rfl rfl (Nat.le_of_ble_eq_true rfl) (Nat.le_of_ble_eq_true rfl) ?_
  simp only [bX2_lose_5, bX2_lose_66, zRun_cons, zRun_nil, zLk, zSto, zIns, zFil, zf0, zf1, zf2, zf3, List.filter_cons, List.filter_nil, Nat.reduceAdd, Nat.reduceEqDiff, Nat.reduceLT, Nat.reduceLeDiff, Nat.reduceBEq, Nat.reduceBNe, reduceIte, if_true, if_false, Bool.false_and, Bool.true_and, Bool.and_true, Bool.and_false, Bool.not_false, Bool.not_true, Bool.false_eq_true, beq_self_eq_true, BEq.rfl, zCat1, zCat2, zCat3, zKdI, zKdL, zKdR, true_and, and_true, zSI, zSL, zSR, zu_at, and_self, and_false, false_and, lv_args, zKdZ, zKdO, zB01, zB11, Option.toList_none, Option.toList_some, List.nil_append, List.cons_append, true_or, or_true, zRow_rd, zu_rd, zo_aload_n, zo_getfield, zo_iload_n, zo_iaload, zo_iconst, zo_icmp_ne, zo_return_, zi_1, zKd_2_0, zKd_2_1, sh_10, rf_10_0, sh_11, sh_19, rf_19_0, sh_20, sh_28, rf_28_0, sh_29, zcl_1, rf_10_1, sh_12, rf_19_1, sh_21, rf_28_1, sh_30, zvi_1_40, zKn_s, zKn_0, zFind, (fsh_0 hB), (fsh_1 hB), (fsh_2 hB), (fsh_3 hB), (fsh_4 hB), (fsh_5 hB), (fsh_6 hB), (fsh_7 hB), (fsh_8 hB), (frf_0 hB), (frf_1 hB), (frf_2 hB), (frf_3 hB), (frf_4 hB), (frf_5 hB), (frf_6 hB), (frf_7 hB), Nat.add_left_cancel_iff, Nat.left_eq_add, Nat.add_eq_left, hv, hF1, e2, nI_clamp (n := c) (by omega), hF.v2 hc4, zN10, zN01, not_true_eq_false, not_false_eq_true, false_implies, true_implies, implies_true, eq_self, nI_1, nI_40, nI_7, vz0, vz1, zb1_e0, zb1_n0]
  refine z_cS0 (M' := mX2_isPlace) (R' := rX2_isPlace) [.int (nI q0)] [] eX2_isPlace k2_92 (by decide +kernel : decode cX2_lose 21 = .ok (.invokestatic 92, 3)) (Nat.le_of_ble_eq_true rfl) ⟨Nat.le_of_ble_eq_true rfl, Nat.le_of_ble_eq_true rfl, Nat.le_of_ble_eq_true rfl, Nat.le_of_ble_eq_true rfl, Nat.le_of_ble_eq_true rfl⟩ rfl rfl rfl ?_
  refine cl_isPlace h05 ?_
  refine zBlkR (M := mX2_lose) (nL := 2) (rt := (Option.none : Option Jvm.ClassFile.FieldType)) (blk := bX2_lose_24) (T := [(66, bX2_lose_66)]) 1 hX2_lose_24 (zChks_cons hX2_lose_66 zChks_nil) rfl rfl rfl (Nat.le_of_ble_eq_true rfl) (Nat.le_of_ble_eq_true rfl) ?_
  simp only [bX2_lose_24, bX2_lose_66, zRun_cons, zRun_nil, zLk, zSto, zIns, zFil, zf0, zf1, zf2, zf3, List.filter_cons, List.filter_nil, Nat.reduceAdd, Nat.reduceEqDiff, Nat.reduceLT, Nat.reduceLeDiff, Nat.reduceBEq, Nat.reduceBNe, reduceIte, if_true, if_false, Bool.false_and, Bool.true_and, Bool.and_true, Bool.and_false, Bool.not_false, Bool.not_true, Bool.false_eq_true, beq_self_eq_true, BEq.rfl, zCat1, zCat2, zCat3, zKdI, zKdL, zKdR, true_and, and_true, zSI, zSL, zSR, zu_at, and_self, and_false, false_and, lv_args, zKdZ, zKdO, zB01, zB11, Option.toList_none, Option.toList_some, List.nil_append, List.cons_append, true_or, or_true, zRow_rd, zu_rd, zo_if_eq, zo_aload_n, zo_getfield, zo_iload_n, zo_iaload, zo_dup2, zo_dup2_2, zo_iconst, zo_isub, zo_iastore, zo_iadd, zo_return_, zi_1, zi_3, zi_m1, zi_5, zKd_2_5, zKd_2_1, zKd_2_0, zKd_2_7, sh_10, rf_10_5, sh_16, sh_19, rf_19_5, sh_25, sh_28, rf_28_5, sh_34, rf_10_1, sh_12, rf_19_1, sh_21, rf_28_1, sh_30, zcl_1, rf_10_0, sh_11, rf_19_0, sh_20, rf_28_0, sh_29, zcl_3, rf_10_7, sh_18, rf_19_7, sh_27, rf_28_7, sh_36, zcl_5, zvi_1_5, zvi_1_7, zvi_1_40, zvi_3_5, zvi_3_7, zvi_3_40, zvi_5_7, zvi_5_40, zKn_s, zKn_0, zFind, (fsh_0 hB), (fsh_1 hB), (fsh_2 hB), (fsh_3 hB), (fsh_4 hB), (fsh_5 hB), (fsh_6 hB), (fsh_7 hB), (fsh_8 hB), (frf_0 hB), (frf_1 hB), (frf_2 hB), (frf_3 hB), (frf_4 hB), (frf_5 hB), (frf_6 hB), (frf_7 hB), Nat.add_left_cancel_iff, Nat.left_eq_add, Nat.add_eq_left, hv, hv0, e2, nI_clamp (n := c) (by omega), nI_clamp (n := q0) (by omega), hF.v2 hc4, zN10, zN01, not_true_eq_false, not_false_eq_true, false_implies, true_implies, implies_true, eq_self, nI_1, nI_40, nI_7, vz0, vz1, zb1_e0, zb1_n0]
  have hV' : oLose c V = zu (zu (zu V 1 c 3) 2 c (-1)) 8 5 (V 8 5 + 1) := by
    funext i d
    simp only [zu_at, oLose_at, oOff_at, h1]
    grind
  have g1 : ∀ d, d ≠ c → oLose c V 1 d = V 1 d := fun d hd => by rw [hV']; simp [zu_at, hd]
  have g2 : ∀ d, d ≠ c → oLose c V 2 d = V 2 d := fun d hd => by rw [hV']; simp [zu_at, hd]
  have g3 : oLose c V 1 c = 3 := by rw [hV']; simp [zu_at]
  refine hQ _ ?_ ⟨?_, ?_, fun q hq => ?_, fun q hq => ?_, ?_⟩
  · refine (((zKpt_rfl.u ?_).u ?_).u ?_).u ?_ <;> unfold zFB <;> omega
  · rw [vC_u8 (by omega), vCu2 hc4, vCu1 hc4, vCu6, hF.1, hV', hF.v8 (c := 5) (by omega)]
  · simp [zu_at]; exact hF.2.1
  · simp [zu_at]; exact cnt_dn hF.2.2.1 h05 (mv_out hc h05 h1 e2 g1 g2 (by rw [g3]; decide)) q hq
  · simp [zu_at]; exact cnt_no hF.2.2.2.1 (mv_same hc (by rw [h1]; decide) (by rw [g3]; decide) g1 g2) q hq
  · simp [zu_at]; rw [st_same hc (by rw [h1]; decide) (by rw [g3]; decide) g1]; exact hF.2.2.2.2
set_option maxRecDepth 20000 in
theorem cl_bringAll (hB : zBc B) (hch : ch ≤ 40) (hnp : np ≤ 5) (hF : zFC B I ch V) (hok : oOk ch np wm V) (hQ : ∀ I', zKpt (zFB B) I I' → zFC B I' ch (zIter oStack ch V) → Q none (SH, I', L, RF p s r)) : zXM w mX2_bringAll rX2_bringAll [.ref B] (SH, I, L, RF p s r) Q := by
  unfold zXM
  refine zBlkR (M := mX2_bringAll) (nL := 2) (rt := (Option.none : Option Jvm.ClassFile.FieldType)) (blk := bX2_bringAll_0) (T := []) 0 hX2_bringAll_0 zChks_nil rfl rfl rfl (Nat.le_of_ble_eq_true rfl) (Nat.le_of_ble_eq_true rfl) ?_
  simp only [bX2_bringAll_0, zRun_cons, zRun_nil, zLk, zSto, zIns, zFil, zf0, zf1, zf2, zf3, List.filter_cons, List.filter_nil, Nat.reduceAdd, Nat.reduceEqDiff, Nat.reduceLT, Nat.reduceLeDiff, Nat.reduceBEq, Nat.reduceBNe, reduceIte, if_true, if_false, Bool.false_and, Bool.true_and, Bool.and_true, Bool.and_false, Bool.not_false, Bool.not_true, Bool.false_eq_true, beq_self_eq_true, BEq.rfl, zCat1, zCat2, zCat3, zKdI, zKdL, zKdR, true_and, and_true, zSI, zSL, zSR, zu_at, and_self, and_false, false_and, lv_args, zKdZ, zKdO, zB01, zB11, Option.toList_none, Option.toList_some, List.nil_append, List.cons_append, true_or, or_true, zRow_rd, zu_rd, zo_iconst, zo_istore_n, zi_0, zcl_0, zKn_0, zN10, zN01, not_true_eq_false, not_false_eq_true, false_implies, true_implies, implies_true, eq_self, nI_1, nI_40, nI_7, vz0, vz1, zb1_e0, zb1_n0]
  refine zLoop (n := ch) (P := fun c => ∀ J, zKpt (zFB B) I J → zFC B J ch (zIter oStack c V) → zX w mX2_bringAll rX2_bringAll Q 0 0 2 [(0, Value.ref B), (1, Value.int (nI c))] [] (SH, J, L, RF p s r)) (fun c hc ih => ?_) 0 (Nat.zero_le _) I zKpt_rfl hF
  intro J hJ hFJ
  refine zBlkR (M := mX2_bringAll) (nL := 2) (rt := (Option.none : Option Jvm.ClassFile.FieldType)) (blk := bX2_bringAll_2) (T := [(21, bX2_bringAll_21)]) 1 hX2_bringAll_2 (zChks_cons hX2_bringAll_21 zChks_nil) rfl rfl rfl (Nat.le_of_ble_eq_true rfl) (Nat.le_of_ble_eq_true rfl) ?_
  simp only [bX2_bringAll_2, bX2_bringAll_21, zRun_cons, zRun_nil, zLk, zSto, zIns, zFil, zf0, zf1, zf2, zf3, List.filter_cons, List.filter_nil, Nat.reduceAdd, Nat.reduceEqDiff, Nat.reduceLT, Nat.reduceLeDiff, Nat.reduceBEq, Nat.reduceBNe, reduceIte, if_true, if_false, Bool.false_and, Bool.true_and, Bool.and_true, Bool.and_false, Bool.not_false, Bool.not_true, Bool.false_eq_true, beq_self_eq_true, BEq.rfl, zCat1, zCat2, zCat3, zKdI, zKdL, zKdR, true_and, and_true, zSI, zSL, zSR, zu_at, and_self, and_false, false_and, lv_args, zKdZ, zKdO, zB01, zB11, Option.toList_none, Option.toList_some, List.nil_append, List.cons_append, true_or, or_true, zRow_rd, zu_rd, zo_iload_n, zo_aload_n, zo_getfield, zo_icmp_ge, zo_return_, zKd_2_8, sh_10, sh_19, sh_28, zKn_s, zKn_0, zFind, (fsh_0 hB), (fsh_1 hB), (fsh_2 hB), (fsh_3 hB), (fsh_4 hB), (fsh_5 hB), (fsh_6 hB), (fsh_7 hB), (fsh_8 hB), (frf_0 hB), (frf_1 hB), (frf_2 hB), (frf_3 hB), (frf_4 hB), (frf_5 hB), (frf_6 hB), (frf_7 hB), Nat.add_left_cancel_iff, Nat.left_eq_add, Nat.add_eq_left, hFJ.2.1, zle_nat (a := ch) (b := c) (by omega) (by omega), zN10, zN01, not_true_eq_false, not_false_eq_true, false_implies, true_implies, implies_true, eq_self, nI_1, nI_40, nI_7, vz0, vz1, zb1_e0, zb1_n0]
  refine ⟨fun h => ?_, fun h => ?_⟩
  · have : c = ch := by omega
    subst this
    exact hQ J hJ hFJ
  · refine z_cV0 (M' := mX2_setStacked) (R' := rX2_setStacked) (i := B) [.int (nI c)] [] eX2_setStacked k2_88 (by decide +kernel : decode cX2_bringAll 12 = .ok (.invokevirtual 88, 3)) (Nat.le_of_ble_eq_true rfl) ⟨Nat.le_of_ble_eq_true rfl, Nat.le_of_ble_eq_true rfl, Nat.le_of_ble_eq_true rfl, Nat.le_of_ble_eq_true rfl, Nat.le_of_ble_eq_true rfl⟩ rfl rfl rfl (fsh_0 hB) ?_
    refine cl_setStacked hB (by omega) hch hnp hFJ (zIter_ok (fun _ _ h => oOk_stack h) c V hok) (fun I1 k1 f1 => ?_)
    refine zBlkR (M := mX2_bringAll) (nL := 2) (rt := (Option.none : Option Jvm.ClassFile.FieldType)) (blk := bX2_bringAll_15) (T := []) 0 hX2_bringAll_15 zChks_nil rfl rfl rfl (Nat.le_of_ble_eq_true rfl) (Nat.le_of_ble_eq_true rfl) ?_
    simp only [bX2_bringAll_15, zRun_cons, zRun_nil, zLk, zSto, zIns, zFil, zf0, zf1, zf2, zf3, List.filter_cons, List.filter_nil, Nat.reduceAdd, Nat.reduceEqDiff, Nat.reduceLT, Nat.reduceLeDiff, Nat.reduceBEq, Nat.reduceBNe, reduceIte, if_true, if_false, Bool.false_and, Bool.true_and, Bool.and_true, Bool.and_false, Bool.not_false, Bool.not_true, Bool.false_eq_true, beq_self_eq_true, BEq.rfl, zCat1, zCat2, zCat3, zKdI, zKdL, zKdR, true_and, and_true, zSI, zSL, zSR, zu_at, and_self, and_false, false_and, lv_args, zKdZ, zKdO, zB01, zB11, Option.toList_none, Option.toList_some, List.nil_append, List.cons_append, true_or, or_true, zRow_rd, zu_rd, zo_iinc, zo_goto, zi_1, zKn_0, zN10, zN01, not_true_eq_false, not_false_eq_true, false_implies, true_implies, implies_true, eq_self, nI_1, nI_40, nI_7, vz0, vz1, zb1_e0, zb1_n0]
    exact ih (by omega) I1 (hJ.trans k1) f1
theorem oLoseAt {c : Nat} : (if V 2 c = nI q0 then oLs c V else V) = oTide (fun y => y == nI q0) c V := by
  unfold oLs oTide
  by_cases h1 : V 2 c = nI q0 <;> by_cases h2 : V 1 c = 1 ∨ V 1 c = 2 <;> simp [h1, h2]
set_option maxRecDepth 20000 in
theorem cl_loseAll (hB : zBc B) (hch : ch ≤ 40) (hnp : np ≤ 5) (hF : zFC B I ch V) (hok : oOk ch np wm V) (hQ : ∀ I', zKpt (zFB B) I I' → zFC B I' ch (zIter (oTide (fun y => y == nI q0)) ch V) → Q none (SH, I', L, RF p s r)) : zXM w mX2_loseAll rX2_loseAll [.ref B, .int (nI q0)] (SH, I, L, RF p s r) Q := by
  unfold zXM
  refine zBlkR (M := mX2_loseAll) (nL := 3) (rt := (Option.none : Option Jvm.ClassFile.FieldType)) (blk := bX2_loseAll_0) (T := []) 0 hX2_loseAll_0 zChks_nil rfl rfl rfl (Nat.le_of_ble_eq_true rfl) (Nat.le_of_ble_eq_true rfl) ?_
  simp only [bX2_loseAll_0, zRun_cons, zRun_nil, zLk, zSto, zIns, zFil, zf0, zf1, zf2, zf3, List.filter_cons, List.filter_nil, Nat.reduceAdd, Nat.reduceEqDiff, Nat.reduceLT, Nat.reduceLeDiff, Nat.reduceBEq, Nat.reduceBNe, reduceIte, if_true, if_false, Bool.false_and, Bool.true_and, Bool.and_true, Bool.and_false, Bool.not_false, Bool.not_true, Bool.false_eq_true, beq_self_eq_true, BEq.rfl, zCat1, zCat2, zCat3, zKdI, zKdL, zKdR, true_and, and_true, zSI, zSL, zSR, zu_at, and_self, and_false, false_and, lv_args, zKdZ, zKdO, zB01, zB11, Option.toList_none, Option.toList_some, List.nil_append, List.cons_append, true_or, or_true, zRow_rd, zu_rd, zo_iconst, zo_istore_n, zi_0, zcl_0, zKn_0, zN10, zN01, not_true_eq_false, not_false_eq_true, false_implies, true_implies, implies_true, eq_self, nI_1, nI_40, nI_7, vz0, vz1, zb1_e0, zb1_n0]
  refine zLoop (n := ch) (P := fun c => ∀ J, zKpt (zFB B) I J → zFC B J ch (zIter (oTide (fun y => y == nI q0)) c V) → zX w mX2_loseAll rX2_loseAll Q 0 0 2 [(0, Value.ref B), (1, Value.int (nI q0)), (2, Value.int (nI c))] [] (SH, J, L, RF p s r)) (fun c hc ih => ?_) 0 (Nat.zero_le _) I zKpt_rfl hF
  intro J hJ hFJ
  have hok2 : oOk ch np wm (zIter (oTide (fun y => y == nI q0)) c V) := zIter_lt (N := ch) (fun c a h1 h => oOk_tide (by omega) h) c V hc hok
  generalize hW : zIter (oTide (fun y => y == nI q0)) c V = W at *
  have ihW : zIter (oTide (fun y => y == nI q0)) (c + 1) V = oTide (fun y => y == nI q0) c W := by rw [zIter, hW]
  rw [ihW, ← oLoseAt] at ih
  by_cases hcc : c = ch
  · subst hcc
    refine zBlkR (M := mX2_loseAll) (nL := 3) (rt := (Option.none : Option Jvm.ClassFile.FieldType)) (blk := bX2_loseAll_2) (T := [(25, bX2_loseAll_25), (31, bX2_loseAll_31)]) 1 hX2_loseAll_2 (zChks_cons hX2_loseAll_25 (zChks_cons hX2_loseAll_31 zChks_nil)) rfl rfl rfl (Nat.le_of_ble_eq_true rfl) (Nat.le_of_ble_eq_true rfl) ?_
    simp only [bX2_loseAll_2, bX2_loseAll_25, bX2_loseAll_31, zRun_cons, zRun_nil, zLk, zSto, zIns, zFil, zf0, zf1, zf2, zf3, List.filter_cons, List.filter_nil, Nat.reduceAdd, Nat.reduceEqDiff, Nat.reduceLT, Nat.reduceLeDiff, Nat.reduceBEq, Nat.reduceBNe, reduceIte, if_true, if_false, Bool.false_and, Bool.true_and, Bool.and_true, Bool.and_false, Bool.not_false, Bool.not_true, Bool.false_eq_true, beq_self_eq_true, BEq.rfl, zCat1, zCat2, zCat3, zKdI, zKdL, zKdR, true_and, and_true, zSI, zSL, zSR, zu_at, and_self, and_false, false_and, lv_args, zKdZ, zKdO, zB01, zB11, Option.toList_none, Option.toList_some, List.nil_append, List.cons_append, true_or, or_true, zRow_rd, zu_rd, zo_iload_n, zo_aload_n, zo_getfield, zo_icmp_ge, zo_iaload, zo_icmp_ne, zo_iinc, zo_goto, zo_return_, zi_1, zKd_2_8, zKd_2_1, sh_10, sh_19, sh_28, rf_10_1, sh_12, rf_19_1, sh_21, rf_28_1, sh_30, zKn_s, zKn_0, zFind, (fsh_0 hB), (fsh_1 hB), (fsh_2 hB), (fsh_3 hB), (fsh_4 hB), (fsh_5 hB), (fsh_6 hB), (fsh_7 hB), (fsh_8 hB), (frf_0 hB), (frf_1 hB), (frf_2 hB), (frf_3 hB), (frf_4 hB), (frf_5 hB), (frf_6 hB), (frf_7 hB), Nat.add_left_cancel_iff, Nat.left_eq_add, Nat.add_eq_left, hFJ.2.1, zle_nat (a := c) (b := c) (by omega) (by omega), Nat.le_refl, zN10, zN01, not_true_eq_false, not_false_eq_true, false_implies, true_implies, implies_true, eq_self, nI_1, nI_40, nI_7, vz0, vz1, zb1_e0, zb1_n0]
    exact ⟨fun _ => hQ J hJ (by rw [hW]; exact hFJ), fun h => absurd trivial h⟩
  have hc4 : c < 40 := by omega
  have hv : vp_in (nI c) 40 := zvn (by omega) (by omega)
  refine zBlkR (M := mX2_loseAll) (nL := 3) (rt := (Option.none : Option Jvm.ClassFile.FieldType)) (blk := bX2_loseAll_2) (T := [(25, bX2_loseAll_25), (31, bX2_loseAll_31)]) 1 hX2_loseAll_2 (zChks_cons hX2_loseAll_25 (zChks_cons hX2_loseAll_31 zChks_nil)) rfl rfl rfl (Nat.le_of_ble_eq_true rfl) (Nat.le_of_ble_eq_true rfl) ?_
  simp only [bX2_loseAll_2, bX2_loseAll_25, bX2_loseAll_31, zRun_cons, zRun_nil, zLk, zSto, zIns, zFil, zf0, zf1, zf2, zf3, List.filter_cons, List.filter_nil, Nat.reduceAdd, Nat.reduceEqDiff, Nat.reduceLT, Nat.reduceLeDiff, Nat.reduceBEq, Nat.reduceBNe, reduceIte, if_true, if_false, Bool.false_and, Bool.true_and, Bool.and_true, Bool.and_false, Bool.not_false, Bool.not_true, Bool.false_eq_true, beq_self_eq_true, BEq.rfl, zCat1, zCat2, zCat3, zKdI, zKdL, zKdR, true_and, and_true, zSI, zSL, zSR, zu_at, and_self, and_false, false_and, lv_args, zKdZ, zKdO, zB01, zB11, Option.toList_none, Option.toList_some, List.nil_append, List.cons_append, true_or, or_true, zRow_rd, zu_rd, zo_iload_n, zo_aload_n, zo_getfield, zo_icmp_ge, zo_iaload, zo_icmp_ne, zo_iinc, zo_goto, zo_return_, zi_1, zKd_2_8, zKd_2_1, sh_10, sh_19, sh_28, rf_10_1, sh_12, rf_19_1, sh_21, rf_28_1, sh_30, zKn_s, zKn_0, zFind, (fsh_0 hB), (fsh_1 hB), (fsh_2 hB), (fsh_3 hB), (fsh_4 hB), (fsh_5 hB), (fsh_6 hB), (fsh_7 hB), (fsh_8 hB), (frf_0 hB), (frf_1 hB), (frf_2 hB), (frf_3 hB), (frf_4 hB), (frf_5 hB), (frf_6 hB), (frf_7 hB), Nat.add_left_cancel_iff, Nat.left_eq_add, Nat.add_eq_left, hv, hFJ.2.1, zle_nat (a := ch) (b := c) (by omega) (by omega), nI_clamp (n := c) (by omega), hFJ.v2 hc4, zN10, zN01, not_true_eq_false, not_false_eq_true, false_implies, true_implies, implies_true, eq_self, nI_1, nI_40, nI_7, vz0, vz1, zb1_e0, zb1_n0]
  refine ⟨fun h => absurd h (by omega), fun h => ⟨fun h1 => ?_, fun h1 => ?_⟩⟩
  · rw [if_neg h1] at ih
    exact ih (by omega) J hJ hFJ
  · refine z_cV0 (M' := mX2_lose) (R' := rX2_lose) (i := B) [.int (nI c)] [] eX2_lose k2_99 (by decide +kernel : decode cX2_loseAll 22 = .ok (.invokevirtual 99, 3)) (Nat.le_of_ble_eq_true rfl) ⟨Nat.le_of_ble_eq_true rfl, Nat.le_of_ble_eq_true rfl, Nat.le_of_ble_eq_true rfl, Nat.le_of_ble_eq_true rfl, Nat.le_of_ble_eq_true rfl⟩ rfl rfl rfl (fsh_0 hB) ?_
    refine cl_lose hB (by omega) hch hnp hFJ hok2 (fun I1 k1 f1 => ?_)
    rw [if_pos h1] at ih
    refine zBlkR (M := mX2_loseAll) (nL := 3) (rt := (Option.none : Option Jvm.ClassFile.FieldType)) (blk := bX2_loseAll_25) (T := []) 0 hX2_loseAll_25 zChks_nil rfl rfl rfl (Nat.le_of_ble_eq_true rfl) (Nat.le_of_ble_eq_true rfl) ?_
    simp only [bX2_loseAll_25, zRun_cons, zRun_nil, zLk, zSto, zIns, zFil, zf0, zf1, zf2, zf3, List.filter_cons, List.filter_nil, Nat.reduceAdd, Nat.reduceEqDiff, Nat.reduceLT, Nat.reduceLeDiff, Nat.reduceBEq, Nat.reduceBNe, reduceIte, if_true, if_false, Bool.false_and, Bool.true_and, Bool.and_true, Bool.and_false, Bool.not_false, Bool.not_true, Bool.false_eq_true, beq_self_eq_true, BEq.rfl, zCat1, zCat2, zCat3, zKdI, zKdL, zKdR, true_and, and_true, zSI, zSL, zSR, zu_at, and_self, and_false, false_and, lv_args, zKdZ, zKdO, zB01, zB11, Option.toList_none, Option.toList_some, List.nil_append, List.cons_append, true_or, or_true, zRow_rd, zu_rd, zo_iinc, zo_goto, zi_1, zKn_0, zN10, zN01, not_true_eq_false, not_false_eq_true, false_implies, true_implies, implies_true, eq_self, nI_1, nI_40, nI_7, vz0, vz1, zb1_e0, zb1_n0]
    exact ih (by omega) I1 (hJ.trans k1) f1
end ZF65
/-! what a tide takes, at one go -/
def oHit1 (hit : Int32 → Bool) (V : Nat → Nat → Int32) (c : Nat) : Bool := (V 1 c == 1 || V 1 c == 2) && hit (V 2 c)
def oHit2 (hit : Int32 → Bool) (V : Nat → Nat → Int32) (c : Nat) : Bool := V 1 c == 2 && V 5 c == 0 && hit (V 2 c)
def oGone (hit : Int32 → Bool) (n : Nat) (V : Nat → Nat → Int32) : Nat → Nat → Int32 := fun i d => if i = 8 then (if d = 3 then V 8 3 + nI (zCnt (oHit2 hit V) n) else if d = 5 then V 8 5 + nI (zCnt (oHit1 hit V) n) else V 8 d) else if d < n ∧ oHit1 hit V d = true then (if i = 1 then 3 else if i = 2 then -1 else if i = 4 then -1 else if i = 5 then 0 else V i d) else V i d
section ZG62
variable {V : Nat → Nat → Int32} {h1 h2 hit : Int32 → Bool} {n c : Nat}
theorem nI_s1 (x : Int32) (a : Nat) : x + nI (a + 1) = x + nI a + 1 := by rw [← nI_1, Int32.add_assoc]
theorem oGone_ok : ∀ n, zIter (oTide hit) n V = oGone hit n V
  | 0 => by
    funext i d
    simp [zIter, oGone, zCnt, nI_0]
    intro h1 h2
    rcases h2 with h2 | h2 <;> simp [h1, h2]
  | n + 1 => by
    rw [zIter, oGone_ok n]
    have e1 : oGone hit n V 1 n = V 1 n := by simp [oGone]
    have e2 : oGone hit n V 2 n = V 2 n := by simp [oGone]
    have e5 : oGone hit n V 5 n = V 5 n := by simp [oGone]
    by_cases hh : oHit1 hit V n = true
    · have hc : (oGone hit n V 1 n = 1 ∨ oGone hit n V 1 n = 2) ∧ hit (oGone hit n V 2 n) = true := by
        rw [e1, e2]; simpa [oHit1] using hh
      rw [oTide, if_pos hc]
      funext i d
      rw [oLose_at, oOff_at, e1, e5]
      by_cases h8 : i = 8
      · subst h8
        by_cases d5 : d = 5
        · subst d5
          simp [oGone, zCnt, hh, nI_s1]
        by_cases d3 : d = 3
        · subst d3
          by_cases h25 : V 1 n = 2 ∧ V 5 n = 0
          · have : oHit2 hit V n = true := by
              simp only [oHit1, Bool.and_eq_true] at hh
              simp [oHit2, h25, hh.2]
            simp [oGone, zCnt, this, h25, nI_s1]
          · have : oHit2 hit V n = false := by
              simp only [oHit2, Bool.and_eq_false_iff]
              left
              by_cases g1 : V 1 n = 2
              · right; simp; exact fun g => h25 ⟨g1, g⟩
              · left; simpa using g1
            simp [oGone, zCnt, this]
            exact fun g1 g2 => absurd ⟨g1, g2⟩ h25
        · simp [oGone, d5, d3]
      · by_cases hd : d = n
        · subst hd
          by_cases i1 : i = 1
          · subst i1; simp [oGone, hh]
          by_cases i2 : i = 2
          · subst i2; simp [oGone, hh]
          by_cases i4 : i = 4
          · subst i4; simp [oGone, hh]
          by_cases i5 : i = 5
          · subst i5; simp [oGone, hh]
          · simp [oGone, h8, hh, i1, i2, i4, i5]
        · have hlt : (d < n + 1) = (d < n) := by apply propext; omega
          simp [oGone, h8, hd, hlt]
    · have hh0 : oHit1 hit V n = false := by simpa using hh
      have hc : ¬ ((oGone hit n V 1 n = 1 ∨ oGone hit n V 1 n = 2) ∧ hit (oGone hit n V 2 n) = true) := by
        rw [e1, e2]; simpa [oHit1] using hh
      rw [oTide, if_neg hc]
      have hh2 : oHit2 hit V n = false := by
        cases q : oHit2 hit V n with
        | false => rfl
        | true =>
          simp only [oHit2, Bool.and_eq_true] at q
          simp [oHit1, q.1.1, q.2] at hh0
      funext i d
      by_cases h8 : i = 8
      · subst h8; simp [oGone, zCnt, hh0, hh2]
      · by_cases hd : d = n
        · subst hd; simp [oGone, h8, hh0]
        · have hlt : (d < n + 1) = (d < n) := by apply propext; omega
          simp [oGone, h8, hlt]
theorem zCnt_add {P1 P2 P3 : Nat → Bool} : ∀ {n : Nat}, (∀ c, c < n → (if P3 c = true then 1 else 0) = (if P1 c = true then 1 else 0) + (if P2 c = true then 1 else 0)) → zCnt P3 n = zCnt P1 n + zCnt P2 n
  | 0, _ => rfl
  | n + 1, h => by
    rw [zCnt, zCnt, zCnt, zCnt_add (fun c hc => h c (by omega)), h n (by omega)]
    omega
theorem oGone_two : oGone h2 n (oGone h1 n V) = oGone (fun x => h1 x || h2 x) n V := by
  have k1 : ∀ c, c < n → oHit1 h1 V c = true → oHit1 h2 (oGone h1 n V) c = false ∧ oHit2 h2 (oGone h1 n V) c = false := by
    intro c hc h
    have e1 : oGone h1 n V 1 c = 3 := by simp [oGone, hc, h]
    constructor <;> simp [oHit1, oHit2, e1]
  have k2 : ∀ c, oHit1 h1 V c = false → oHit1 h2 (oGone h1 n V) c = oHit1 h2 V c ∧ oHit2 h2 (oGone h1 n V) c = oHit2 h2 V c := by
    intro c h
    constructor <;> simp [oHit1, oHit2, oGone, h]
  have k3 : ∀ c, oHit1 (fun x => h1 x || h2 x) V c = (oHit1 h1 V c || oHit1 h2 V c) := by
    intro c; simp only [oHit1]; cases (V 1 c == 1 || V 1 c == 2) <;> simp
  have k4 : ∀ c, oHit2 (fun x => h1 x || h2 x) V c = (oHit2 h1 V c || oHit2 h2 V c) := by
    intro c; simp only [oHit2]; cases (V 1 c == 2 && V 5 c == 0) <;> simp
  have k5 : ∀ c, oHit2 h1 V c = true → oHit1 h1 V c = true := by
    intro c h
    simp only [oHit2, Bool.and_eq_true] at h
    simp [oHit1, h.1.1, h.2]
  have c1 : zCnt (oHit1 (fun x => h1 x || h2 x) V) n = zCnt (oHit1 h1 V) n + zCnt (oHit1 h2 (oGone h1 n V)) n := by
    refine zCnt_add (fun c hc => ?_)
    rw [k3]
    cases hb : oHit1 h1 V c with
    | true => rw [(k1 c hc hb).1]; simp
    | false => rw [(k2 c hb).1]; simp
  have c2 : zCnt (oHit2 (fun x => h1 x || h2 x) V) n = zCnt (oHit2 h1 V) n + zCnt (oHit2 h2 (oGone h1 n V)) n := by
    refine zCnt_add (fun c hc => ?_)
    rw [k4]
    cases hb : oHit1 h1 V c with
    | true =>
      rw [(k1 c hc hb).2]
      cases hb2 : oHit2 h1 V c with
      | true => simp
      | false =>
        have : oHit2 h2 V c = false := by
          cases q : oHit2 h2 V c with
          | false => rfl
          | true =>
            simp only [oHit2, Bool.and_eq_true] at q
            simp only [oHit1, Bool.and_eq_true] at hb
            simp [oHit2, q.1.1, q.1.2, hb.2] at hb2
        rw [this]; simp
    | false =>
      rw [(k2 c hb).2]
      have : oHit2 h1 V c = false := by
        cases q : oHit2 h1 V c with
        | false => rfl
        | true => rw [k5 c q] at hb; cases hb
      rw [this]; simp
  funext i d
  by_cases h8 : i = 8
  · subst h8
    by_cases d3 : d = 3
    · subst d3
      have : oGone h1 n V 8 3 = V 8 3 + nI (zCnt (oHit2 h1 V) n) := rfl
      show oGone h1 n V 8 3 + nI (zCnt (oHit2 h2 (oGone h1 n V)) n) = V 8 3 + nI (zCnt (oHit2 (fun x => h1 x || h2 x) V) n)
      rw [this, c2, ← nI_add, Int32.add_assoc]
    by_cases d5 : d = 5
    · subst d5
      have : oGone h1 n V 8 5 = V 8 5 + nI (zCnt (oHit1 h1 V) n) := rfl
      show oGone h1 n V 8 5 + nI (zCnt (oHit1 h2 (oGone h1 n V)) n) = V 8 5 + nI (zCnt (oHit1 (fun x => h1 x || h2 x) V) n)
      rw [this, c1, ← nI_add, Int32.add_assoc]
    · simp [oGone, d3, d5]
  · by_cases hd : d < n
    · cases hb : oHit1 h1 V d with
      | true =>
        have := (k1 d hd hb).1
        simp only [oGone, h8, if_false, hd, true_and, k3, hb, Bool.true_or, if_true]
        rw [show oHit1 h2 (fun i d => if i = 8 then (if d = 3 then V 8 3 + nI (zCnt (oHit2 h1 V) n) else if d = 5 then V 8 5 + nI (zCnt (oHit1 h1 V) n) else V 8 d) else if d < n ∧ oHit1 h1 V d = true then (if i = 1 then 3 else if i = 2 then -1 else if i = 4 then -1 else if i = 5 then 0 else V i d) else V i d) d = false from this]
        simp [h8]
      | false =>
        have := (k2 d hb).1
        unfold oGone at this ⊢
        simp only [h8, if_false, hd, true_and, k3, hb, Bool.false_or, this, Bool.false_eq_true]
    · simp [oGone, h8, hd]
theorem oGone_congr (h : ∀ c, c < n → (V 1 c = 1 ∨ V 1 c = 2) → h1 (V 2 c) = h2 (V 2 c)) : oGone h1 n V = oGone h2 n V := by
  have k1 : ∀ c, c < n → oHit1 h1 V c = oHit1 h2 V c := by
    intro c hc
    by_cases g : V 1 c = 1 ∨ V 1 c = 2
    · simp only [oHit1, h c hc g]
    · have : (V 1 c == 1 || V 1 c == 2) = false := by simpa using g
      simp only [oHit1, this, Bool.false_and]
  have k2 : ∀ c, c < n → oHit2 h1 V c = oHit2 h2 V c := by
    intro c hc
    by_cases g : V 1 c = 2
    · simp only [oHit2, h c hc (Or.inr g)]
    · have : (V 1 c == 2) = false := by simpa using g
      simp only [oHit2, this, Bool.false_and]
  have c1 : zCnt (oHit1 h1 V) n = zCnt (oHit1 h2 V) n := zCnt_congr k1
  have c2 : zCnt (oHit2 h1 V) n = zCnt (oHit2 h2 V) n := zCnt_congr k2
  funext i d
  unfold oGone
  by_cases hd : d < n
  · simp only [c1, c2, k1 d hd]
  · simp only [c1, c2, hd, false_and, if_false]
end ZG62
end
