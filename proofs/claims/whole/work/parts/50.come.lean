-- needs: 49
/-! ===== SITTERS COME, THE BOY ASKS: pure, and the reference's ===== -/
/-- the least below n that is so; n: none -/
def zFst (P : Nat → Bool) : Nat → Nat
  | 0 => 0
  | n + 1 => if zFst P n < n then zFst P n else if P n = true then n else n + 1
theorem zFst_le (P : Nat → Bool) : ∀ n, zFst P n ≤ n
  | 0 => Nat.le_refl _
  | n + 1 => by
    unfold zFst
    have := zFst_le P n
    split
    · omega
    · split <;> omega
theorem zFst_lt {P : Nat → Bool} : ∀ {n : Nat}, zFst P n < n → P (zFst P n) = true
  | 0, h => absurd h (by unfold zFst; omega)
  | n + 1, h => by
    unfold zFst at h ⊢
    split
    · rename_i q; exact zFst_lt q
    · rename_i q
      rw [if_neg q] at h
      split
      · rename_i q2; exact q2
      · rename_i q2
        rw [if_neg q2] at h
        omega
theorem zFst_no {P : Nat → Bool} : ∀ {n c : Nat}, c < zFst P n → P c = false
  | 0, c, h => absurd h (by unfold zFst; omega)
  | n + 1, c, h => by
    have hl := zFst_le P n
    unfold zFst at h
    split at h
    · exact zFst_no h
    · rename_i q
      split at h
      · exact zFst_no (n := n) (by omega)
      · rename_i q2
        by_cases e : c = n
        · subst e; simpa using q2
        · exact zFst_no (n := n) (by omega)
theorem zFst_eq {P : Nat → Bool} {n c : Nat} (hc : c < n) (hP : P c = true) (hno : ∀ d, d < c → P d = false) : zFst P n = c := by
  rcases Nat.lt_trichotomy (zFst P n) c with h | h | h
  · have h1 := zFst_lt (P := P) (n := n) (by omega)
    rw [hno _ h] at h1; cases h1
  · exact h
  · have := zFst_no h
    rw [hP] at this; cases this
theorem zFst_none {P : Nat → Bool} {n : Nat} (hno : ∀ d, d < n → P d = false) : zFst P n = n := by
  have h := zFst_le P n
  rcases Nat.lt_or_ge (zFst P n) n with h1 | h1
  · have h2 := zFst_lt h1
    rw [hno _ h1] at h2; cases h2
  · omega
theorem zCnt_0 {P : Nat → Bool} : ∀ {n : Nat}, (∀ c, c < n → P c = false) → zCnt P n = 0
  | 0, _ => rfl
  | n + 1, h => by rw [zCnt, zCnt_0 (fun c hc => h c (by omega)), h n (by omega)]; rfl
theorem zCnt_0n {P : Nat → Bool} : ∀ {n : Nat}, zCnt P n = 0 → ∀ c, c < n → P c = false
  | 0, _, c, hc => absurd hc (by omega)
  | n + 1, h, c, hc => by
    rw [zCnt] at h
    by_cases e : c = n
    · subst e
      cases hP : P c with
      | false => rfl
      | true => rw [hP] at h; simp at h
    · exact zCnt_0n (n := n) (by omega) c (by omega)
theorem zFst_cnt {P : Nat → Bool} {n : Nat} (h : zCnt P n ≠ 0) : zFst P n < n := by
  rcases Nat.lt_or_ge (zFst P n) n with h1 | h1
  · exact h1
  · refine absurd (zCnt_0 (fun c hc => zFst_no (n := n) ?_)) h
    omega
def oFree (V : Nat → Nat → Int32) (q c : Nat) : Bool := V 1 c == 1 && V 2 c == nI q
def oSeat (till : Int32) (c : Nat) (V : Nat → Nat → Int32) : Nat → Nat → Int32 := zu (zu (zu V 1 c 2) 4 c till) 5 c 0
def oCome (lw : Nat → Nat → Nat → Nat → Option Int64) (t0 : Bool) (vw : Nat → Int32) (sh : Int32) (np ch : Nat) (t : Int32) (V : Nat → Nat → Int32) : Nat → Nat → Int32 := match oBest (oOpen V sh ch) (oWthV lw t0 vw ch V) np with
  | none => zu V 8 4 (V 8 4 + 1)
  | some q => oSeat (t + oBL (lw 1 q.1 (oCnt V (nI q.1) 2 ch) (oCnt V (nI q.1) 1 ch)) 8 1 95) (zFst (oFree V q.1) ch) V
abbrev oS : Type := (Nat → Nat → Int32) × Int64
def oNext (d : Int64) : Int64 := (d * 1103515245 + 12345) &&& 2147483647
def oHit (odds : Int32) (d : Int64) : Bool := decide (d / 65536 - d / 65536 / 100 * 100 < odds.toInt64)
def oAsk1 (odds pr : Int32) (q c : Nat) (S : oS) : oS := if S.1 1 c = 2 ∧ S.1 2 c = nI q ∧ S.1 5 c = 0 then (if oHit odds (oNext S.2) = true then (zu S.1 8 2 (S.1 8 2 + 1), oNext S.2) else (zu (zu (zu S.1 5 c 1) 8 1 (S.1 8 1 + 1)) 8 0 (S.1 8 0 + pr), oNext S.2)) else S
def oOdds (lw : Nat → Nat → Nat → Nat → Option Int64) (nd : Bool) (ch q : Nat) (V : Nat → Nat → Int32) : Int32 := if nd = true then 0 else oBL (lw 2 q (oCnt V (nI q) 2 ch) (oCnt V (nI q) 1 ch)) 0 0 100
def oAskAt (lw : Nat → Nat → Nat → Nat → Option Int64) (nd : Bool) (pr : Int32) (ch q : Nat) (S : oS) : oS := zIter (oAsk1 (oOdds lw nd ch q S.1) pr q) ch S
def oRound (lw : Nat → Nat → Nat → Nat → Option Int64) (nd : Bool) (pr : Int32) (ch rl rf : Nat) (rp : Nat → Nat) (sec : Bool) (t : Nat) (S : oS) : oS := if rl = 0 then S else if sec = true then oAskAt lw nd pr ch (rp (rl - 1 - (t - rf) % rl)) (oAskAt lw nd pr ch (rp ((t - rf) % rl)) S) else oAskAt lw nd pr ch (rp ((t - rf) % rl)) S
section ZC50
variable {V : Nat → Nat → Int32} {S : oS} {c d i ch np q : Nat} {wm t sh odds pr till : Int32} {nd t0 : Bool} {lw : Nat → Nat → Nat → Nat → Option Int64} {vw : Nat → Int32}
theorem oOk_seat (h : oOk ch np wm V) (h1 : V 1 c = 1) : oOk ch np wm (oSeat till c V) := by
  refine oOk_of (c := c) h (fun i d h1 h2 h3 => ?_) (fun hc hk => ?_)
  · simp only [oSeat, zu_at, h3, and_false, if_false]
  · simp only [oSeat, zu_at, Nat.reduceEqDiff, false_and, if_false, if_true, true_and, and_self]
    rcases hk with ⟨q1, h2, h3, h4, h5⟩ | ⟨q1, h2, h3, h4, h5, h6⟩ | ⟨q1, h2, h3, h4, h5⟩ | ⟨q1, h2, h3, h4, h5⟩
    · rw [q1] at h1; exact absurd h1 (by decide)
    · exact Or.inr (Or.inr (Or.inl ⟨rfl, h2, h3, Or.inl rfl, h6⟩))
    · rw [q1] at h1; exact absurd h1 (by decide)
    · rw [q1] at h1; exact absurd h1 (by decide)
theorem oOpen_fst (h : oOpen V sh ch q = true) : zFst (oFree V q) ch < ch := by
  apply zFst_cnt
  unfold oOpen at h
  intro e
  have : oCnt V (nI q) 1 ch = 0 := e
  rw [this] at h
  simp at h
theorem oFree_1 (h : oFree V q c = true) : V 1 c = 1 ∧ V 2 c = nI q := by
  unfold oFree at h
  simpa using h
theorem oOk_come (h : oOk ch np wm V) : oOk ch np wm (oCome lw t0 vw sh np ch t V) := by
  unfold oCome
  split
  · exact oOk_s8 h
  · rename_i q hq
    have := oBest_lt hq
    exact oOk_seat h (oFree_1 (zFst_lt (oOpen_fst this.2.1))).1
theorem oOk_ask1 (h : oOk ch np wm S.1) : oOk ch np wm (oAsk1 odds pr q c S).1 := by
  unfold oAsk1
  split
  · rename_i h1
    split
    · exact oOk_s8 h
    · refine oOk_s8 (oOk_s8 ?_)
      refine oOk_of (c := c) h (fun i d h1 h2 h3 => ?_) (fun hc hk => ?_)
      · simp only [zu_at, h3, and_false, if_false]
      · simp only [zu_at, Nat.reduceEqDiff, false_and, if_false, if_true, and_self]
        obtain ⟨h1, h2, h3⟩ := h1
        rcases hk with ⟨q1, h2, h3, h4, h5⟩ | ⟨q1, h2, h3, h4, h5, h6⟩ | ⟨q1, h2, h3, h4, h5⟩ | ⟨q1, h2, h3, h4, h5⟩
        · rw [q1] at h1; exact absurd h1 (by decide)
        · rw [q1] at h1; exact absurd h1 (by decide)
        · exact Or.inr (Or.inr (Or.inl ⟨q1, h2, h3, Or.inr rfl, h5⟩))
        · rw [q1] at h1; exact absurd h1 (by decide)
  · exact h
theorem oOk_askAt (h : oOk ch np wm S.1) : oOk ch np wm (oAskAt lw nd pr ch q S).1 := zIter_ok (P := fun S : oS => oOk ch np wm S.1) (fun _ _ h => oOk_ask1 h) ch S h
end ZC50
section ZC51
variable {I J V : Nat → Nat → Int32} {b ch ns nb : Nat} {nr nbd : Bool} {told : Nat → Bool} {F T : Nat → Nat} {t : Int32}
theorem zFR_row {i : Nat} (h : zKpt (zFR b) I J) (hi : (i < 114 ∧ i ≠ 87) ∨ 119 < i) : J i = I i := funext fun k => h i k (by unfold zFR; omega)
theorem zFR_87 {k : Nat} (h : zKpt (zFR b) I J) (hk : k ≠ 54) : J 87 k = I 87 k := h 87 k (by unfold zFR; omega)
theorem zErr_FR (h : zKpt zErrS I J) : zKpt (zFR b) I J := h.mono (fun _ _ q => Or.inr (Or.inr q))
theorem zEnvR_R (h : zKpt (zFR b) I J) (hE : zEnvR I ch ns nb nr nbd) : zEnvR J ch ns nb nr nbd := by
  obtain ⟨a, b, c, e1, e2, e3, e4, e5⟩ := hE
  refine ⟨a, b, c, ?_, ?_, ?_, ?_, ?_⟩
  · rw [zFR_row h (by decide), e1]
  · rw [zFR_87 h (by decide), e2]
  · rw [zFR_87 h (by decide), e3]
  · rw [zFR_87 h (by decide), e4]
  · rw [zFR_87 h (by decide), e5]
theorem zLaws_R (h : zKpt (zFR b) I J) (hE : zLaws I told F T) : zLaws J told F T := by
  intro wh hwh
  have := hE wh hwh
  unfold zLawR at this ⊢
  rw [zFR_row h (i := 104) (by decide), zFR_row h (i := 105) (by decide), zFR_row h (i := 106) (by decide), zFR_row h (i := 107) (by decide), zFR_row h (i := 108) (by decide), zFR_row h (i := 109) (by decide)]
  exact this
theorem lwR_R (h : zKpt (zFR b) I J) : lwR J ns nb nr nbd told F T t = lwR I ns nb nr nbd told F T t := by
  unfold lwR
  rw [zFR_row h (i := 107) (by decide), zFR_row h (i := 108) (by decide), zFR_row h (i := 91) (by decide), zFR_row h (i := 92) (by decide), zFR_row h (i := 96) (by decide), zFR_row h (i := 97) (by decide), zFR_row h (i := 98) (by decide), zFR_row h (i := 99) (by decide), zFR_row h (i := 100) (by decide), zFR_87 h (k := 67) (by decide)]
end ZC51
section ZC52
variable {w : zP} {Q : Option Value → zMem → Prop} {I J V : Nat → Nat → Int32} {L : Nat → Nat → Int64} {p s : Nat} {r : Option Nat} {b c ch np ns nb : Nat} {wm : Int32} {nr nbd nd : Bool} {told : Nat → Bool} {F T : Nat → Nat}
set_option maxRecDepth 20000 in
theorem mo_comesOn {t : Int32} (hb : b < 2) (hnp : np ≤ 5) (h12 : I 87 12 = nI np) (hE : zEnvR I ch ns nb nr nbd) (hL : zLaws I told F T) (hV : vR b I = V) (hQ : ∀ I' L', zKpt (zFR b) I I' → zKpt zErrL L L' → vR b I' = oCome (lwR I ns nb nr nbd told F T t) (told 0) (I 91) (I 87 72) np ch t V → Q none (SH, I', L', RF p s r)) : zXM w mX10_comesOn rX10_comesOn [.ref 87, .int (nI b), .int t] (SH, I, L, RF p s r) Q := by
  unfold zXM
  refine zBlkR (M := mX10_comesOn) (nL := 6) (rt := (Option.none : Option Jvm.ClassFile.FieldType)) (blk := bX10_comesOn_0) (T := []) 0 hX10_comesOn_0 zChks_nil rfl rfl rfl (Nat.le_of_ble_eq_true rfl) (Nat.le_of_ble_eq_true rfl) ?_
  simp only [bX10_comesOn_0, zRun_cons, zRun_nil, zLk, zSto, zIns, zFil, zf0, zf1, zf2, zf3, List.filter_cons, List.filter_nil, Nat.reduceAdd, Nat.reduceEqDiff, Nat.reduceLT, Nat.reduceLeDiff, Nat.reduceBEq, Nat.reduceBNe, reduceIte, if_true, if_false, Bool.false_and, Bool.true_and, Bool.and_true, Bool.and_false, Bool.not_false, Bool.not_true, Bool.false_eq_true, beq_self_eq_true, BEq.rfl, zCat1, zCat2, zCat3, zKdI, zKdL, zKdR, true_and, and_true, zSI, zSL, zSR, zu_at, and_self, and_false, false_and, lv_args, zKdZ, zKdO, zB01, zB11, Option.toList_none, Option.toList_some, List.nil_append, List.cons_append, true_or, or_true, zRow_rd, zu_rd, zo_aload_n, zo_iload_n, zKn_0, zN10, zN01, not_true_eq_false, not_false_eq_true, false_implies, true_implies, implies_true, eq_self, nI_1, nI_40, nI_7, vz0, vz1, zb1_e0, zb1_n0]
  refine z_cV0 (M' := mX10_bestPlace) (R' := rX10_bestPlace) (i := 87) [.int (nI b), .int t] [] eX10_bestPlace k10_466 (by decide +kernel : decode cX10_comesOn 3 = .ok (.invokevirtual 466, 3)) (Nat.le_of_ble_eq_true rfl) ⟨Nat.le_of_ble_eq_true rfl, Nat.le_of_ble_eq_true rfl, Nat.le_of_ble_eq_true rfl, Nat.le_of_ble_eq_true rfl, Nat.le_of_ble_eq_true rfl⟩ rfl rfl rfl sh_87 ?_
  refine mo_bestPlace hb hnp h12 hE hL hV (fun I1 L1 h1 h2 => ?_)
  unfold oCome at hQ
  have hlt := fun q => oBest_lt (op := oOpen V (I 87 72) ch) (wth := oWthV (lwR I ns nb nr nbd told F T t) (told 0) (I 91) ch V) (n := np) (q := q)
  generalize oBest (oOpen V (I 87 72) ch) (oWthV (lwR I ns nb nr nbd told F T t) (told 0) (I 91) ch V) np = o at hQ hlt
  have hV1 : vR b I1 = V := by rw [vR_err h1, hV]
  have hv4 : vp_in (nI (7 * b + 4)) 14 := zvn (by omega) (by omega)
  cases o with
  | none =>
    refine zBlkR (M := mX10_comesOn) (nL := 6) (rt := (Option.none : Option Jvm.ClassFile.FieldType)) (blk := bX10_comesOn_6) (T := [(27, bX10_comesOn_27)]) 1 hX10_comesOn_6 (zChks_cons hX10_comesOn_27 zChks_nil) rfl rfl rfl (Nat.le_of_ble_eq_true rfl) (Nat.le_of_ble_eq_true rfl) ?_
    simp only [bX10_comesOn_6, bX10_comesOn_27, zRun_cons, zRun_nil, zLk, zSto, zIns, zFil, zf0, zf1, zf2, zf3, List.filter_cons, List.filter_nil, Nat.reduceAdd, Nat.reduceEqDiff, Nat.reduceLT, Nat.reduceLeDiff, Nat.reduceBEq, Nat.reduceBNe, reduceIte, if_true, if_false, Bool.false_and, Bool.true_and, Bool.and_true, Bool.and_false, Bool.not_false, Bool.not_true, Bool.false_eq_true, beq_self_eq_true, BEq.rfl, zCat1, zCat2, zCat3, zKdI, zKdL, zKdR, true_and, and_true, zSI, zSL, zSR, zu_at, and_self, and_false, false_and, lv_args, zKdZ, zKdO, zB01, zB11, Option.toList_none, Option.toList_some, List.nil_append, List.cons_append, true_or, or_true, zRow_rd, zu_rd, zo_istore_n, zo_iload_n, zo_if_ge, zo_aload_n, zo_getfield, zo_bipush, zo_imul, zo_iconst, zo_iadd, zo_dup2, zo_dup2_2, zo_iaload, zo_iastore, zo_return_, zb_7, zi_4, zi_1, zb_8, zb_95, zKd_10_62, sh_87, rf_87_62, sh_119, zcl_7, zcl_4, zcl_1, zcl_8, zcl_95, zvi_7_14, zvi_4_14, zvi_1_14, zvi_8_14, zKn_s, zKn_0, zFind, show oBI none = (-1 : Int32) from rfl, zN10, zN01, not_true_eq_false, not_false_eq_true, false_implies, true_implies, implies_true, eq_self, nI_1, nI_40, nI_7, vz0, vz1, zb1_e0, zb1_n0]
    refine ⟨fun h => absurd h (by decide), fun _ => ?_⟩
    simp only [show (4 : Int32) = nI 4 from rfl, nI_7, nI_clamp (n := 7 * b + 4) (by omega), hv4, true_and]
    refine hQ _ L1 ((zErr_FR h1).u (by unfold zFR; omega)) h2 ?_
    rw [vR_u8 (by omega), hV1, ← hV1, vR_8 (by omega)]
  | some q =>
    obtain ⟨hq1, hq2, -⟩ := hlt q rfl
    dsimp only at hQ
    have hf := oOpen_fst hq2
    have hqb : oBI (some q) = nI q.1 := rfl
    refine zBlkR (M := mX10_comesOn) (nL := 6) (rt := (Option.none : Option Jvm.ClassFile.FieldType)) (blk := bX10_comesOn_6) (T := [(27, bX10_comesOn_27)]) 1 hX10_comesOn_6 (zChks_cons hX10_comesOn_27 zChks_nil) rfl rfl rfl (Nat.le_of_ble_eq_true rfl) (Nat.le_of_ble_eq_true rfl) ?_
    simp only [bX10_comesOn_6, bX10_comesOn_27, zRun_cons, zRun_nil, zLk, zSto, zIns, zFil, zf0, zf1, zf2, zf3, List.filter_cons, List.filter_nil, Nat.reduceAdd, Nat.reduceEqDiff, Nat.reduceLT, Nat.reduceLeDiff, Nat.reduceBEq, Nat.reduceBNe, reduceIte, if_true, if_false, Bool.false_and, Bool.true_and, Bool.and_true, Bool.and_false, Bool.not_false, Bool.not_true, Bool.false_eq_true, beq_self_eq_true, BEq.rfl, zCat1, zCat2, zCat3, zKdI, zKdL, zKdR, true_and, and_true, zSI, zSL, zSR, zu_at, and_self, and_false, false_and, lv_args, zKdZ, zKdO, zB01, zB11, Option.toList_none, Option.toList_some, List.nil_append, List.cons_append, true_or, or_true, zRow_rd, zu_rd, zo_istore_n, zo_iload_n, zo_if_ge, zo_aload_n, zo_getfield, zo_bipush, zo_imul, zo_iconst, zo_iadd, zo_dup2, zo_dup2_2, zo_iaload, zo_iastore, zo_return_, zb_7, zi_4, zi_1, zb_8, zb_95, zKd_10_62, sh_87, rf_87_62, sh_119, zcl_7, zcl_4, zcl_1, zcl_8, zcl_95, zvi_7_14, zvi_4_14, zvi_1_14, zvi_8_14, zKn_s, zKn_0, zFind, hqb, zN10, zN01, not_true_eq_false, not_false_eq_true, false_implies, true_implies, implies_true, eq_self, nI_1, nI_40, nI_7, vz0, vz1, zb1_e0, zb1_n0]
    refine ⟨fun _ => ?_, fun h => absurd h (by rw [Int32.not_le]; exact fun g => absurd g (nI_nn (by omega)))⟩
    have hE1 := zEnvR_err h1 hE
    refine z_cV0 (M' := mX10_boundLaw) (R' := rX10_boundLaw) (i := 87) [.int 1, .int (nI b), .int (nI q.1), .int t, .int 8, .int 1, .int 95] [] eX10_boundLaw k10_469 (by decide +kernel : decode cX10_comesOn 37 = .ok (.invokevirtual 469, 3)) (Nat.le_of_ble_eq_true rfl) ⟨Nat.le_of_ble_eq_true rfl, Nat.le_of_ble_eq_true rfl, Nat.le_of_ble_eq_true rfl, Nat.le_of_ble_eq_true rfl, Nat.le_of_ble_eq_true rfl⟩ rfl rfl rfl sh_87 ?_
    refine mo_boundLaw (wh := 1) (by omega) hb (by omega) hE1 (zLaws_err h1 hL) hV1 (fun I2 L2 h3 h4 => ?_)
    rw [lwR_err h1]
    have hV2 : vR b I2 = V := by rw [vR_err h3, hV1]
    have hch := hE.1
    refine zBlkR (M := mX10_comesOn) (nL := 6) (rt := (Option.none : Option Jvm.ClassFile.FieldType)) (blk := bX10_comesOn_40) (T := []) 0 hX10_comesOn_40 zChks_nil rfl rfl rfl (Nat.le_of_ble_eq_true rfl) (Nat.le_of_ble_eq_true rfl) ?_
    simp only [bX10_comesOn_40, zRun_cons, zRun_nil, zLk, zSto, zIns, zFil, zf0, zf1, zf2, zf3, List.filter_cons, List.filter_nil, Nat.reduceAdd, Nat.reduceEqDiff, Nat.reduceLT, Nat.reduceLeDiff, Nat.reduceBEq, Nat.reduceBNe, reduceIte, if_true, if_false, Bool.false_and, Bool.true_and, Bool.and_true, Bool.and_false, Bool.not_false, Bool.not_true, Bool.false_eq_true, beq_self_eq_true, BEq.rfl, zCat1, zCat2, zCat3, zKdI, zKdL, zKdR, true_and, and_true, zSI, zSL, zSR, zu_at, and_self, and_false, false_and, lv_args, zKdZ, zKdO, zB01, zB11, Option.toList_none, Option.toList_some, List.nil_append, List.cons_append, true_or, or_true, zRow_rd, zu_rd, zo_istore, zo_iconst, zi_0, zcl_0, zKn_0, zN10, zN01, not_true_eq_false, not_false_eq_true, false_implies, true_implies, implies_true, eq_self, nI_1, nI_40, nI_7, vz0, vz1, zb1_e0, zb1_n0]
    have h12 : zKpt (zFR b) I I2 := (zErr_FR h1).trans (zErr_FR h3)
    have key : ∀ c, c ≤ zFst (oFree V q.1) ch → zX w mX10_comesOn rX10_comesOn Q 0 0 45 [(0, Value.ref 87), (1, Value.int (nI b)), (2, Value.int t), (3, Value.int (nI q.1)), (4, Value.int (oBL (lwR I ns nb nr nbd told F T t 1 q.1 (oCnt V (nI q.1) 2 ch) (oCnt V (nI q.1) 1 ch)) 8 1 95)), (5, Value.int (nI c))] [] (SH, I2, L2, RF p s r) := by
      refine zLoop (n := zFst (oFree V q.1) ch) (fun c hc ih => ?_)
      have hc4 : c < 40 := by omega
      have hv : vp_in (nI (40 * b + c)) 80 := zvn (by omega) (by omega)
      have e1 : I2 114 (40 * b + c) = V 1 c := by rw [← hV2, vR_1 hc4]
      have e2 : I2 115 (40 * b + c) = V 2 c := by rw [← hV2, vR_2 hc4]
      refine zBlkR (M := mX10_comesOn) (nL := 6) (rt := (Option.none : Option Jvm.ClassFile.FieldType)) (blk := bX10_comesOn_45) (T := [(77, bX10_comesOn_77), (83, bX10_comesOn_83)]) 1 hX10_comesOn_45 (zChks_cons hX10_comesOn_77 (zChks_cons hX10_comesOn_83 zChks_nil)) rfl rfl rfl (Nat.le_of_ble_eq_true rfl) (Nat.le_of_ble_eq_true rfl) ?_
      simp only [bX10_comesOn_45, bX10_comesOn_77, bX10_comesOn_83, zRun_cons, zRun_nil, zLk, zSto, zIns, zFil, zf0, zf1, zf2, zf3, List.filter_cons, List.filter_nil, Nat.reduceAdd, Nat.reduceEqDiff, Nat.reduceLT, Nat.reduceLeDiff, Nat.reduceBEq, Nat.reduceBNe, reduceIte, if_true, if_false, Bool.false_and, Bool.true_and, Bool.and_true, Bool.and_false, Bool.not_false, Bool.not_true, Bool.false_eq_true, beq_self_eq_true, BEq.rfl, zCat1, zCat2, zCat3, zKdI, zKdL, zKdR, true_and, and_true, zSI, zSL, zSR, zu_at, and_self, and_false, false_and, lv_args, zKdZ, zKdO, zB01, zB11, Option.toList_none, Option.toList_some, List.nil_append, List.cons_append, true_or, or_true, zRow_rd, zu_rd, zo_aload_n, zo_getfield, zo_bipush, zo_iload_n, zo_imul, zo_iload, zo_iadd, zo_iaload, zo_iconst, zo_icmp_ne, zo_icmp_eq, zo_iinc, zo_goto, zo_iastore, zo_bastore, zo_return_, zb_40, zi_1, zi_2, zi_0, zKd_10_57, zKd_10_58, zKd_10_60, zKd_10_61, sh_87, rf_87_57, sh_114, zcl_40, zcl_1, rf_87_58, sh_115, zcl_2, rf_87_60, sh_117, rf_87_61, sh_118, zcl_0, zvi_40_80, zvi_1_80, zvi_2_80, zvi_0_80, zKn_s, zKn_0, zFind, hv, e1, e2, nI_clamp (n := 40 * b + c) (by omega), zN10, zN01, not_true_eq_false, not_false_eq_true, false_implies, true_implies, implies_true, eq_self, nI_1, nI_40, nI_7, vz0, vz1, zb1_e0, zb1_n0]
      refine ⟨fun g1 => ?_, fun g1 => ⟨fun g2 => ?_, fun g2 => ?_⟩⟩
      · refine ih ?_
        rcases Nat.lt_or_ge c (zFst (oFree V q.1) ch) with g | g
        · exact g
        · have e : c = zFst (oFree V q.1) ch := by omega
          exact absurd (oFree_1 (zFst_lt hf)).1 (by rw [← e]; exact g1)
      · have e : zFst (oFree V q.1) ch = c := by
          rcases Nat.lt_or_ge c (zFst (oFree V q.1) ch) with g | g
          · have := zFst_no g
            simp [oFree, g1, g2] at this
          · omega
        rw [e] at hQ
        refine hQ _ L2 (((h12.u (by unfold zFR; omega)).u (by unfold zFR; omega)).u (by unfold zFR; omega)) (h2.trans h4) ?_
        rw [vR_u5 hc4, vR_u4 hc4, vR_u1 hc4, hV2]
        rfl
      · refine ih ?_
        rcases Nat.lt_or_ge c (zFst (oFree V q.1) ch) with g | g
        · exact g
        · have e : c = zFst (oFree V q.1) ch := by omega
          exact absurd (oFree_1 (zFst_lt hf)).2 (by rw [← e]; exact g2)
    exact key 0 (Nat.zero_le _)
end ZC52
