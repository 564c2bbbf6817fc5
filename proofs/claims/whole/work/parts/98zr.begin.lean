/-! ===== THE BEGINNING: a new plan, a cleared front, both sides ===== -/
def oV0 : Nat → Nat → Int32 := zV (fun i _ => if i = 2 ∨ i = 4 then -1 else 0)
def oRt0 : oRt := (0, 0, fun _ => 0)
/-- alike where a plan is looked at -/
def pAg (P P' : oPn) : Prop := P'.2 = P.2 ∧
  (∀ k, k < pNp P → pR P' 90 k = pR P 90 k ∧ pR P' 91 k = pR P 91 k ∧ pR P' 92 k = pR P 92 k ∧ pR P' 93 k = pR P 93 k) ∧
  (∀ k, k < pNc P → pR P' 94 k = pR P 94 k ∧ pR P' 95 k = pR P 95 k) ∧
  (∀ k, k < pNs P → pR P' 96 k = pR P 96 k ∧ pR P' 97 k = pR P 97 k) ∧
  (∀ k, k < pNb P → pR P' 98 k = pR P 98 k ∧ pR P' 99 k = pR P 99 k ∧ pR P' 100 k = pR P 100 k) ∧
  (∀ k, k < pNg P → pR P' 101 k = pR P 101 k) ∧
  (∀ j, j < 7 → pR P' 102 (sIx j) = pR P 102 (sIx j)) ∧
  (∀ h, h < 3 → pTold P h = true → ∀ i, i < pT P h → pR P' 107 i = pR P 107 i ∧ pR P' 108 i = pR P 108 i ∧ pR P' 109 i = pR P 109 i)
section ZN98zr
variable {w : zP} {Q : Option Value → zMem → Prop} {I J M I1 I2 : Nat → Nat → Int32} {L K L1 L2 : Nat → Nat → Int64} {p s : Nat} {r : Option Nat} {P P' : oPn} {V V' : Nat → Nat → Int32} {d d' : Int64} {t kc t' kc' : Nat} {D : oDf} {i k n ch : Nat} {tk kk tk' kk' : Nat → Int32}
theorem oSkyF_congr {x : Int32} (h : ∀ j, j < n → tk' j = tk j ∧ kk' j = kk j) : oSkyF tk' kk' x n = oSkyF tk kk x n := by
  induction n with
  | zero => rfl
  | succ n ih => rw [oSkyF, oSkyF, ih (fun j hj => h j (by omega)), (h n (by omega)).1, (h n (by omega)).2]
theorem zClsP_ag (ha : pAg P P') (h : zClsP I p P) : zClsP I p P' := by
  obtain ⟨e, a1, a2, a3, a4, a5, a6, a7⟩ := ha
  obtain ⟨⟨c1, c2, c3, c4, c5⟩, b, c, q, f, ⟨w0, w1, w2, w3, w4, w5, w6⟩, g, l⟩ := h
  obtain ⟨R', X'⟩ := P'
  obtain ⟨R, X⟩ := P
  have e : X' = X := e
  subst e
  unfold zClsP zClsR
  refine ⟨⟨c1, c2, c3, c4, c5⟩, fun k hk => ?_, fun k hk => ?_, fun k hk => ?_, fun k hk => ?_, ⟨?_, ?_, ?_, ?_, ?_, ?_, ?_⟩, fun k hk => ?_, fun h hh => ?_⟩
  · obtain ⟨q1, q2, q3, q4⟩ := a1 k hk
    rw [q1, q2, q3, q4]; exact b k hk
  · obtain ⟨q1, q2⟩ := a2 k hk
    rw [q1, q2]; exact c k hk
  · have := q k hk
    unfold oSky at this ⊢
    rw [oSkyF_congr (fun j hj => a3 j hj)]; exact this
  · obtain ⟨q1, q2, q3⟩ := a4 k hk
    rw [q1, q2, q3]; exact f k hk
  · exact w0.trans (a6 0 (by omega)).symm
  · exact w1.trans (a6 1 (by omega)).symm
  · exact w2.trans (a6 2 (by omega)).symm
  · exact w3.trans (a6 3 (by omega)).symm
  · exact w4.trans (a6 4 (by omega)).symm
  · exact w5.trans (a6 5 (by omega)).symm
  · exact w6.trans (a6 6 (by omega)).symm
  · rw [a5 k hk]; exact g k hk
  · refine ⟨(l h hh).1, fun z => ⟨((l h hh).2 z).1, fun i g1 g2 => ?_⟩⟩
    obtain ⟨q1, q2, -⟩ := a7 h hh z i g2
    rw [q1, q2]; exact ((l h hh).2 z).2 i g1 g2
theorem oV0_1 : oV0 1 k = 0 := by unfold oV0 zV; simp
theorem oV0_at (hi : 1 ≤ i ∧ i ≤ 5) (hk : k < 40) : oV0 i k = if i = 2 ∨ i = 4 then -1 else 0 := by
  have : ¬ i = 8 := by omega
  unfold oV0 zV
  rw [if_neg this, if_pos ⟨hi, hk⟩]
theorem oV0_8 : oV0 8 k = 0 := by unfold oV0 zV; simp
theorem oCnt_0 {q what : Int32} (h : what ≠ 0) : oCnt oV0 q what n = 0 := by
  unfold oCnt
  refine zCnt_0 (fun c _ => ?_)
  rw [oV0_1]
  have : ((0 : Int32) == what) = false := by rw [beq_eq_false_iff_ne]; exact fun z => h z.symm
  rw [this]; rfl
theorem oStk_0 : ∀ n, oStk oV0 n = n
  | 0 => rfl
  | n + 1 => by
    unfold oStk at *
    rw [zCnt_t (by rw [oV0_1]; rfl)]
    have := oStk_0 n
    unfold oStk at this
    rw [this]
/-- what the reference's rows hold behind a text -/
theorem zKeep_rows : (∀ k, k < 5 → zBegM (zKeepR M) 90 k = M 90 (5 + k) ∧ zBegM (zKeepR M) 91 k = M 91 (5 + k) ∧ zBegM (zKeepR M) 92 k = M 92 (5 + k) ∧ zBegM (zKeepR M) 93 k = M 93 (5 + k)) ∧ (∀ k, k < 16 → zBegM (zKeepR M) 94 k = M 94 (16 + k) ∧ zBegM (zKeepR M) 95 k = M 95 (16 + k)) ∧ (∀ k, k < 12 → zBegM (zKeepR M) 96 k = M 96 (12 + k) ∧ zBegM (zKeepR M) 97 k = M 97 (12 + k)) ∧ (∀ k, k < 2 → zBegM (zKeepR M) 98 k = M 98 (2 + k) ∧ zBegM (zKeepR M) 99 k = M 99 (2 + k) ∧ zBegM (zKeepR M) 100 k = M 100 (2 + k)) ∧ (∀ k, k < 4 → zBegM (zKeepR M) 101 k = M 101 (4 + k)) ∧ (∀ k, k < 16 → zBegM (zKeepR M) 102 k = M 102 (16 + k)) ∧ (∀ k, k < 3 → zBegM (zKeepR M) 104 k = M 104 (3 + k) ∧ zBegM (zKeepR M) 105 k = M 105 (3 + k) ∧ zBegM (zKeepR M) 106 k = M 106 (3 + k)) ∧ (∀ k, k < 64 → zBegM (zKeepR M) 107 k = M 107 (64 + k) ∧ zBegM (zKeepR M) 108 k = M 108 (64 + k) ∧ zBegM (zKeepR M) 109 k = M 109 (64 + k)) := by
  refine ⟨fun k hk => ?_, fun k hk => ?_, fun k hk => ?_, fun k hk => ?_, fun k hk => ?_, fun k hk => ?_, fun k hk => ?_, fun k hk => ?_⟩ <;> simp [zBegM, zBegR, zKeepR, zKeepL, zKeepE, zKeepF, zu_at, zRow_at, zHalf, hk]
theorem zKeep_lo (hi : i < 87) : zBegM (zKeepR M) i k = M i k := by
  have n : ∀ c, 87 ≤ c → (i = c) = False := fun c hc => eq_false (by omega)
  simp only [zBegM, zBegR, zKeepR, zKeepL, zKeepE, zKeepF, zu_at, zRow_at, n _ (show 87 ≤ 87 by omega), n _ (show 87 ≤ 90 by omega), n _ (show 87 ≤ 91 by omega), n _ (show 87 ≤ 92 by omega), n _ (show 87 ≤ 93 by omega), n _ (show 87 ≤ 94 by omega), n _ (show 87 ≤ 95 by omega), n _ (show 87 ≤ 96 by omega), n _ (show 87 ≤ 97 by omega), n _ (show 87 ≤ 98 by omega), n _ (show 87 ≤ 99 by omega), n _ (show 87 ≤ 100 by omega), n _ (show 87 ≤ 101 by omega), n _ (show 87 ≤ 102 by omega), n _ (show 87 ≤ 104 by omega), n _ (show 87 ≤ 105 by omega), n _ (show 87 ≤ 106 by omega), n _ (show 87 ≤ 107 by omega), n _ (show 87 ≤ 108 by omega), n _ (show 87 ≤ 109 by omega), n _ (show 87 ≤ 114 by omega), n _ (show 87 ≤ 115 by omega), n _ (show 87 ≤ 116 by omega), n _ (show 87 ≤ 117 by omega), n _ (show 87 ≤ 118 by omega), n _ (show 87 ≤ 119 by omega), if_false, false_and]
theorem zKeep_87 : zBegM (zKeepR M) 87 12 = M 87 18 ∧ zBegM (zKeepR M) 87 13 = M 87 19 ∧ zBegM (zKeepR M) 87 14 = M 87 20 ∧ zBegM (zKeepR M) 87 15 = M 87 21 ∧ zBegM (zKeepR M) 87 16 = M 87 22 ∧ zBegM (zKeepR M) 87 17 = M 87 23 ∧ zBegM (zKeepR M) 87 55 = 0 ∧ zBegM (zKeepR M) 87 56 = 0 ∧ zBegM (zKeepR M) 87 64 = 0 ∧ zBegM (zKeepR M) 87 65 = 0 ∧ zBegM (zKeepR M) 87 85 = 0 ∧ zBegM (zKeepR M) 87 86 = -1 ∧ zBegM (zKeepR M) 87 78 = 0 ∧ zBegM (zKeepR M) 87 90 = 0 ∧ zBegM (zKeepR M) 87 1 = M 87 1 ∧ zBegM (zKeepR M) 87 4 = M 87 4 ∧ zBegM (zKeepR M) 87 5 = M 87 5 := by
  refine ⟨?_, ?_, ?_, ?_, ?_, ?_, ?_, ?_, ?_, ?_, ?_, ?_, ?_, ?_, ?_, ?_, ?_⟩ <;> simp [zBegM, zBegR, zKeepR, zKeepL, zKeepE, zKeepF, zu_at, zRow_at]
theorem zKeep_ch (hk : k < 40) : zBegM (zKeepR M) 114 k = 0 ∧ zBegM (zKeepR M) 115 k = -1 ∧ zBegM (zKeepR M) 116 k = 0 ∧ zBegM (zKeepR M) 117 k = -1 ∧ zBegM (zKeepR M) 118 k = 0 := by
  refine ⟨?_, ?_, ?_, ?_, ?_⟩ <;> simp [zBegM, zBegR, zKeepR, zKeepL, zKeepE, zKeepF, zu_at, zRow_at, zFill, hk]
theorem zKeep_sm (hk : k < 7) : zBegM (zKeepR M) 119 k = 0 := by simp [zBegM, zBegR, zKeepR, zKeepL, zKeepE, zKeepF, zu_at, zRow_at, zFill, hk]
theorem zKeep_89 : zBegM (zKeepR M) 89 k = M 89 k ∧ zBegM (zKeepR M) 88 k = M 88 k := by
  refine ⟨?_, ?_⟩ <;> simp [zBegM, zBegR, zKeepR, zKeepL, zKeepE, zKeepF, zu_at, zRow_at]
theorem zKeep_104 (hb : ∀ b, M 104 b = 0 ∨ M 104 b = 1) : ∀ b, zBegM (zKeepR M) 104 b = 0 ∨ zBegM (zKeepR M) 104 b = 1 := by
  intro b
  have e : zBegM (zKeepR M) 104 b = if b < 3 then M 104 (3 + b) else M 104 b := by simp [zBegM, zBegR, zKeepR, zKeepL, zKeepE, zKeepF, zu_at, zRow_at, zHalf]
  rw [e]; split
  · exact hb _
  · exact hb _
theorem zBeg_front (hs : zPc s) : (∀ k, k < 40 → zBegin I s 11 k = 0 ∧ zBegin I s 12 k = -1 ∧ zBegin I s 13 k = 0 ∧ zBegin I s 14 k = -1 ∧ zBegin I s 15 k = 0) ∧ (∀ k, k < 5 → zBegin I s 16 k = 0 ∧ zBegin I s 17 k = 0) ∧ (∀ k, k < 7 → zBegin I s 18 k = 0) ∧ zBegin I s 10 8 = I (s + 11) 1 ∧ zBegin I s 10 9 = I (s + 11) 1 ∧ zBegin I s 10 10 = 0 ∧ zBegin I s 10 11 = 0 ∧ zBegin I s 10 12 = 0 ∧ zBegin I s 10 13 = 0 ∧ zBegin I s 43 4 = 0 ∧ zBegin I s 48 4 = 0 ∧ zBegin I s 48 5 = -1 ∧ zBegin I s 0 14 = 0 ∧ (zBegin I s 8 0 = I (s + 11) 0 ∧ zBegin I s 8 1 = 0 ∧ zBegin I s 8 2 = -1 ∧ zBegin I s 8 3 = 0 ∧ zBegin I s 8 4 = 0 ∧ zBegin I s 8 5 = 0 ∧ zBegin I s 8 6 = 0 ∧ zBegin I s 8 7 = -1 ∧ zBegin I s 8 8 = -1) := by
  rcases hs with rfl | rfl
  · refine ⟨fun k hk => ?_, fun k hk => ?_, fun k hk => ?_, ?_, ?_, ?_, ?_, ?_, ?_, ?_, ?_, ?_, ?_, ?_⟩ <;> simp [zBegin, zFront0, zu_at, zRow_at, zFill, *]
  · refine ⟨fun k hk => ?_, fun k hk => ?_, fun k hk => ?_, ?_, ?_, ?_, ?_, ?_, ?_, ?_, ?_, ?_, ?_, ?_⟩ <;> simp [zBegin, zFront0, zu_at, zRow_at, zFill, *]
theorem zBeg_lo (hi : ¬ i = 0 ∧ ¬ i = 8 ∧ ¬ (10 ≤ i ∧ i ≤ 18) ∧ ¬ i = 43 ∧ ¬ i = 48) : zBegin I s i = I i := by
  funext k
  have n : ∀ c, c = 0 ∨ c = 8 ∨ (10 ≤ c ∧ c ≤ 18) ∨ c = 43 ∨ c = 48 → (i = c) = False := fun c hc => eq_false (by omega)
  simp only [zBegin, zFront0, zu_at, zRow_at, n 0 (by omega), n 8 (by omega), n 10 (by omega), n (10 + 1) (by omega), n (10 + 2) (by omega), n (10 + 3) (by omega), n (10 + 4) (by omega), n (10 + 5) (by omega), n (10 + 6) (by omega), n (10 + 7) (by omega), n (10 + 8) (by omega), n 43 (by omega), n 48 (by omega), if_false, false_and]
end ZN98zr
