/-! ===== THE INVARIANT: both systems beside one pure state ===== -/
/-- a front: chairs, number, tick, carried, route -/
abbrev oIm : Type := (Nat → Nat → Int32) × Int64 × Nat × Nat × oRt
def zWt : Nat → Int32 := (zTok 136).2.2
def oCoin (V : Nat → Nat → Int32) (t : Nat) : Prop := ∃ c, V 8 0 = nI c ∧ c ≤ 8000 * t
/-- the class beside its plan and its front: book, tape, words, terms, image, fault -/
def zIx (I : Nat → Nat → Int32) (L : Nat → Nat → Int64) (P : oPn) (bb : oBk) (T : oTp) (hm : Bool) (X : oIm) (f1 f2 : Int32) : Prop :=
  zcBook I bb ∧ zcTp I T ∧ I 3 = zWt ∧ zClsM (I 8) (mTold P) ∧ I 8 2 = -1 ∧ I 0 14 = zb1 hm ∧ (hm = true → zcFr I L 28 P X.1 X.2.1 X.2.2.1 X.2.2.2.1 X.2.2.2.2) ∧ I 4 10 = f1 ∧ I 4 11 = f2
/-- the reference likewise -/
def zIy (I : Nat → Nat → Int32) (L : Nat → Nat → Int64) (bb : oBk) (T : oTp) (hm : Bool) (X : oIm) (f1 f2 : Int32) : Prop :=
  zrBook I bb ∧ zrTp I T ∧ (∀ k, k < 136 → I 89 k = nI (mWa k)) ∧ I 87 90 = zb1 hm ∧ (hm = true → zrIm I L X.1 X.2.1 X.2.2.1 X.2.2.2.1 X.2.2.2.2) ∧ I 87 4 = f1 ∧ I 87 5 = f2 ∧ (∀ b, (3 ≤ b ∧ b < 6) ∨ I 104 b = 0 ∨ I 104 b = 1)
def zIz (P : oPn) (V : Nat → Nat → Int32) (t kc : Nat) (rt : oRt) (u : oUd) (bb : oBk) (T : oTp) (hm : Bool) (X : oIm) : Prop :=
  UdOk P t V kc rt u ∧ BkOk bb ∧ TpOk T ∧ (hm = true → FrOk P X.1 X.2.2.1 X.2.2.2.1 X.2.2.2.2 ∧ oCoin X.1 X.2.2.1) ∧ oCoin V t ∧ ∃ n, n ≤ 99 ∧ pR P 102 5 = nI n
def zInv (I : Nat → Nat → Int32) (L : Nat → Nat → Int64) (p s : Nat) : Prop := zPc s ∧ p ≠ s ∧ ∃ (P : oPn) (V : Nat → Nat → Int32) (d : Int64) (t kc : Nat) (rt : oRt) (u : oUd) (bb : oBk) (T : oTp) (hm : Bool) (X : oIm) (f1 f2 : Int32), zKl I L p P V d t kc rt ∧ zRl I L P V d t kc rt ∧ zcDeeds I L u ∧ zrUndo I u ∧ zIx I L P bb T hm X f1 f2 ∧ zIy I L bb T hm X f1 f2 ∧ zIz P V t kc rt u bb T hm X
/-- where each looks -/
def cRd (i k : Nat) : Prop := (i = 0 ∧ k = 14) ∨ (i = 1 ∧ k = 2) ∨ i = 2 ∨ i = 3 ∨ (i = 4 ∧ (k = 10 ∨ k = 11)) ∨ i = 8 ∨ (28 ≤ i ∧ i ≤ 36) ∨ (48 ≤ i ∧ i ≤ 51)
def rRd (i k : Nat) : Prop := (i = 87 ∧ (k = 1 ∨ k = 4 ∨ k = 5 ∨ k = 85 ∨ k = 86 ∨ (90 ≤ k ∧ k ≤ 94))) ∨ i = 88 ∨ i = 89 ∨ i = 104 ∨ i = 129 ∨ i = 130 ∨ (132 ≤ i ∧ i ≤ 138)
def zRd (i k : Nat) : Prop := (i = 87 ∧ ((12 ≤ k ∧ k ≤ 17) ∨ k = 55 ∨ k = 56 ∨ k = 64 ∨ k = 65)) ∨ (90 ≤ i ∧ i ≤ 109) ∨ (114 ≤ i ∧ i ≤ 118 ∧ k < 40) ∨ (i = 119 ∧ k < 7) ∨ i = 121
section ZN98zm
variable {I J : Nat → Nat → Int32} {L K : Nat → Nat → Int64} {p s : Nat} {P P' : oPn} {V : Nat → Nat → Int32} {d : Int64} {t kc : Nat} {rt : oRt} {u : oUd} {bb : oBk} {T : oTp} {hm : Bool} {X : oIm} {f1 f2 : Int32} {i k n : Nat}
theorem zTok_ok : ∀ i, i < 27 → zWt i = nI (cWp i) := by decide +kernel
theorem zClsR_lo {g0 g : Nat → Nat → Int32} (h : ∀ j, j ≤ 15 → g j = g0 j) (hP : zClsR g0 P) : zClsR g P := by
  obtain ⟨⟨a1, a2, a3, a4, a5⟩, b, c, e, f, ⟨w0, w1, w2, w3, w4, w5, w6⟩, q, l⟩ := hP
  unfold zClsR
  refine ⟨⟨by rw [h 0 (by omega)]; exact a1, by rw [h 0 (by omega)]; exact a2, by rw [h 0 (by omega)]; exact a3, by rw [h 0 (by omega)]; exact a4, by rw [h 0 (by omega)]; exact a5⟩, fun k hk => ?_, fun k hk => ?_, fun k hk => ?_, fun k hk => ?_, ⟨by rw [h 11 (by omega)]; exact w0, by rw [h 11 (by omega)]; exact w1, by rw [h 11 (by omega)]; exact w2, by rw [h 11 (by omega)]; exact w3, by rw [h 11 (by omega)]; exact w4, by rw [h 11 (by omega)]; exact w5, by rw [h 11 (by omega)]; exact w6⟩, fun k hk => ?_, fun q hq => ?_⟩
  · rw [h 1 (by omega), h 2 (by omega), h 3 (by omega), h 4 (by omega)]; exact b k hk
  · rw [h 5 (by omega), h 6 (by omega)]; exact c k hk
  · rw [h 7 (by omega)]; exact e k hk
  · rw [h 8 (by omega), h 9 (by omega), h 10 (by omega)]; exact f k hk
  · rw [h 12 (by omega)]; exact q k hk
  · rw [h 14 (by omega), h 15 (by omega), h 13 (by omega)]; exact l q hq
theorem zClsP_lo (h : ∀ j, j ≤ 15 → J (p + j) = I (p + j)) (hP : zClsP I p P) : zClsP J p P := zClsR_lo h hP
theorem zKl_k (h : ∀ i, (10 ≤ i ∧ i ≤ 18) ∨ (p ≤ i ∧ i ≤ p + 15) → J i = I i) (hL : K 10 = L 10) (hK : zKl I L p P V d t kc rt) : zKl J K p P V d t kc rt := by
  obtain ⟨h1, h2, h3, h4, h5, h6⟩ := hK
  exact ⟨h1, h2, h3, zClsP_lo (fun j hj => h _ (Or.inr (by omega))) h4, zcFr_row (fun j hj => h _ (Or.inl (by omega))) hL h5, h6⟩
theorem vR_k (h : ∀ i k, (114 ≤ i ∧ i ≤ 118 ∧ k < 40) ∨ (i = 119 ∧ k < 7) → J i k = I i k) : vR 0 J = vR 0 I := by
  funext a c
  by_cases h8 : a = 8
  · subst h8
    by_cases hc : c < 7
    · rw [vR_8 hc, vR_8 hc, h _ _ (by omega)]
    · simp [vR, zV, hc]
  · by_cases hc : (1 ≤ a ∧ a ≤ 5) ∧ c < 40
    · rw [vR_at hc.1 hc.2, vR_at hc.1 hc.2, h _ _ (by omega)]
    · simp only [vR, zV, h8, hc, if_false]
theorem zRl_k (h : ∀ i k, zRd i k → J i k = I i k) (hL : K 120 0 = L 120 0) (hR : zRl I L P V d t kc rt) : zRl J K P V d t kc rt := by
  obtain ⟨h1, h2, ⟨r1, r2, r3, r4, r5⟩, ⟨h16, h17⟩, ⟨f1, f2, f3, f4, f5, f6, f7⟩, h6⟩ := hR
  have e : ∀ k, ((12 ≤ k ∧ k ≤ 17) ∨ k = 55 ∨ k = 56 ∨ k = 64 ∨ k = 65) → J 87 k = I 87 k := fun k hk => h 87 k (Or.inl ⟨rfl, hk⟩)
  refine ⟨h1, h2, ⟨fun i g1 g2 => ?_, by rw [e _ (by omega)]; exact r2, by rw [e _ (by omega)]; exact r3, by rw [e _ (by omega)]; exact r4, by rw [e _ (by omega)]; exact r5⟩, ⟨by rw [e _ (by omega)]; exact h16, by rw [e _ (by omega)]; exact h17⟩, ⟨?_, by rw [e _ (by omega)]; exact f2, by rw [e _ (by omega)]; exact f3, by rw [e _ (by omega)]; exact f4, by rw [e _ (by omega)]; exact f5, fun k hk => ?_, by rw [hL]; exact f7⟩, h6⟩
  · rw [← r1 i g1 g2]; funext k; exact h i k (by unfold zRd; omega)
  · rw [vR_k (fun i k g => h i k (by unfold zRd; omega))]; exact f1
  · rw [h 121 k (by unfold zRd; omega)]; exact f6 k hk
theorem zcDeeds_k (h : ∀ i k, 43 ≤ i ∧ i ≤ 46 → J i k = I i k) (hL : K 47 = L 47) (hD : zcDeeds I L u) : zcDeeds J K u := by
  obtain ⟨h1, h2⟩ := hD
  refine ⟨by rw [h _ _ (by omega)]; exact h1, fun k hk => ?_⟩
  rw [h 44 _ (by omega), h 45 _ (by omega), h 46 _ (by omega), hL]; exact h2 k hk
theorem zIx_k (h : ∀ i k, cRd i k → J i k = I i k) (hL : K 28 = L 28) (hX : zIx I L P bb T hm X f1 f2) : zIx J K P bb T hm X f1 f2 := by
  obtain ⟨⟨b1, b2, b3⟩, ⟨t1, t2⟩, h3, hM, h8, h0, hm', g1, g2⟩ := hX
  have r : ∀ i, i = 3 ∨ i = 8 ∨ (28 ≤ i ∧ i ≤ 36) → J i = I i := fun i hi => funext fun k => h i k (by unfold cRd; omega)
  refine ⟨⟨by rw [h _ _ (by unfold cRd; omega)]; exact b1, by rw [h _ _ (by unfold cRd; omega)]; exact b2, fun k hk => ?_⟩, ⟨by rw [h _ _ (by unfold cRd; omega)]; exact t1, fun i hi => by rw [h _ _ (by unfold cRd; omega)]; exact t2 i hi⟩, by rw [r 3 (by omega)]; exact h3, by rw [r 8 (by omega)]; exact hM, by rw [r 8 (by omega)]; exact h8, by rw [h _ _ (by unfold cRd; omega)]; exact h0, fun q => zcFr_row (fun j hj => r _ (by omega)) hL (hm' q), by rw [h _ _ (by unfold cRd; omega)]; exact g1, by rw [h _ _ (by unfold cRd; omega)]; exact g2⟩
  rw [h 51 _ (by unfold cRd; omega), h 49 _ (by unfold cRd; omega), h 50 _ (by unfold cRd; omega)]
  exact b3 k hk
theorem zIy_k (h : ∀ i k, rRd i k → J i k = I i k) (hL : K 87 95 = L 87 95) (hY : zIy I L bb T hm X f1 f2) : zIy J K bb T hm X f1 f2 := by
  obtain ⟨⟨b1, b2, b3⟩, ⟨t1, t2⟩, hw, h90, him, g1, g2, hb⟩ := hY
  have e : ∀ k, (k = 1 ∨ k = 4 ∨ k = 5 ∨ k = 85 ∨ k = 86 ∨ (90 ≤ k ∧ k ≤ 94)) → J 87 k = I 87 k := fun k hk => h 87 k (Or.inl ⟨rfl, hk⟩)
  refine ⟨⟨by rw [e _ (by omega)]; exact b1, by rw [e _ (by omega)]; exact b2, fun k hk => ?_⟩, ⟨by rw [e _ (by omega)]; exact t1, fun i hi => by rw [h _ _ (by unfold rRd; omega)]; exact t2 i hi⟩, fun k hk => by rw [h _ _ (by unfold rRd; omega)]; exact hw k hk, by rw [e _ (by omega)]; exact h90, fun q => ?_, by rw [e _ (by omega)]; exact g1, by rw [e _ (by omega)]; exact g2, fun b => by rw [h _ _ (by unfold rRd; omega)]; exact hb b⟩
  · rw [h 129 _ (by unfold rRd; omega), h 130 _ (by unfold rRd; omega)]; exact b3 k hk
  · obtain ⟨i1, i2, i3, i4, i5, i6, i7, i8, i9⟩ := him q
    exact ⟨fun i c g1 g2 g3 => by rw [h _ _ (by unfold rRd; omega)]; exact i1 i c g1 g2 g3, fun c hc => by rw [h _ _ (by unfold rRd; omega)]; exact i2 c hc, by rw [e _ (by omega)]; exact i3, by rw [e _ (by omega)]; exact i4, by rw [e _ (by omega)]; exact i5, by rw [e _ (by omega)]; exact i6, fun k hk => by rw [h _ _ (by unfold rRd; omega)]; exact i7 k hk, by rw [hL]; exact i8, i9⟩
end ZN98zm
