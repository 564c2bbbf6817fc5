/-! ===== TEXT: what a line changes in a draft, both sides ===== -/
/-- the reference's draft -/
def zDr (J : Nat → Nat → Int32) (D : oDf) : Prop :=
  (J 87 18 = nI (dNp D) ∧ J 87 19 = nI (dNc D) ∧ J 87 20 = nI (dNs D) ∧ J 87 21 = nI (dNb D) ∧ J 87 22 = nI (dNg D) ∧ J 87 23 = nI (dNk D) ∧ J 87 49 = nI (dNk D)) ∧
  (∀ k, k < dNp D → J 90 (5 + k) = dR D 90 k ∧ J 91 (5 + k) = dR D 91 k ∧ J 92 (5 + k) = dR D 92 k ∧ J 93 (5 + k) = dR D 93 k) ∧
  (∀ k, k < dNc D → J 94 (16 + k) = dR D 94 k ∧ J 95 (16 + k) = dR D 95 k) ∧
  (∀ k, k < dNs D → J 96 (12 + k) = dR D 96 k ∧ J 97 (12 + k) = dR D 97 k) ∧
  (∀ k, k < dNb D → J 98 (2 + k) = dR D 98 k ∧ J 99 (2 + k) = dR D 99 k ∧ J 100 (2 + k) = dR D 100 k) ∧
  (∀ j, j < 7 → J 102 (16 + sIx j) = dR D 102 (sIx j)) ∧
  (∀ k, k < dNg D → J 101 (4 + k) = dR D 101 k) ∧
  (∀ i, i < dNk D → J 107 (64 + i) = dR D 107 i ∧ J 108 (64 + i) = dR D 108 i ∧ J 109 (64 + i) = dR D 109 i) ∧
  (∀ h, h < 3 → J 104 (3 + h) = zb1 (dTold D h) ∧ (dTold D h = true → J 105 (3 + h) = nI (dF D h) ∧ J 106 (3 + h) = nI (dT D h))) ∧
  (∀ j, j < 7 → J 103 (sIx j) = zb1 (dSt D j)) ∧ (∀ b, J 104 b = 0 ∨ J 104 b = 1) ∧ (J 87 4 = 0 ∧ J 87 5 = -1)
/-- what the reading of a text may change in the reference, tokens aside: the halves ahead -/
def SPr (i k : Nat) : Prop := (i = 87 ∧ (k = 4 ∨ k = 5 ∨ k = 11 ∨ (18 ≤ k ∧ k ≤ 23) ∨ (46 ≤ k ∧ k ≤ 51))) ∨ (90 ≤ i ∧ i ≤ 93 ∧ 5 ≤ k) ∨ ((i = 94 ∨ i = 95) ∧ 16 ≤ k) ∨ ((i = 96 ∨ i = 97) ∧ 12 ≤ k) ∨ (98 ≤ i ∧ i ≤ 100 ∧ 2 ≤ k) ∨ (i = 101 ∧ 4 ≤ k) ∨ (i = 102 ∧ 16 ≤ k) ∨ i = 103 ∨ (104 ≤ i ∧ i ≤ 106 ∧ 3 ≤ k ∧ k < 6) ∨ (107 ≤ i ∧ i ≤ 109 ∧ 64 ≤ k) ∨ i = 110 ∨ i = 111
section ZN98s
variable {I J J' : Nat → Nat → Int32} {s a b c i j k n m v x y q : Nat} {nm td : Int32} {E : oEn} {t : oTk} {D : oDf}
theorem dR_mk {a : Nat → Nat → Int32} {b : (Nat → Bool) × (Nat → Nat) × (Nat → Nat) × (Nat → Bool) × Nat × Nat × Nat × Nat × Nat × Nat} : dR (a, b) = a := rfl
theorem dSt_mk {a : Nat → Nat → Int32} {b : Nat → Bool} {c d : Nat → Nat} {e : Nat → Bool} {f : Nat × Nat × Nat × Nat × Nat × Nat} : dSt (a, b, c, d, e, f) = e := rfl
theorem sIx_r : ∀ j, j < 7 → sIx j < 16 := by decide
theorem sIx_inj : ∀ i, i < 7 → ∀ j, j < 7 → sIx i = sIx j → i = j := by decide
theorem zEr_k (h : zKpt SPr J J') (hE : zEr J E) : zEr J' E := by
  obtain ⟨e1, e2, e3, e4, e5⟩ := hE
  exact ⟨by rw [h 87 6 (by unfold SPr; omega)]; exact e1, fun k hk => by rw [h 89 k (by unfold SPr; omega)]; exact e2 k hk, e3, e4, fun k hk => by rw [h 88 k (by unfold SPr; omega)]; exact e5 k hk⟩
/-- an unrelated change in the class -/
theorem zDc_k {S : Nat → Nat → Prop} (hD : zDc J s D) (hK : zKpt S J J') (h1 : ∀ k, ¬ S s k) (h2 : ¬ S 4 6 ∧ ¬ S 4 7) (h3 : ∀ j k, 1 ≤ j → j ≤ 15 → ¬ S (s + j) k) (h4 : ∀ k, ¬ S 5 k) (h5 : ¬ S 4 10 ∧ ¬ S 4 11) : zDc J' s D := by
  have e0 : ∀ k, J' s k = J s k := fun k => hK _ _ (h1 k)
  have ej : ∀ j k, 1 ≤ j → j ≤ 15 → J' (s + j) k = J (s + j) k := fun j k g1 g2 => hK _ _ (h3 j k g1 g2)
  have e5 : ∀ k, J' 5 k = J 5 k := fun k => hK _ _ (h4 k)
  obtain ⟨⟨d0, d5, d9, d14, d16, d46, d47⟩, dp, dc, dsk, dbd, dst, dsg, dcd, dlw, dto, dfl⟩ := hD
  refine ⟨⟨by rw [e0]; exact d0, by rw [e0]; exact d5, by rw [e0]; exact d9, by rw [e0]; exact d14, by rw [e0]; exact d16, by rw [hK 4 6 h2.1]; exact d46, by rw [hK 4 7 h2.2]; exact d47⟩, fun k hk => ?_, fun k hk => ?_, fun k hk => ?_, fun k hk => ?_, fun k hk => ?_, fun k hk => ?_, fun k hk => ?_, fun k hk => ?_, fun k hk => ?_, ⟨by rw [hK 4 10 h5.1]; exact dfl.1, by rw [hK 4 11 h5.2]; exact dfl.2⟩⟩
  · rw [ej 1 k (by omega) (by omega), ej 2 k (by omega) (by omega), ej 3 k (by omega) (by omega), ej 4 k (by omega) (by omega)]; exact dp k hk
  · rw [ej 5 k (by omega) (by omega), ej 6 k (by omega) (by omega)]; exact dc k hk
  · rw [ej 7 k (by omega) (by omega)]; exact dsk k hk
  · rw [ej 8 k (by omega) (by omega), ej 9 k (by omega) (by omega), ej 10 k (by omega) (by omega)]; exact dbd k hk
  · rw [ej 11 k (by omega) (by omega)]; exact dst k hk
  · rw [ej 12 k (by omega) (by omega)]; exact dsg k hk
  · rw [ej 13 k (by omega) (by omega)]; exact dcd k hk
  · rw [ej 14 k (by omega) (by omega), ej 15 k (by omega) (by omega)]; exact dlw k hk
  · rw [e5]; exact dto k hk
theorem zDc_place (hs : zPc s) (hD : zDc J s D) (hK : zKpt (fun i k => (i = s ∧ k = 0) ∨ (s + 1 ≤ i ∧ i ≤ s + 4 ∧ k = dNp D)) J J') (h0 : J' s 0 = nI (dNp D + 1)) (h1 : J' (s + 1) (dNp D) = nm) (h2 : J' (s + 2) (dNp D) = nI v) (h3 : J' (s + 3) (dNp D) = nI x) (h4 : J' (s + 4) (dNp D) = td) : zDc J' s (dPlace D nm v x td) := by
  obtain ⟨⟨d0, d5, d9, d14, d16, d46, d47⟩, dp, dc, dsk, dbd, dst, dsg, dcd, dlw, dto, dfl⟩ := hD
  have s4 : 8 < s := by rcases hs with rfl | rfl <;> omega
  have ej : ∀ j k, 5 ≤ j → J' (s + j) k = J (s + j) k := fun j k g1 => hK _ _ (by omega)
  refine ⟨⟨h0, by rw [hK _ _ (by omega)]; exact d5, by rw [hK _ _ (by omega)]; exact d9, by rw [hK _ _ (by omega)]; exact d14, by rw [hK _ _ (by omega)]; exact d16, by rw [hK _ _ (by omega)]; exact d46, by rw [hK _ _ (by omega)]; exact d47⟩, fun k hk => ?_, fun k hk => ?_, fun k hk => ?_, fun k hk => ?_, fun k hk => ?_, fun k hk => ?_, fun k hk => ?_, fun k hk => ?_, fun k hk => ?_, ⟨by rw [hK _ _ (by omega)]; exact dfl.1, by rw [hK _ _ (by omega)]; exact dfl.2⟩⟩
  · have hk : k < dNp D + 1 := hk
    by_cases e : k = dNp D
    · subst e; simp [dPlace, dR_mk, dSt_mk, zu_at, h1, h2, h3, h4]
    · have := dp k (by omega)
      rw [hK _ _ (by omega), hK _ _ (by omega), hK _ _ (by omega), hK _ _ (by omega)]
      simp [dPlace, dR_mk, dSt_mk, zu_at, e]; exact this
  · rw [ej 5 k (by omega), ej 6 k (by omega)]; simp [dPlace, dR_mk, dSt_mk, zu_at]; exact dc k hk
  · rw [ej 7 k (by omega)]; exact dsk k hk
  · rw [ej 8 k (by omega), ej 9 k (by omega), ej 10 k (by omega)]; simp [dPlace, dR_mk, dSt_mk, zu_at]; exact dbd k hk
  · rw [ej 11 k (by omega)]; simp [dPlace, dR_mk, dSt_mk, zu_at]; exact dst k hk
  · rw [ej 12 k (by omega)]; simp [dPlace, dR_mk, dSt_mk, zu_at]; exact dsg k hk
  · rw [ej 13 k (by omega)]; simp [dPlace, dR_mk, dSt_mk, zu_at]; exact dcd k hk
  · rw [ej 14 k (by omega), ej 15 k (by omega)]; exact dlw k hk
  · rw [hK _ _ (by omega)]; exact dto k hk
theorem zDc_come (hs : zPc s) (hD : zDc J s D) (hK : zKpt (fun i k => (i = s ∧ k = 5) ∨ (s + 5 ≤ i ∧ i ≤ s + 6 ∧ k = dNc D)) J J') (h0 : J' s 5 = nI (dNc D + 1)) (h1 : J' (s + 5) (dNc D) = nI x) (h2 : J' (s + 6) (dNc D) = nI y) : zDc J' s (dCome D x y) := by
  obtain ⟨⟨d0, d5, d9, d14, d16, d46, d47⟩, dp, dc, dsk, dbd, dst, dsg, dcd, dlw, dto, dfl⟩ := hD
  have s4 : 8 < s := by rcases hs with rfl | rfl <;> omega
  refine ⟨⟨by rw [hK _ _ (by omega)]; exact d0, h0, by rw [hK _ _ (by omega)]; exact d9, by rw [hK _ _ (by omega)]; exact d14, by rw [hK _ _ (by omega)]; exact d16, by rw [hK _ _ (by omega)]; exact d46, by rw [hK _ _ (by omega)]; exact d47⟩, fun k hk => ?_, fun k hk => ?_, fun k hk => ?_, fun k hk => ?_, fun k hk => ?_, fun k hk => ?_, fun k hk => ?_, fun k hk => ?_, fun k hk => ?_, ⟨by rw [hK _ _ (by omega)]; exact dfl.1, by rw [hK _ _ (by omega)]; exact dfl.2⟩⟩
  · rw [hK _ _ (by omega), hK _ _ (by omega), hK _ _ (by omega), hK _ _ (by omega)]; simp [dCome, dR_mk, dSt_mk, zu_at]; exact dp k hk
  · have hk : k < dNc D + 1 := hk
    by_cases e : k = dNc D
    · subst e; simp [dCome, dR_mk, dSt_mk, zu_at, h1, h2]
    · have := dc k (by omega)
      rw [hK _ _ (by omega), hK _ _ (by omega)]
      simp [dCome, dR_mk, dSt_mk, zu_at, e]; exact this
  · rw [hK _ _ (by omega)]; exact dsk k hk
  · rw [hK _ _ (by omega), hK _ _ (by omega), hK _ _ (by omega)]; simp [dCome, dR_mk, dSt_mk, zu_at]; exact dbd k hk
  · rw [hK _ _ (by omega)]; simp [dCome, dR_mk, dSt_mk, zu_at]; exact dst k hk
  · rw [hK _ _ (by omega)]; simp [dCome, dR_mk, dSt_mk, zu_at]; exact dsg k hk
  · rw [hK _ _ (by omega)]; simp [dCome, dR_mk, dSt_mk, zu_at]; exact dcd k hk
  · rw [hK _ _ (by omega), hK _ _ (by omega)]; exact dlw k hk
  · rw [hK _ _ (by omega)]; exact dto k hk
theorem zDc_sky (hs : zPc s) (hx : x < 96) (hD : zDc J s D) (hK : zKpt (fun i k => (i = 4 ∧ k = 7) ∨ (i = s + 7 ∧ k = x)) J J') (h0 : J' 4 7 = nI (dNs D + 1)) (h1 : J' (s + 7) x = nI y) : zDc J' s (dSky D x y) := by
  obtain ⟨⟨d0, d5, d9, d14, d16, d46, d47⟩, dp, dc, dsk, dbd, dst, dsg, dcd, dlw, dto, dfl⟩ := hD
  have s4 : 8 < s := by rcases hs with rfl | rfl <;> omega
  refine ⟨⟨by rw [hK _ _ (by omega)]; exact d0, by rw [hK _ _ (by omega)]; exact d5, by rw [hK _ _ (by omega)]; exact d9, by rw [hK _ _ (by omega)]; exact d14, by rw [hK _ _ (by omega)]; exact d16, by rw [hK _ _ (by omega)]; exact d46, h0⟩, fun k hk => ?_, fun k hk => ?_, fun k hk => ?_, fun k hk => ?_, fun k hk => ?_, fun k hk => ?_, fun k hk => ?_, fun k hk => ?_, fun k hk => ?_, ⟨by rw [hK _ _ (by omega)]; exact dfl.1, by rw [hK _ _ (by omega)]; exact dfl.2⟩⟩
  · rw [hK _ _ (by omega), hK _ _ (by omega), hK _ _ (by omega), hK _ _ (by omega)]; simp [dSky, dR_mk, dSt_mk, zu_at]; exact dp k hk
  · rw [hK _ _ (by omega), hK _ _ (by omega)]; simp [dSky, dR_mk, dSt_mk, zu_at]; exact dc k hk
  · have e1 : ∀ n, n ≤ dNs D → oSkD (zu (zu (dR D) 96 (dNs D) (nI x)) 97 (dNs D) (nI y) 96) (zu (zu (dR D) 96 (dNs D) (nI x)) 97 (dNs D) (nI y) 97) n k = oSkD (dR D 96) (dR D 97) n k := by
      intro n hn
      induction n with
      | zero => rfl
      | succ n ih =>
        have e : ¬ n = dNs D := by omega
        unfold oSkD
        rw [ih (by omega)]
        simp [zu_at, e]
    show J' (s + 7) k = oSkD (zu (zu (dR D) 96 (dNs D) (nI x)) 97 (dNs D) (nI y) 96) (zu (zu (dR D) 96 (dNs D) (nI x)) 97 (dNs D) (nI y) 97) (dNs D + 1) k
    unfold oSkD
    rw [e1 _ (Nat.le_refl _)]
    simp only [zu_at, and_self, if_true, true_and, Nat.reduceEqDiff, false_and, if_false]
    simp only [show (nI x = nI k) = (x = k) from zeq_nat (by omega) (by omega)]
    by_cases e : x = k
    · subst e; simp [h1]
    · rw [if_neg e, hK _ _ (by omega)]; exact dsk k hk
  · rw [hK _ _ (by omega), hK _ _ (by omega), hK _ _ (by omega)]; simp [dSky, dR_mk, dSt_mk, zu_at]; exact dbd k hk
  · rw [hK _ _ (by omega)]; simp [dSky, dR_mk, dSt_mk, zu_at]; exact dst k hk
  · rw [hK _ _ (by omega)]; simp [dSky, dR_mk, dSt_mk, zu_at]; exact dsg k hk
  · rw [hK _ _ (by omega)]; simp [dSky, dR_mk, dSt_mk, zu_at]; exact dcd k hk
  · rw [hK _ _ (by omega), hK _ _ (by omega)]; exact dlw k hk
  · rw [hK _ _ (by omega)]; exact dto k hk
theorem zDc_band (hs : zPc s) (hD : zDc J s D) (hK : zKpt (fun i k => (i = s ∧ k = 9) ∨ (s + 8 ≤ i ∧ i ≤ s + 10 ∧ k = dNb D)) J J') (h0 : J' s 9 = nI (dNb D + 1)) (h1 : J' (s + 8) (dNb D) = nI q) (h2 : J' (s + 9) (dNb D) = nI x) (h3 : J' (s + 10) (dNb D) = nI y) : zDc J' s (dBand D q x y) := by
  obtain ⟨⟨d0, d5, d9, d14, d16, d46, d47⟩, dp, dc, dsk, dbd, dst, dsg, dcd, dlw, dto, dfl⟩ := hD
  have s4 : 8 < s := by rcases hs with rfl | rfl <;> omega
  refine ⟨⟨by rw [hK _ _ (by omega)]; exact d0, by rw [hK _ _ (by omega)]; exact d5, h0, by rw [hK _ _ (by omega)]; exact d14, by rw [hK _ _ (by omega)]; exact d16, by rw [hK _ _ (by omega)]; exact d46, by rw [hK _ _ (by omega)]; exact d47⟩, fun k hk => ?_, fun k hk => ?_, fun k hk => ?_, fun k hk => ?_, fun k hk => ?_, fun k hk => ?_, fun k hk => ?_, fun k hk => ?_, fun k hk => ?_, ⟨by rw [hK _ _ (by omega)]; exact dfl.1, by rw [hK _ _ (by omega)]; exact dfl.2⟩⟩
  · rw [hK _ _ (by omega), hK _ _ (by omega), hK _ _ (by omega), hK _ _ (by omega)]; simp [dBand, dR_mk, dSt_mk, zu_at]; exact dp k hk
  · rw [hK _ _ (by omega), hK _ _ (by omega)]; simp [dBand, dR_mk, dSt_mk, zu_at]; exact dc k hk
  · rw [hK _ _ (by omega)]; exact dsk k hk
  · have hk : k < dNb D + 1 := hk
    by_cases e : k = dNb D
    · subst e; simp [dBand, dR_mk, dSt_mk, zu_at, h1, h2, h3]
    · have := dbd k (by omega)
      rw [hK _ _ (by omega), hK _ _ (by omega), hK _ _ (by omega)]
      simp [dBand, dR_mk, dSt_mk, zu_at, e]; exact this
  · rw [hK _ _ (by omega)]; simp [dBand, dR_mk, dSt_mk, zu_at]; exact dst k hk
  · rw [hK _ _ (by omega)]; simp [dBand, dR_mk, dSt_mk, zu_at]; exact dsg k hk
  · rw [hK _ _ (by omega)]; simp [dBand, dR_mk, dSt_mk, zu_at]; exact dcd k hk
  · rw [hK _ _ (by omega), hK _ _ (by omega)]; exact dlw k hk
  · rw [hK _ _ (by omega)]; exact dto k hk
theorem zDc_sign (hs : zPc s) (hD : zDc J s D) (hK : zKpt (fun i k => (i = s ∧ k = 14) ∨ (i = s + 12 ∧ k = dNg D)) J J') (h0 : J' s 14 = nI (dNg D + 1)) (h1 : J' (s + 12) (dNg D) = nm) : zDc J' s (dSign D nm) := by
  obtain ⟨⟨d0, d5, d9, d14, d16, d46, d47⟩, dp, dc, dsk, dbd, dst, dsg, dcd, dlw, dto, dfl⟩ := hD
  have s4 : 8 < s := by rcases hs with rfl | rfl <;> omega
  refine ⟨⟨by rw [hK _ _ (by omega)]; exact d0, by rw [hK _ _ (by omega)]; exact d5, by rw [hK _ _ (by omega)]; exact d9, h0, by rw [hK _ _ (by omega)]; exact d16, by rw [hK _ _ (by omega)]; exact d46, by rw [hK _ _ (by omega)]; exact d47⟩, fun k hk => ?_, fun k hk => ?_, fun k hk => ?_, fun k hk => ?_, fun k hk => ?_, fun k hk => ?_, fun k hk => ?_, fun k hk => ?_, fun k hk => ?_, ⟨by rw [hK _ _ (by omega)]; exact dfl.1, by rw [hK _ _ (by omega)]; exact dfl.2⟩⟩
  · rw [hK _ _ (by omega), hK _ _ (by omega), hK _ _ (by omega), hK _ _ (by omega)]; simp [dSign, dR_mk, dSt_mk, zu_at]; exact dp k hk
  · rw [hK _ _ (by omega), hK _ _ (by omega)]; simp [dSign, dR_mk, dSt_mk, zu_at]; exact dc k hk
  · rw [hK _ _ (by omega)]; exact dsk k hk
  · rw [hK _ _ (by omega), hK _ _ (by omega), hK _ _ (by omega)]; simp [dSign, dR_mk, dSt_mk, zu_at]; exact dbd k hk
  · rw [hK _ _ (by omega)]; simp [dSign, dR_mk, dSt_mk, zu_at]; exact dst k hk
  · have hk : k < dNg D + 1 := hk
    by_cases e : k = dNg D
    · subst e; simp [dSign, dR_mk, dSt_mk, zu_at, h1]
    · have := dsg k (by omega)
      rw [hK _ _ (by omega)]
      simp [dSign, dR_mk, dSt_mk, zu_at, e]; exact this
  · rw [hK _ _ (by omega)]; simp [dSign, dR_mk, dSt_mk, zu_at]; exact dcd k hk
  · rw [hK _ _ (by omega), hK _ _ (by omega)]; exact dlw k hk
  · rw [hK _ _ (by omega)]; exact dto k hk
theorem zDc_set (hs : zPc s) (hj : j < 7) (hD : zDc J s D) (hK : zKpt (fun i k => (i = 5 ∧ k = j) ∨ (i = s + 11 ∧ k = j)) J J') (h0 : J' 5 j = 1) (h1 : J' (s + 11) j = nI v) : zDc J' s (dSet D j v) := by
  obtain ⟨⟨d0, d5, d9, d14, d16, d46, d47⟩, dp, dc, dsk, dbd, dst, dsg, dcd, dlw, dto, dfl⟩ := hD
  have s4 : 8 < s := by rcases hs with rfl | rfl <;> omega
  refine ⟨⟨by rw [hK _ _ (by omega)]; exact d0, by rw [hK _ _ (by omega)]; exact d5, by rw [hK _ _ (by omega)]; exact d9, by rw [hK _ _ (by omega)]; exact d14, by rw [hK _ _ (by omega)]; exact d16, by rw [hK _ _ (by omega)]; exact d46, by rw [hK _ _ (by omega)]; exact d47⟩, fun k hk => ?_, fun k hk => ?_, fun k hk => ?_, fun k hk => ?_, fun k hk => ?_, fun k hk => ?_, fun k hk => ?_, fun k hk => ?_, fun k hk => ?_, ⟨by rw [hK _ _ (by omega)]; exact dfl.1, by rw [hK _ _ (by omega)]; exact dfl.2⟩⟩
  · rw [hK _ _ (by omega), hK _ _ (by omega), hK _ _ (by omega), hK _ _ (by omega)]; simp [dSet, dR_mk, dSt_mk, zu_at]; exact dp k hk
  · rw [hK _ _ (by omega), hK _ _ (by omega)]; simp [dSet, dR_mk, dSt_mk, zu_at]; exact dc k hk
  · rw [hK _ _ (by omega)]; exact dsk k hk
  · rw [hK _ _ (by omega), hK _ _ (by omega), hK _ _ (by omega)]; simp [dSet, dR_mk, dSt_mk, zu_at]; exact dbd k hk
  · by_cases e : k = j
    · subst e; simp [dSet, dR_mk, dSt_mk, zu_at, h1]
    · have e2 : ¬ sIx k = sIx j := fun z => e (sIx_inj k hk j hj z)
      rw [hK _ _ (by omega)]; simp [dSet, dR_mk, dSt_mk, zu_at, e2]; exact dst k hk
  · rw [hK _ _ (by omega)]; simp [dSet, dR_mk, dSt_mk, zu_at]; exact dsg k hk
  · rw [hK _ _ (by omega)]; simp [dSet, dR_mk, dSt_mk, zu_at]; exact dcd k hk
  · rw [hK _ _ (by omega), hK _ _ (by omega)]; exact dlw k hk
  · by_cases e : k = j
    · subst e; simp [dSet, dR_mk, dSt_mk, h0, zb1]
    · rw [hK _ _ (by omega)]; simp [dSet, dR_mk, dSt_mk, e]; exact dto k hk
end ZN98s
