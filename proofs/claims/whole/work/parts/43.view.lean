-- needs: 40
/-! ===== VIEWS of a front: the class's and the reference's ===== -/
/-- but for what S names, nothing has changed -/
def zKpt {α : Type} (S : Nat → Nat → Prop) (I I' : Nat → Nat → α) : Prop := ∀ i k, ¬ S i k → I' i k = I i k
section ZKPT
variable {α : Type} {S S' : Nat → Nat → Prop} {I I1 I2 : Nat → Nat → α} {i k : Nat} {v : α}
theorem zKpt_rfl : zKpt S I I := fun _ _ _ => rfl
theorem zKpt.trans (h1 : zKpt S I I1) (h2 : zKpt S I1 I2) : zKpt S I I2 := fun i k h => (h2 i k h).trans (h1 i k h)
theorem zKpt.u (h : zKpt S I I1) (hs : S i k) : zKpt S I (zu I1 i k v) := by
  intro a b hn
  rw [zu_at, if_neg]
  · exact h a b hn
  · rintro ⟨rfl, rfl⟩; exact hn hs
theorem zKpt.mono (h : zKpt S I I1) (hs : ∀ i k, S i k → S' i k) : zKpt S' I I1 := fun i k hn => h i k (fun q => hn (hs i k q))
end ZKPT
/-- rows 1 to 5: status, where, wets, till, paid of 40 chairs; row 8: the seven sums -/
def zV (g : Nat → Nat → Int32) : Nat → Nat → Int32 := fun i c => if i = 8 then (if c < 7 then g 8 c else 0) else if (1 ≤ i ∧ i ≤ 5) ∧ c < 40 then g i c else 0
def vC (B : Nat) (I : Nat → Nat → Int32) : Nat → Nat → Int32 := zV (fun i c => I (B + i) c)
def vR (b : Nat) (I : Nat → Nat → Int32) : Nat → Nat → Int32 := zV (fun i c => if i = 8 then I 119 (7 * b + c) else I (113 + i) (40 * b + c))
section ZVIEW
variable {I I' V : Nat → Nat → Int32} {b B i k c : Nat} {x : Int32}
theorem vR_at (hi : 1 ≤ i ∧ i ≤ 5) (hc : c < 40) : vR b I i c = I (113 + i) (40 * b + c) := by
  have : ¬ i = 8 := by omega
  simp [vR, zV, this, hi, hc]
theorem vR_8 (hc : c < 7) : vR b I 8 c = I 119 (7 * b + c) := by simp [vR, zV, hc]
theorem vR_1 (hc : c < 40) : vR b I 1 c = I 114 (40 * b + c) := vR_at (by omega) hc
theorem vR_2 (hc : c < 40) : vR b I 2 c = I 115 (40 * b + c) := vR_at (by omega) hc
theorem vR_3 (hc : c < 40) : vR b I 3 c = I 116 (40 * b + c) := vR_at (by omega) hc
theorem vR_4 (hc : c < 40) : vR b I 4 c = I 117 (40 * b + c) := vR_at (by omega) hc
theorem vR_5 (hc : c < 40) : vR b I 5 c = I 118 (40 * b + c) := vR_at (by omega) hc
theorem vC_at (hi : 1 ≤ i ∧ i ≤ 5) (hc : c < 40) : vC B I i c = I (B + i) c := by
  have : ¬ i = 8 := by omega
  simp [vC, zV, this, hi, hc]
theorem vC_8 (hc : c < 7) : vC B I 8 c = I (B + 8) c := by simp [vC, zV, hc]
theorem vR_u (hi : 1 ≤ i ∧ i ≤ 5) (hc : c < 40) : vR b (zu I (113 + i) (40 * b + c) x) = zu (vR b I) i c x := by
  funext a d
  by_cases h8 : a = 8
  · subst h8
    have : ¬ (8 = i ∧ d = c) := by omega
    have h2 : ¬ (119 = 113 + i) := by omega
    simp [vR, zV, zu_at, this, h2]
  · by_cases h : a = i ∧ d = c
    · obtain ⟨rfl, rfl⟩ := h
      simp [vR, zV, zu_at, h8, hi, hc]
    · have h2 : ¬ (113 + a = 113 + i ∧ 40 * b + d = 40 * b + c) := by omega
      simp only [vR, zV, zu_at, h8, h, h2, if_false]
theorem vR_u1 (hc : c < 40) : vR b (zu I 114 (40 * b + c) x) = zu (vR b I) 1 c x := vR_u (i := 1) (by omega) hc
theorem vR_u2 (hc : c < 40) : vR b (zu I 115 (40 * b + c) x) = zu (vR b I) 2 c x := vR_u (i := 2) (by omega) hc
theorem vR_u3 (hc : c < 40) : vR b (zu I 116 (40 * b + c) x) = zu (vR b I) 3 c x := vR_u (i := 3) (by omega) hc
theorem vR_u4 (hc : c < 40) : vR b (zu I 117 (40 * b + c) x) = zu (vR b I) 4 c x := vR_u (i := 4) (by omega) hc
theorem vR_u5 (hc : c < 40) : vR b (zu I 118 (40 * b + c) x) = zu (vR b I) 5 c x := vR_u (i := 5) (by omega) hc
theorem vR_u8 (hk : k < 7) : vR b (zu I 119 (7 * b + k) x) = zu (vR b I) 8 k x := by
  funext a d
  by_cases h8 : a = 8
  · subst h8
    by_cases h : d = k
    · subst h; simp [vR, zV, zu_at, hk]
    · have : ¬ (7 * b + d = 7 * b + k) := by omega
      simp [vR, zV, zu_at, h]
  · have h3 : ¬ (113 + a = 119 ∧ 40 * b + d = 7 * b + k) ∨ ¬ ((1 ≤ a ∧ a ≤ 5) ∧ d < 40) := by omega
    rcases h3 with h3 | h3 <;> simp only [vR, zV, zu_at, h8, h3, if_false, false_and]
theorem vR_un (h : i < 114 ∨ 119 < i) : vR b (zu I i k x) = vR b I := by
  funext a d
  by_cases h8 : a = 8
  · subst h8
    have : ¬ (119 = i) := by omega
    simp [vR, zV, zu_at, this]
  · have h3 : ¬ (113 + a = i) ∨ ¬ ((1 ≤ a ∧ a ≤ 5) ∧ d < 40) := by omega
    rcases h3 with h3 | h3 <;> simp only [vR, zV, zu_at, h8, h3, if_false, false_and]
theorem vC_u (hi : 1 ≤ i ∧ i ≤ 5) (hc : c < 40) : vC B (zu I (B + i) c x) = zu (vC B I) i c x := by
  funext a d
  by_cases h8 : a = 8
  · subst h8
    have : ¬ (8 = i ∧ d = c) := by omega
    have h2 : ¬ (B + 8 = B + i) := by omega
    simp only [vC, zV, zu_at, this, h2, if_true, false_and, if_false]
  · by_cases h : a = i ∧ d = c
    · obtain ⟨rfl, rfl⟩ := h
      simp [vC, zV, zu_at, h8, hi, hc]
    · have h2 : ¬ (B + a = B + i ∧ d = c) := by omega
      simp only [vC, zV, zu_at, h8, h, h2, if_false]
theorem vC_u8 (hk : k < 7) : vC B (zu I (B + 8) k x) = zu (vC B I) 8 k x := by
  funext a d
  by_cases h8 : a = 8
  · subst h8
    by_cases h : d = k
    · subst h; simp [vC, zV, zu_at, hk]
    · simp [vC, zV, zu_at, h]
  · have h3 : ¬ (B + a = B + 8) := by omega
    simp only [vC, zV, zu_at, h8, h3, if_false, false_and]
theorem vC_un (h : i ≤ B ∨ i = B + 6 ∨ i = B + 7 ∨ B + 8 < i) : vC B (zu I i k x) = vC B I := by
  funext a d
  by_cases h8 : a = 8
  · subst h8
    have : ¬ (B + 8 = i) := by omega
    simp only [vC, zV, zu_at, this, false_and, if_false]
  · have h3 : ¬ (B + a = i) ∨ ¬ ((1 ≤ a ∧ a ≤ 5) ∧ d < 40) := by omega
    rcases h3 with h3 | h3 <;> simp only [vC, zV, zu_at, h8, h3, if_false, false_and]
/-- what a tick of the reference may change: the half b, isError -/
def zFR (b i k : Nat) : Prop := (114 ≤ i ∧ i ≤ 118 ∧ 40 * b ≤ k ∧ k < 40 * b + 40) ∨ (i = 119 ∧ 7 * b ≤ k ∧ k < 7 * b + 7) ∨ (i = 87 ∧ k = 54)
/-- and of longs: names, values, the half's number -/
def zFRL (b i k : Nat) : Prop := i = 112 ∨ i = 113 ∨ (i = 120 ∧ k = b)
theorem zFR_no (h : (i < 114 ∧ ¬ (i = 87 ∧ k = 54)) ∨ 119 < i) : ¬ zFR b i k := by unfold zFR; omega
theorem zKpt.R (h : zKpt (zFR b) I I') (hi : (i < 114 ∧ ¬ (i = 87 ∧ k = 54)) ∨ 119 < i) : I' i k = I i k := h i k (zFR_no hi)
theorem vR_kpt {b' : Nat} (hb : b ≠ b') (h : zKpt (zFR b) I I') : vR b' I' = vR b' I := by
  funext a d
  by_cases h8 : a = 8
  · subst h8
    by_cases hd : d < 7
    · rw [vR_8 hd, vR_8 hd, h]
      unfold zFR; omega
    · simp [vR, zV, hd]
  · by_cases hd : (1 ≤ a ∧ a ≤ 5) ∧ d < 40
    · rw [vR_at hd.1 hd.2, vR_at hd.1 hd.2, h]
      unfold zFR; omega
    · simp only [vR, zV, h8, hd, if_false]
end ZVIEW
