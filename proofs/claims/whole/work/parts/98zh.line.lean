/-! ===== TEXT: a line, all lines, pure; what they keep ===== -/
def gLine (E : oEn) (D : oDf) (t : oTk) : oF ⊕ (oTk × oDf) :=
  if tKd t = 34 then gPlace E D t else if tKd t = 36 then gCome E D t else if tKd t = 37 then gSky E D t else if tKd t = 38 then gBand E D t else if tKd t = 39 then gSign E D t else if tKd t = 40 then gLaw E D t else if 27 ≤ tKd t ∧ tKd t ≤ 33 then gSet E D (tKd t - 27) t else .inl (1, tAt t)
def gAll (E : oEn) : Nat → oDf → oTk → Nat → oF ⊕ (oDf × Nat)
  | 0, D, _, m => .inr (D, m)
  | n + 1, D, t, m => if tKd t = 0 then .inr (D, m) else
    match gLine E D t with
    | .inl f => .inl f
    | .inr (t', D') => if tKd t' = 4 then gAll E n D' (tNx E t') (m + 1) else .inl (1, tAt t')
/-- a token behind this one -/
def tBe (E : oEn) (t t' : oTk) : Prop := ∃ u, tOk E u ∧ t.2.1 ≤ u.2.1 ∧ t' = tNx E u
section ZN98zh
variable {a b c i j k n h e m q F : Nat} {x y nm td : Int32} {E : oEn} {t u t' : oTk} {D D' : oDf} {S S' : oFm} {R0 : Nat → Nat → Int32} {wb : Bool}
theorem tBe_0 (ht : tOk E t) : tBe E t (tNx E t) := ⟨t, ht, Nat.le_refl _, rfl⟩
theorem tBe_s (ht : tOk E t) (h : tBe E (tNx E t) t') : tBe E t t' := by
  obtain ⟨u, h1, h2, h3⟩ := h
  exact ⟨u, h1, Nat.le_trans (tNx_end ht).1 h2, h3⟩
theorem tBe_ok (h : tBe E t t') : tOk E t' := by
  obtain ⟨u, h1, -, h3⟩ := h
  rw [h3]; exact tOk_nx h1
theorem fSum_be : ∀ (n : Nat) (t : oTk) (S : oFm) (wb : Bool) {t' : oTk} {S' : oFm}, tOk E t → fSum E n t S wb = .inr (t', S') → t' = t ∨ tBe E t t'
  | 0, t, S, wb, t', S', _, h => by cases h
  | n + 1, t, S, wb, t', S', ht, h => by
    unfold fSum at h
    split at h
    · cases h; exact Or.inl rfl
    · split at h
      · cases h
      · rename_i S1 w1 _
        right
        rcases fSum_be n (tNx E t) S1 w1 (tOk_nx ht) h with e | e
        · rw [e]; exact tBe_0 ht
        · exact tBe_s ht e
theorem gPlace_ok (ht : tOk E t) (hO : DOk D) (h : gPlace E D t = .inr (t', D')) : DOk D' ∧ tBe E t t' := by
  have ht1 := tOk_nx ht
  have ht2 := tOk_nx ht1
  have ht3 := tOk_nx ht2
  have ht4 := tOk_nx ht3
  have ht5 := tOk_nx ht4
  obtain ⟨⟨o1, o2, o3, o4, o5, o6⟩, otd, oco, osk, ose, ola⟩ := hO
  have hp : ∀ (nm : Int32) (v f : Nat) (td : Int32), dNp D < 5 → (td = -1 ∨ ∃ n, n < 96 ∧ td = nI n) → DOk (dPlace D nm v f td) := by
    intro nm v f td h5 htd
    refine ⟨⟨by show dNp D + 1 ≤ 5; omega, o2, o3, o4, o5, o6⟩, fun k hk => ?_, fun k hk => ?_, fun k hk => ?_, fun j hj => ?_, fun h hh => ?_⟩
    · have hk : k < dNp D + 1 := hk
      simp only [dPlace, dR_mk, zu_at]
      by_cases e : k = dNp D
      · simp [e]; exact htd
      · simp [e]; exact otd k (by omega)
    · simp only [dPlace, dR_mk, zu_at]; simp; exact oco k hk
    · simp only [dPlace, dR_mk, zu_at]; simpa using osk k hk
    · simp only [dPlace, dR_mk, zu_at]; simp; exact ose j hj
    · exact ola h hh
  unfold gPlace at h
  split at h
  · cases h
  · rename_i h5
    split at h
    · split at h
      · split at h
        · cases h
        · rename_i v _
          split at h
          · cases h
          · rename_i f _
            split at h
            · split at h
              · cases h
              · rename_i y hy
                cases h
                have := gN_inr ht5 hy
                exact ⟨hp _ _ _ _ (by omega) (Or.inr ⟨y, by omega, rfl⟩), tBe_s ht (tBe_s ht1 (tBe_s ht2 (tBe_s ht3 (tBe_s ht4 (tBe_0 ht5)))))⟩
            · cases h
              exact ⟨hp _ _ _ _ (by omega) (Or.inl rfl), tBe_s ht (tBe_s ht1 (tBe_s ht2 (tBe_0 ht3)))⟩
      · cases h
    · cases h
theorem gCome_ok (ht : tOk E t) (hO : DOk D) (h : gCome E D t = .inr (t', D')) : DOk D' ∧ tBe E t t' := by
  have ht1 := tOk_nx ht
  have ht2 := tOk_nx ht1
  obtain ⟨⟨o1, o2, o3, o4, o5, o6⟩, otd, oco, osk, ose, ola⟩ := hO
  unfold gCome at h
  split at h
  · cases h
  · rename_i h5
    split at h
    · cases h
    · rename_i x _
      split at h
      · cases h
      · rename_i y hy
        cases h
        have hb := gN_inr ht2 hy
        refine ⟨⟨⟨o1, by show dNc D + 1 ≤ 16; omega, o3, o4, o5, o6⟩, fun k hk => ?_, fun k hk => ?_, fun k hk => ?_, fun j hj => ?_, fun h hh => ?_⟩, tBe_s ht (tBe_s ht1 (tBe_0 ht2))⟩
        · simp only [dCome, dR_mk, zu_at]; simp; exact otd k hk
        · have hk : k < dNc D + 1 := hk
          simp only [dCome, dR_mk, zu_at]
          by_cases e : k = dNc D
          · simp [e]; exact ⟨y, by omega, rfl⟩
          · simp [e]; exact oco k (by omega)
        · simp only [dCome, dR_mk, zu_at]; simpa using osk k hk
        · simp only [dCome, dR_mk, zu_at]; simp; exact ose j hj
        · exact ola h hh
theorem gSky_ok (ht : tOk E t) (hO : DOk D) (h : gSky E D t = .inr (t', D')) : DOk D' ∧ tBe E t t' := by
  have ht1 := tOk_nx ht
  have ht2 := tOk_nx ht1
  obtain ⟨⟨o1, o2, o3, o4, o5, o6⟩, otd, oco, osk, ose, ola⟩ := hO
  unfold gSky at h
  split at h
  · cases h
  · rename_i h5
    split at h
    · cases h
    · rename_i x hx
      split at h
      · rename_i hno
        split at h
        · cases h
        · rename_i y hy
          cases h
          have ha := gN_inr ht1 hx
          have hb := gN_inr ht2 hy
          have hsk := oSkD_no (n := dNs D) (x := nI x) (tk := dR D 96) (kk := dR D 97) (fun j hj => by
            obtain ⟨⟨a, b, -, hb, -, e⟩, -⟩ := osk j hj
            rw [e]; exact fun z => nI_m1 (by omega) z.symm)
          rw [nI_clamp (by omega)] at hsk
          have hne := hsk.mp hno
          refine ⟨⟨⟨o1, o2, by show dNs D + 1 ≤ 12; omega, o4, o5, o6⟩, fun k hk => ?_, fun k hk => ?_, fun k hk => ?_, fun j hj => ?_, fun h hh => ?_⟩, tBe_s ht (tBe_s ht1 (tBe_0 ht2))⟩
          · simp only [dSky, dR_mk, zu_at]; simp; exact otd k hk
          · simp only [dSky, dR_mk, zu_at]; simp; exact oco k hk
          · have hk : k < dNs D + 1 := hk
            simp only [dSky, dR_mk, zu_at]
            by_cases e : k = dNs D
            · subst e
              simp
              refine ⟨⟨x, by omega, y, by omega, rfl, rfl⟩, fun j hj => ?_⟩
              exact ⟨by omega, hne j hj⟩
            · simp [e]
              obtain ⟨⟨a, b, g1, g2, g3, g4⟩, g5⟩ := osk k (by omega)
              refine ⟨⟨a, g1, b, g2, g3, g4⟩, fun j hj => ?_⟩
              rw [if_neg (by omega)]
              exact g5 j hj
          · simp only [dSky, dR_mk, zu_at]; simp; exact ose j hj
          · exact ola h hh
      · cases h
theorem gBand_ok (ht : tOk E t) (hO : DOk D) (h : gBand E D t = .inr (t', D')) : DOk D' ∧ tBe E t t' := by
  have ht1 := tOk_nx ht
  have ht2 := tOk_nx ht1
  have ht3 := tOk_nx ht2
  obtain ⟨⟨o1, o2, o3, o4, o5, o6⟩, otd, oco, osk, ose, ola⟩ := hO
  unfold gBand at h
  split at h
  · cases h
  · rename_i h5
    split at h
    · split at h
      · cases h
      · split at h
        · cases h
        · split at h
          · cases h
          · cases h
            refine ⟨⟨⟨o1, o2, o3, by show dNb D + 1 ≤ 2; omega, o5, o6⟩, fun k hk => ?_, fun k hk => ?_, fun k hk => ?_, fun j hj => ?_, fun h hh => ?_⟩, tBe_s ht (tBe_s ht1 (tBe_s ht2 (tBe_0 ht3)))⟩
            · simp only [dBand, dR_mk, zu_at]; simp; exact otd k hk
            · simp only [dBand, dR_mk, zu_at]; simp; exact oco k hk
            · simp only [dBand, dR_mk, zu_at]; simpa using osk k hk
            · simp only [dBand, dR_mk, zu_at]; simp; exact ose j hj
            · exact ola h hh
    · cases h
theorem gSign_ok (ht : tOk E t) (hO : DOk D) (h : gSign E D t = .inr (t', D')) : DOk D' ∧ tBe E t t' := by
  have ht1 := tOk_nx ht
  obtain ⟨⟨o1, o2, o3, o4, o5, o6⟩, otd, oco, osk, ose, ola⟩ := hO
  unfold gSign at h
  split at h
  · cases h
  · rename_i h5
    split at h
    · split at h
      · cases h
        refine ⟨⟨⟨o1, o2, o3, o4, by show dNg D + 1 ≤ 4; omega, o6⟩, fun k hk => ?_, fun k hk => ?_, fun k hk => ?_, fun j hj => ?_, fun h hh => ?_⟩, tBe_s ht (tBe_0 ht1)⟩
        · simp only [dSign, dR_mk, zu_at]; simp; exact otd k hk
        · simp only [dSign, dR_mk, zu_at]; simp; exact oco k hk
        · simp only [dSign, dR_mk, zu_at]; simpa using osk k hk
        · simp only [dSign, dR_mk, zu_at]; simp; exact ose j hj
        · exact ola h hh
      · cases h
    · cases h
theorem gSet_ok (hj : j < 7) (ht : tOk E t) (hO : DOk D) (h : gSet E D j t = .inr (t', D')) : DOk D' ∧ tBe E t t' := by
  have ht1 := tOk_nx ht
  obtain ⟨⟨o1, o2, o3, o4, o5, o6⟩, otd, oco, osk, ose, ola⟩ := hO
  unfold gSet at h
  split at h
  · cases h
  · split at h
    · cases h
    · rename_i v hv
      cases h
      have hb := gN_inr ht1 hv
      refine ⟨⟨⟨o1, o2, o3, o4, o5, o6⟩, fun k hk => ?_, fun k hk => ?_, fun k hk => ?_, fun i hi => ?_, fun h hh => ?_⟩, tBe_s ht (tBe_0 ht1)⟩
      · simp only [dSet, dR_mk, zu_at]; simp; exact otd k hk
      · simp only [dSet, dR_mk, zu_at]; simp; exact oco k hk
      · simp only [dSet, dR_mk, zu_at]; simpa using osk k hk
      · simp only [dSet, dR_mk, zu_at]
        by_cases e : i = j
        · subst e; simp; exact ⟨v, hb.1, hb.2.1, rfl⟩
        · have e2 : ¬ sIx i = sIx j := fun z => e (sIx_inj i hi j hj z)
          simp [e2]; exact ose i hi
      · exact ola h hh
theorem gLaw_ok (ht : tOk E t) (hO : DOk D) (h : gLaw E D t = .inr (t', D')) : DOk D' ∧ tBe E t t' := by
  have ht1 := tOk_nx ht
  have ht2 := tOk_nx ht1
  have hF0 := FOk_0 (D := D) hO.1.2.2.2.2.2
  obtain ⟨⟨o1, o2, o3, o4, o5, o6⟩, otd, oco, osk, ose, ola⟩ := hO
  unfold gLaw at h
  split at h
  · rename_i hk
    split at h
    · cases h
    · split at h
      · cases h
      · rename_i t2 S hs
        cases h
        obtain ⟨hS, hw⟩ := fSum_ok 700 _ _ true hF0 hs
        obtain ⟨s1, s2, s3, s4, s5, s6, s7, s8, s9, s10⟩ := hS
        rw [hw] at s1 s6
        simp only [nbk, Nat.add_zero] at s1
        simp only [bin, Bool.false_eq_true, if_false, Nat.zero_add] at s6
        obtain ⟨s81, s82⟩ := s8 rfl
        have hr : ∀ i, i ≠ 107 → i ≠ 108 → i ≠ 109 → S.2.2.1 i = dR D i := fun i g1 g2 g3 => funext fun k => s10 i k (by omega)
        have hlo : ∀ i k, k < dNk D → S.2.2.1 i k = dR D i k := fun i k g => s10 i k (by omega)
        have eh : S.2.1 = [S.2.2.2.1 - 1] := by
          match hq : S.2.1, s6, s82 with
          | [q], _, s82 => simp at s82; rw [s82]
        refine ⟨⟨⟨o1, o2, o3, o4, o5, s2⟩, fun k hk => ?_, fun k hk => ?_, fun k hk => ?_, fun j hj => ?_, fun h hh htd => ?_⟩, ?_⟩
        · show S.2.2.1 93 k = -1 ∨ ∃ n, n < 96 ∧ S.2.2.1 93 k = nI n
          rw [hr 93 (by omega) (by omega) (by omega)]; exact otd k hk
        · show ∃ n, n ≤ 20 ∧ S.2.2.1 95 k = nI n
          rw [hr 95 (by omega) (by omega) (by omega)]; exact oco k hk
        · show (∃ n x, n < 96 ∧ x ≤ 2 ∧ S.2.2.1 96 k = nI n ∧ S.2.2.1 97 k = nI x) ∧ ∀ j, j < k → ¬ S.2.2.1 96 j = S.2.2.1 96 k
          rw [hr 96 (by omega) (by omega) (by omega), hr 97 (by omega) (by omega) (by omega)]; exact osk k hk
        · show ∃ v, sLo j ≤ v ∧ v ≤ sHi j ∧ S.2.2.1 102 (sIx j) = nI v
          rw [hr 102 (by omega) (by omega) (by omega)]; exact ose j hj
        · generalize hq : tKd (tNx E t) - 41 = q at htd ⊢
          have htd : (if h = q then true else dTold D h) = true := htd
          show (if h = q then dNk D else dF D h) < (if h = q then S.2.2.2.1 else dT D h) ∧ (if h = q then S.2.2.2.1 else dT D h) ≤ S.2.2.2.2 ∧ jPos (S.2.2.1 107) (S.2.2.1 108) (S.2.2.1 109) (if h = q then dNk D else dF D h) ((if h = q then S.2.2.2.1 else dT D h) - (if h = q then dNk D else dF D h)) = some [(if h = q then S.2.2.2.1 else dT D h) - 1] ∧ ∀ i, (if h = q then dNk D else dF D h) ≤ i → i < (if h = q then S.2.2.2.1 else dT D h) → ∃ k, k ≤ 14 ∧ S.2.2.1 107 i = nI k ∧ (k = 0 → ∃ n, n ≤ 9999 ∧ S.2.2.1 108 i = nI n) ∧ (k = 1 → ∃ n, n < 8 ∧ S.2.2.1 108 i = nI n)
          by_cases e : h = q
          · simp only [e, if_true]
            rw [s5, eh]
            exact ⟨s81, by omega, rfl, s9⟩
          · simp only [e, if_false] at htd ⊢
            obtain ⟨a1, a2, a3, a4⟩ := ola h hh htd
            refine ⟨a1, by omega, ?_, fun i g1 g2 => ?_⟩
            · rw [← a3]
              exact jPos_ext (fun i hi => ⟨hlo _ _ (by omega), hlo _ _ (by omega), hlo _ _ (by omega)⟩)
            · rw [hlo 107 i (by omega), hlo 108 i (by omega)]; exact a4 i g1 g2
        · rcases fSum_be 700 _ _ true ht2 hs with e | e
          · rw [e]; exact tBe_s ht (tBe_0 ht1)
          · exact tBe_s ht (tBe_s ht1 e)
  · cases h
theorem gLine_ok (ht : tOk E t) (hO : DOk D) (h : gLine E D t = .inr (t', D')) : DOk D' ∧ tBe E t t' := by
  unfold gLine at h
  split at h
  · exact gPlace_ok ht hO h
  · split at h
    · exact gCome_ok ht hO h
    · split at h
      · exact gSky_ok ht hO h
      · split at h
        · exact gBand_ok ht hO h
        · split at h
          · exact gSign_ok ht hO h
          · split at h
            · exact gLaw_ok ht hO h
            · split at h
              · rename_i hk
                exact gSet_ok (by omega) ht hO h
              · cases h
end ZN98zh
