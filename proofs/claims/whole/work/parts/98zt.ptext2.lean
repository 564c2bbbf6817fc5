/-! ===== TEXT: the pair ===== -/
def zLw2 (i k : Nat) : Prop := (90 ≤ i ∧ i ≤ 93 ∧ k < 5) ∨ ((i = 94 ∨ i = 95) ∧ k < 16) ∨ ((i = 96 ∨ i = 97) ∧ k < 12) ∨ (98 ≤ i ∧ i ≤ 100 ∧ k < 2) ∨ (i = 101 ∧ k < 4) ∨ (i = 102 ∧ k < 16) ∨ (104 ≤ i ∧ i ≤ 106 ∧ k < 3) ∨ (107 ≤ i ∧ i ≤ 109 ∧ k < 64)
section ZN98zt
variable {w : zP} {Q : Option Value → zMem → Prop} {I J M I1 I2 : Nat → Nat → Int32} {L K L1 L2 : Nat → Nat → Int64} {p s : Nat} {r : Option Nat} {P P' : oPn} {V V' : Nat → Nat → Int32} {d d' : Int64} {t kc t' kc' : Nat} {rt : oRt} {u : oUd} {bb : oBk} {T : oTp} {hm : Bool} {X : oIm} {f1 f2 g1 g2 : Int32} {D : oDf} {i k n ch : Nat} {x : Int32} {R' : Nat → Nat → Int32}
theorem POk_low (h : POk P) (hl : ∀ i k, zLw2 i k → R' i k = pR P i k) : POk (R', P.2) := by
  obtain ⟨o1, o2, o3, o4, o5, o6, o7, o8⟩ := h
  refine ⟨o1, o2, o3, o4, o5, (hl 102 1 (by unfold zLw2; omega)).trans o6, fun h hh => ?_, fun k hk => ?_⟩
  · obtain ⟨l1, l2⟩ := o7 h hh
    refine ⟨(hl 104 h (by unfold zLw2; omega)).trans l1, fun z => ?_⟩
    obtain ⟨a1, a2, a3, a4, a5, a6⟩ := l2 z
    refine ⟨(hl 105 h (by unfold zLw2; omega)).trans a1, (hl 106 h (by unfold zLw2; omega)).trans a2, a3, a4, ?_, fun i b1 b2 b3 => ?_⟩
    · rw [← a5]
      have a4 : pT (R', P.2) h ≤ 64 := a4
      have a3 : pF (R', P.2) h < pT (R', P.2) h := a3
      exact jPos_ext (fun i hi => ⟨hl _ _ (by unfold zLw2; omega), hl _ _ (by unfold zLw2; omega), hl _ _ (by unfold zLw2; omega)⟩)
    · have a4 : pT P h ≤ 64 := a4
      have b2 : i < pT P h := b2
      have e := hl 108 i (by unfold zLw2; omega)
      have e2 := hl 107 i (by unfold zLw2; omega)
      have b3 : R' 107 i = 1 := b3
      show vp_in (R' 108 i) 8
      rw [e]; exact a6 i b1 b2 (by rw [← e2]; exact b3)
  · have hk : k < pNc P := hk
    show ∃ n, n ≤ 20 ∧ R' 95 k = nI n
    rw [hl 95 k (by unfold zLw2; omega)]; exact o8 k hk
theorem POk2_low (h : POk P) (h2 : POk2 P) (hl : ∀ i k, zLw2 i k → R' i k = pR P i k) : POk2 (R', P.2) := by
  obtain ⟨o1, o2, o3, o4, o5, o6, o7, o8⟩ := h
  obtain ⟨b1, b2, b3, b4, b5⟩ := h2
  refine ⟨b1, fun k hk => ?_, fun h hh z i g1 g2 => ?_, fun k hk => ?_, ?_⟩
  · have hk : k < pNp P := hk
    show R' 93 k = -1 ∨ ∃ n, n < 96 ∧ R' 93 k = nI n
    rw [hl 93 k (by unfold zLw2; omega)]; exact b2 k hk
  · have g2 : i < pT P h := g2
    have a4 : pT P h ≤ 64 := ((o7 h hh).2 z).2.2.2.1
    show ∃ k, k ≤ 14 ∧ R' 107 i = nI k ∧ (k = 0 → ∃ n, n ≤ 9999 ∧ R' 108 i = nI n)
    rw [hl 107 i (by unfold zLw2; omega), hl 108 i (by unfold zLw2; omega)]; exact b3 h hh z i g1 g2
  · have hk : k < pNs P := hk
    show ∃ n x, n < 96 ∧ x ≤ 2 ∧ R' 96 k = nI n ∧ R' 97 k = nI x
    rw [hl 96 k (by unfold zLw2; omega), hl 97 k (by unfold zLw2; omega)]; exact b4 k hk
  · show 0 < (R' 102 8).toInt
    rw [hl 102 8 (by unfold zLw2; omega)]; exact b5
theorem pAg_low (h : POk P) (h2 : POk2 P) (hl : ∀ i k, zLw2 i k → R' i k = pR P i k) : pAg P (R', P.2) := by
  obtain ⟨o1, o2, o3, o4, o5, o6, o7, o8⟩ := h
  have b1 := h2.1
  refine ⟨rfl, fun k hk => ⟨hl _ _ (by unfold zLw2; omega), hl _ _ (by unfold zLw2; omega), hl _ _ (by unfold zLw2; omega), hl _ _ (by unfold zLw2; omega)⟩, fun k hk => ⟨hl _ _ (by unfold zLw2; omega), hl _ _ (by unfold zLw2; omega)⟩, fun k hk => ⟨hl _ _ (by unfold zLw2; omega), hl _ _ (by unfold zLw2; omega)⟩, fun k hk => ⟨hl _ _ (by unfold zLw2; omega), hl _ _ (by unfold zLw2; omega), hl _ _ (by unfold zLw2; omega)⟩, fun k hk => hl _ _ (by unfold zLw2; omega), fun j hj => hl _ _ (by have := sIx_r j hj; unfold zLw2; omega), fun h hh z i hi => ?_⟩
  have a4 : pT P h ≤ 64 := ((o7 h hh).2 z).2.2.2.1
  exact ⟨hl _ _ (by unfold zLw2; omega), hl _ _ (by unfold zLw2; omega), hl _ _ (by unfold zLw2; omega)⟩
theorem FrOk_low (hl : ∀ i k, zLw2 i k → R' i k = pR P i k) (h : FrOk P V t kc rt) : FrOk (R', P.2) V t kc rt := by
  obtain ⟨a, b, c, cr, e1, e2, e3⟩ := h
  refine ⟨?_, b, c, cr, e1, e2, (hl 102 7 (by unfold zLw2; omega)).trans e3⟩
  show oOk (pCh P) (pNp P) (R' 102 8) V
  rw [hl 102 8 (by unfold zLw2; omega)]; exact a
theorem inv_fail (hs : zPc s) (hps : p ≠ s) (h : zIw I L p P V d t kc rt u bb T hm X f1 f2) (k1 : zKpt (SXt s) I I1) (h12 : I1 1 2 = 0) (h10 : I1 4 10 = g1) (h11 : I1 4 11 = g2) (k2 : zKpt SXr I1 I2) (h1 : I2 87 1 = 0) (h4 : I2 87 4 = g1) (h5 : I2 87 5 = g2) : zInM (SH, I2, L, RF p s r) := by
  obtain ⟨⟨hp, hO, hO2, hcl, hfr, hF⟩, ⟨-, -, ⟨rr, q12, q13, q14, q15⟩, ⟨q16, q17⟩, hrf, -⟩, hD, hU, hX, hY, hz⟩ := h
  have s8 : 54 < s ∧ s < 72 := by rcases hs with rfl | rfl <;> omega
  -- cells of the class that stay
  have lo : ∀ i k, i < 87 → ¬ SXt s i k → I2 i k = I i k := fun i k hi hn => (k2 i k (by unfold SXr SPr; omega)).trans (k1 i k hn)
  have lor : ∀ i, i = 3 ∨ i = 8 ∨ (10 ≤ i ∧ i ≤ 54 ∧ i < s) ∨ (p ≤ i ∧ i ≤ p + 15) → I2 i = I i := fun i hi => funext fun k => lo i k (by rcases hp with rfl | rfl <;> rcases hs with rfl | rfl <;> omega) (by unfold SXt SXc; rcases hp with rfl | rfl <;> rcases hs with rfl | rfl <;> omega)
  have hi' : ∀ i k, 87 ≤ i → ¬ SXr i k → I2 i k = I i k := fun i k hi hn => (k2 i k hn).trans (k1 i k (by unfold SXt SXc; omega))
  have hl : ∀ i k, zLw2 i k → I2 i k = pR P i k := fun i k hk => by
    rw [hi' i k (by unfold zLw2 at hk; omega) (by unfold zLw2 at hk; unfold SXr SPr; omega), rr i (by unfold zLw2 at hk; omega) (by unfold zLw2 at hk; omega)]
  have hO' := POk_low hO hl
  have hO2' := POk2_low hO hO2 hl
  have hF' := FrOk_low hl hF
  have hcl' : zClsP I2 p (fun i => I2 i, P.2) := zClsP_ag (pAg_low hO hO2 hl) (zClsP_lo (I := I) (fun j hj => lor _ (by omega)) hcl)
  have e5 : I2 102 5 = pR P 102 5 := hl 102 5 (by unfold zLw2; omega)
  have e87 : ∀ k, ¬ SXr 87 k → I2 87 k = I 87 k := fun k hn => hi' 87 k (by omega) hn
  refine ⟨I2, L, p, s, r, rfl, hs, hps, (fun i => I2 i, P.2), V, d, t, kc, rt, u, bb, (0, T.2), hm, X, g1, g2, ⟨hp, hO', hO2', hcl', zcFr_row (fun j hj => lor _ (by omega)) rfl hfr, hF'⟩, ⟨hO', hO2', ⟨fun i _ _ => rfl, by rw [e87 _ (by unfold SXr SPr; omega)]; exact q12, by rw [e87 _ (by unfold SXr SPr; omega)]; exact q13, by rw [e87 _ (by unfold SXr SPr; omega)]; exact q14, by rw [e87 _ (by unfold SXr SPr; omega)]; exact q15⟩, ⟨by rw [e87 _ (by unfold SXr SPr; omega)]; exact q16, by rw [e87 _ (by unfold SXr SPr; omega)]; exact q17⟩, ?_, hF'⟩, zcDeeds_k (fun i k hi => lo i k (by omega) (by unfold SXt SXc; omega)) rfl hD, zrUndo_t (fun i k hi => hi' i k (by omega) (by unfold SXr SPr; omega)) hU, ?_, ?_, ?_⟩
  · obtain ⟨v1, v2, v3, v4, v5, v6, v7⟩ := hrf
    exact ⟨by rw [vR_k (I := I) (fun i k hk => hi' i k (by omega) (by unfold SXr SPr; omega))]; exact v1, by rw [e87 _ (by unfold SXr SPr; omega)]; exact v2, by rw [e87 _ (by unfold SXr SPr; omega)]; exact v3, by rw [e87 _ (by unfold SXr SPr; omega)]; exact v4, by rw [e87 _ (by unfold SXr SPr; omega)]; exact v5, fun k hk => by rw [hi' 121 k (by omega) (by unfold SXr SPr; omega)]; exact v6 k hk, v7⟩
  · obtain ⟨⟨b1, b2, b3⟩, -, h3, hM, h8, h0, hm', -, -⟩ := hX
    refine ⟨⟨by rw [lo 48 4 (by omega) (by unfold SXt SXc; omega)]; exact b1, by rw [lo 48 5 (by omega) (by unfold SXt SXc; omega)]; exact b2, fun k hk => ?_⟩, ⟨?_, fun i hi => absurd hi (by show ¬ i < 0; omega)⟩, by rw [lor 3 (by omega)]; exact h3, ?_, by rw [lor 8 (by omega)]; exact h8, by rw [lo 0 14 (by omega) (by unfold SXt SXc; omega)]; exact h0, fun q => zcFr_row (fun j hj => lor _ (by omega)) rfl (hm' q), by rw [k2 4 10 (by unfold SXr SPr; omega)]; exact h10, by rw [k2 4 11 (by unfold SXr SPr; omega)]; exact h11⟩
    · rw [lo 51 k (by omega) (by unfold SXt SXc; omega), lo 49 k (by omega) (by unfold SXt SXc; omega), lo 50 k (by omega) (by unfold SXt SXc; omega)]; exact b3 k hk
    · rw [k2 1 2 (by unfold SXr SPr; omega)]; exact h12
    · rw [lor 8 (by omega)]
      have em : mTold (fun i => I2 i, P.2) = mTold P := by
        show (I2 102 5, _) = (pR P 102 5, _)
        rw [e5]
      rw [em]; exact hM
  · obtain ⟨⟨b1, b2, b3⟩, -, hw, h90, him, -, -, hb⟩ := hY
    refine ⟨⟨by rw [e87 _ (by unfold SXr SPr; omega)]; exact b1, by rw [e87 _ (by unfold SXr SPr; omega)]; exact b2, fun k hk => ?_⟩, ⟨h1, fun i hi => absurd hi (by show ¬ i < 0; omega)⟩, fun k hk => by rw [hi' 89 k (by omega) (by unfold SXr SPr; omega)]; exact hw k hk, by rw [e87 _ (by unfold SXr SPr; omega)]; exact h90, fun q => ?_, h4, h5, ?_⟩
    · rw [hi' 129 k (by omega) (by unfold SXr SPr; omega), hi' 130 k (by omega) (by unfold SXr SPr; omega)]; exact b3 k hk
    · obtain ⟨i1, i2, i3, i4, i5, i6, i7, i8, i9⟩ := him q
      exact ⟨fun i c g1 g2 g3 => by rw [hi' _ _ (by omega) (by unfold SXr SPr; omega)]; exact i1 i c g1 g2 g3, fun c hc => by rw [hi' _ _ (by omega) (by unfold SXr SPr; omega)]; exact i2 c hc, by rw [e87 _ (by unfold SXr SPr; omega)]; exact i3, by rw [e87 _ (by unfold SXr SPr; omega)]; exact i4, by rw [e87 _ (by unfold SXr SPr; omega)]; exact i5, by rw [e87 _ (by unfold SXr SPr; omega)]; exact i6, fun k hk => by rw [hi' _ _ (by omega) (by unfold SXr SPr; omega)]; exact i7 k hk, i8, i9⟩
    · exact fun b => by
        by_cases q : 3 ≤ b ∧ b < 6
        · exact Or.inl q
        · rw [hi' 104 b (by omega) (by unfold SXr SPr; omega)]; exact hb b
  · obtain ⟨z1, z2, z3, z4, z5, z6⟩ := hz
    exact ⟨z1, z2, ⟨by show 0 ≤ 700; omega, fun i hi => absurd hi (by show ¬ i < 0; omega)⟩, fun q => ⟨FrOk_low hl (z4 q).1, (z4 q).2⟩, z5, by obtain ⟨n, n1, n2⟩ := z6; exact ⟨n, n1, e5.trans n2⟩⟩
end ZN98zt
