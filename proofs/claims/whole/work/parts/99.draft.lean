section
/-! ===== TEXT: the pair ===== -/
def zLw2 (i k : Nat) : Prop := (90 ≤ i ∧ i ≤ 93 ∧ k < 5) ∨ ((i = 94 ∨ i = 95) ∧ k < 16) ∨ ((i = 96 ∨ i = 97) ∧ k < 12) ∨ (98 ≤ i ∧ i ≤ 100 ∧ k < 2) ∨ (i = 101 ∧ k < 4) ∨ (i = 102 ∧ k < 16) ∨ (104 ≤ i ∧ i ≤ 106 ∧ k < 3) ∨ (107 ≤ i ∧ i ≤ 109 ∧ k < 64)
section ZN98zt
variable {w : zP} {Q : Option Value → zMem → Prop} {I J M I1 I2 : Nat → Nat → Int32} {L K L1 L2 : Nat → Nat → Int64} {p s : Nat} {r : Option Nat} {P P' : oPn} {V V' : Nat → Nat → Int32} {d d' : Int64} {t kc t' kc' : Nat} {rt : oRt} {u : oUd} {bb : oBk} {T : oTp} {hm : Bool} {X : oIm} {f1 f2 g1 g2 : Int32} {D : oDf} {i k n ch : Nat} {x : Int32} {R' : Nat → Nat → Int32}
theorem POk_low (h : POk P) (hl : ∀ i k, zLw2 i k → R' i k = pR P i k) : POk (R', P.2) := by
  obtain ⟨o1, o2, o3, o4, o5, o6, o7, o8⟩ := h
  refine ⟨o1, o2, o3, o4, o5, (hl 102 1 (by unfold zLw2; omega)).trans o6, fun h hh => ?_, fun k hk => ?_⟩
  · obtain ⟨l1, l2⟩ := o7 h hh
    refine ⟨(hl 104 h (by unfold zLw2; omega)).trans l1, fun z => ?_⟩
    obtain ⟨a1, a2, a3, a4, a5, a6⟩ := l2 z
    refine ⟨(hl 105 h (by unfold zLw2; omega)).trans a1, (hl 106 h (by unfold zLw2; omega)).trans a2, a3, a4, ?_, fun i b1 b2 b3 => ?_⟩
    · rw [← a5]
      have a4 : pT (R', P.2) h ≤ 64 := a4
      have a3 : pF (R', P.2) h < pT (R', P.2) h := a3
      exact jPos_ext (fun i hi => ⟨hl _ _ (by unfold zLw2; omega), hl _ _ (by unfold zLw2; omega), hl _ _ (by unfold zLw2; omega)⟩)
    · have a4 : pT P h ≤ 64 := a4
      have b2 : i < pT P h := b2
      have e := hl 108 i (by unfold zLw2; omega)
      have e2 := hl 107 i (by unfold zLw2; omega)
      have b3 : R' 107 i = 1 := b3
      show vp_in (R' 108 i) 8
      rw [e]; exact a6 i b1 b2 (by rw [← e2]; exact b3)
  · have hk : k < pNc P := hk
    show ∃ n, n ≤ 20 ∧ R' 95 k = nI n
    rw [hl 95 k (by unfold zLw2; omega)]; exact o8 k hk
theorem POk2_low (h : POk P) (h2 : POk2 P) (hl : ∀ i k, zLw2 i k → R' i k = pR P i k) : POk2 (R', P.2) := by
  obtain ⟨o1, o2, o3, o4, o5, o6, o7, o8⟩ := h
  obtain ⟨b1, b2, b3, b4, b5⟩ := h2
  refine ⟨b1, fun k hk => ?_, fun h hh z i g1 g2 => ?_, fun k hk => ?_, ?_⟩
  · have hk : k < pNp P := hk
    show R' 93 k = -1 ∨ ∃ n, n < 96 ∧ R' 93 k = nI n
    rw [hl 93 k (by unfold zLw2; omega)]; exact b2 k hk
  · have g2 : i < pT P h := g2
    have a4 : pT P h ≤ 64 := ((o7 h hh).2 z).2.2.2.1
    show ∃ k, k ≤ 14 ∧ R' 107 i = nI k ∧ (k = 0 → ∃ n, n ≤ 9999 ∧ R' 108 i = nI n)
    rw [hl 107 i (by unfold zLw2; omega), hl 108 i (by unfold zLw2; omega)]; exact b3 h hh z i g1 g2
  · have hk : k < pNs P := hk
    show ∃ n x, n < 96 ∧ x ≤ 2 ∧ R' 96 k = nI n ∧ R' 97 k = nI x
    rw [hl 96 k (by unfold zLw2; omega), hl 97 k (by unfold zLw2; omega)]; exact b4 k hk
  · show 0 < (R' 102 8).toInt
    rw [hl 102 8 (by unfold zLw2; omega)]; exact b5
theorem pAg_low (h : POk P) (h2 : POk2 P) (hl : ∀ i k, zLw2 i k → R' i k = pR P i k) : pAg P (R', P.2) := by
  obtain ⟨o1, o2, o3, o4, o5, o6, o7, o8⟩ := h
  have b1 := h2.1
  refine ⟨rfl, fun k hk => ⟨hl _ _ (by unfold zLw2; omega), hl _ _ (by unfold zLw2; omega), hl _ _ (by unfold zLw2; omega), hl _ _ (by unfold zLw2; omega)⟩, fun k hk => ⟨hl _ _ (by unfold zLw2; omega), hl _ _ (by unfold zLw2; omega)⟩, fun k hk => ⟨hl _ _ (by unfold zLw2; omega), hl _ _ (by unfold zLw2; omega)⟩, fun k hk => ⟨hl _ _ (by unfold zLw2; omega), hl _ _ (by unfold zLw2; omega), hl _ _ (by unfold zLw2; omega)⟩, fun k hk => hl _ _ (by unfold zLw2; omega), fun j hj => hl _ _ (by have := sIx_r j hj; unfold zLw2; omega), fun h hh z i hi => ?_⟩
  have a4 : pT P h ≤ 64 := ((o7 h hh).2 z).2.2.2.1
  exact ⟨hl _ _ (by unfold zLw2; omega), hl _ _ (by unfold zLw2; omega), hl _ _ (by unfold zLw2; omega)⟩
theorem FrOk_low (hl : ∀ i k, zLw2 i k → R' i k = pR P i k) (h : FrOk P V t kc rt) : FrOk (R', P.2) V t kc rt := by
  obtain ⟨a, b, c, cr, e1, e2, e3⟩ := h
  refine ⟨?_, b, c, cr, e1, e2, (hl 102 7 (by unfold zLw2; omega)).trans e3⟩
  show oOk (pCh P) (pNp P) (R' 102 8) V
  rw [hl 102 8 (by unfold zLw2; omega)]; exact a
theorem inv_fail (hs : zPc s) (hps : p ≠ s) (h : zIw I L p P V d t kc rt u bb T hm X f1 f2) (k1 : zKpt (SXt s) I I1) (h12 : I1 1 2 = 0) (h10 : I1 4 10 = g1) (h11 : I1 4 11 = g2) (k2 : zKpt SXr I1 I2) (h1 : I2 87 1 = 0) (h4 : I2 87 4 = g1) (h5 : I2 87 5 = g2) : zInM (SH, I2, L, RF p s r) := by
  obtain ⟨⟨hp, hO, hO2, hcl, hfr, hF⟩, ⟨-, -, ⟨rr, q12, q13, q14, q15⟩, ⟨q16, q17⟩, hrf, -⟩, hD, hU, hX, hY, hz⟩ := h
  have s8 : 54 < s ∧ s < 72 := by rcases hs with rfl | rfl <;> omega
  -- cells of the class that stay
  have lo : ∀ i k, i < 87 → ¬ SXt s i k → I2 i k = I i k := fun i k hi hn => (k2 i k (by unfold SXr SPr; omega)).trans (k1 i k hn)
  have lor : ∀ i, i = 3 ∨ i = 8 ∨ (10 ≤ i ∧ i ≤ 54 ∧ i < s) ∨ (p ≤ i ∧ i ≤ p + 15) → I2 i = I i := fun i hi => funext fun k => lo i k (by rcases hp with rfl | rfl <;> rcases hs with rfl | rfl <;> omega) (by unfold SXt SXc; rcases hp with rfl | rfl <;> rcases hs with rfl | rfl <;> omega)
  have hi' : ∀ i k, 87 ≤ i → ¬ SXr i k → I2 i k = I i k := fun i k hi hn => (k2 i k hn).trans (k1 i k (by unfold SXt SXc; omega))
  have hl : ∀ i k, zLw2 i k → I2 i k = pR P i k := fun i k hk => by
    rw [hi' i k (by unfold zLw2 at hk; omega) (by unfold zLw2 at hk; unfold SXr SPr; omega), rr i (by unfold zLw2 at hk; omega) (by unfold zLw2 at hk; omega)]
  have hO' := POk_low hO hl
  have hO2' := POk2_low hO hO2 hl
  have hF' := FrOk_low hl hF
  have hcl' : zClsP I2 p (fun i => I2 i, P.2) := zClsP_ag (pAg_low hO hO2 hl) (zClsP_lo (I := I) (fun j hj => lor _ (by omega)) hcl)
  have e5 : I2 102 5 = pR P 102 5 := hl 102 5 (by unfold zLw2; omega)
  have e87 : ∀ k, ¬ SXr 87 k → I2 87 k = I 87 k := fun k hn => hi' 87 k (by omega) hn
  refine ⟨I2, L, p, s, r, rfl, hs, hps, (fun i => I2 i, P.2), V, d, t, kc, rt, u, bb, (0, T.2), hm, X, g1, g2, ⟨hp, hO', hO2', hcl', zcFr_row (fun j hj => lor _ (by omega)) rfl hfr, hF'⟩, ⟨hO', hO2', ⟨fun i _ _ => rfl, by rw [e87 _ (by unfold SXr SPr; omega)]; exact q12, by rw [e87 _ (by unfold SXr SPr; omega)]; exact q13, by rw [e87 _ (by unfold SXr SPr; omega)]; exact q14, by rw [e87 _ (by unfold SXr SPr; omega)]; exact q15⟩, ⟨by rw [e87 _ (by unfold SXr SPr; omega)]; exact q16, by rw [e87 _ (by unfold SXr SPr; omega)]; exact q17⟩, ?_, hF'⟩, zcDeeds_k (fun i k hi => lo i k (by omega) (by unfold SXt SXc; omega)) rfl hD, zrUndo_t (fun i k hi => hi' i k (by omega) (by unfold SXr SPr; omega)) hU, ?_, ?_, ?_⟩
  · obtain ⟨v1, v2, v3, v4, v5, v6, v7⟩ := hrf
    exact ⟨by rw [vR_k (I := I) (fun i k hk => hi' i k (by omega) (by unfold SXr SPr; omega))]; exact v1, by rw [e87 _ (by unfold SXr SPr; omega)]; exact v2, by rw [e87 _ (by unfold SXr SPr; omega)]; exact v3, by rw [e87 _ (by unfold SXr SPr; omega)]; exact v4, by rw [e87 _ (by unfold SXr SPr; omega)]; exact v5, fun k hk => by rw [hi' 121 k (by omega) (by unfold SXr SPr; omega)]; exact v6 k hk, v7⟩
  · obtain ⟨⟨b1, b2, b3⟩, -, h3, hM, h8, h0, hm', -, -⟩ := hX
    refine ⟨⟨by rw [lo 48 4 (by omega) (by unfold SXt SXc; omega)]; exact b1, by rw [lo 48 5 (by omega) (by unfold SXt SXc; omega)]; exact b2, fun k hk => ?_⟩, ⟨?_, fun i hi => absurd hi (by show ¬ i < 0; omega)⟩, by rw [lor 3 (by omega)]; exact h3, ?_, by rw [lor 8 (by omega)]; exact h8, by rw [lo 0 14 (by omega) (by unfold SXt SXc; omega)]; exact h0, fun q => zcFr_row (fun j hj => lor _ (by omega)) rfl (hm' q), by rw [k2 4 10 (by unfold SXr SPr; omega)]; exact h10, by rw [k2 4 11 (by unfold SXr SPr; omega)]; exact h11⟩
    · rw [lo 51 k (by omega) (by unfold SXt SXc; omega), lo 49 k (by omega) (by unfold SXt SXc; omega), lo 50 k (by omega) (by unfold SXt SXc; omega)]; exact b3 k hk
    · rw [k2 1 2 (by unfold SXr SPr; omega)]; exact h12
    · rw [lor 8 (by omega)]
      have em : mTold (fun i => I2 i, P.2) = mTold P := by
        show (I2 102 5, _) = (pR P 102 5, _)
        rw [e5]
      rw [em]; exact hM
  · obtain ⟨⟨b1, b2, b3⟩, -, hw, h90, him, -, -, hb⟩ := hY
    refine ⟨⟨by rw [e87 _ (by unfold SXr SPr; omega)]; exact b1, by rw [e87 _ (by unfold SXr SPr; omega)]; exact b2, fun k hk => ?_⟩, ⟨h1, fun i hi => absurd hi (by show ¬ i < 0; omega)⟩, fun k hk => by rw [hi' 89 k (by omega) (by unfold SXr SPr; omega)]; exact hw k hk, by rw [e87 _ (by unfold SXr SPr; omega)]; exact h90, fun q => ?_, h4, h5, ?_⟩
    · rw [hi' 129 k (by omega) (by unfold SXr SPr; omega), hi' 130 k (by omega) (by unfold SXr SPr; omega)]; exact b3 k hk
    · obtain ⟨i1, i2, i3, i4, i5, i6, i7, i8, i9⟩ := him q
      exact ⟨fun i c g1 g2 g3 => by rw [hi' _ _ (by omega) (by unfold SXr SPr; omega)]; exact i1 i c g1 g2 g3, fun c hc => by rw [hi' _ _ (by omega) (by unfold SXr SPr; omega)]; exact i2 c hc, by rw [e87 _ (by unfold SXr SPr; omega)]; exact i3, by rw [e87 _ (by unfold SXr SPr; omega)]; exact i4, by rw [e87 _ (by unfold SXr SPr; omega)]; exact i5, by rw [e87 _ (by unfold SXr SPr; omega)]; exact i6, fun k hk => by rw [hi' _ _ (by omega) (by unfold SXr SPr; omega)]; exact i7 k hk, i8, i9⟩
    · exact fun b => by
        by_cases q : 3 ≤ b ∧ b < 6
        · exact Or.inl q
        · rw [hi' 104 b (by omega) (by unfold SXr SPr; omega)]; exact hb b
  · obtain ⟨z1, z2, z3, z4, z5, z6⟩ := hz
    exact ⟨z1, z2, ⟨by show 0 ≤ 700; omega, fun i hi => absurd hi (by show ¬ i < 0; omega)⟩, fun q => ⟨FrOk_low hl (z4 q).1, (z4 q).2⟩, z5, by obtain ⟨n, n1, n2⟩ := z6; exact ⟨n, n1, e5.trans n2⟩⟩
end ZN98zt
end

section
/-! ===== TEXT: the pair; the first memory ===== -/
section ZN98zu
variable {w : zP} {Q : Option Value → zMem → Prop} {I J M I1 I2 : Nat → Nat → Int32} {L K L1 L2 : Nat → Nat → Int64} {p s : Nat} {r : Option Nat} {P P' : oPn} {V V' : Nat → Nat → Int32} {d d' : Int64} {t kc t' kc' : Nat} {rt : oRt} {u : oUd} {bb : oBk} {T : oTp} {hm : Bool} {X : oIm} {f1 f2 g1 g2 : Int32} {D : oDf} {i k n ch : Nat} {x : Int32} {R' : Nat → Nat → Int32}
theorem pr_text (hw : zOk w) (hs : zPc s) (hps : p ≠ s) (h : zIw I L p P V d t kc rt u bb T hm X f1 f2) (hQ : ∀ a μ1, zRe w mX10_text rX10_text [.ref 87, .int x] μ1 a → Q (some a) μ1) : zXM w mX9_text rX9_text [.ref 0, .int x] (SH, I, L, RF p s r) Q := by
  have hp := h.1.1
  have hTO : TpOk T := h.zz.2.2.1
  have hX := h.2.2.2.2.1
  have hY := h.2.2.2.2.2.1
  have hT7 := hTO.1
  obtain ⟨y1, y2⟩ := hY.2.1
  have bad : ∀ n, x = nI n → n ≤ T.1 → ¬ (x < 0 ∨ nI T.1 < x) := fun n e hn => by
    rw [e, show (0 : Int32) = nI 0 from rfl, zlt_nat (by omega) (by omega), zlt_nat (by omega) (by omega)]; omega
  have same : ∀ n m, x = nI n → n ≤ T.1 → x = nI m → m ≤ T.1 → n = m := fun n m e hn e2 hm => (nI_eq (by omega) (by omega)).mp (e.symm.trans e2)
  have s8 : 8 < s ∧ s ≤ 71 := by rcases hs with rfl | rfl <;> omega
  refine cl_text (W := zWt) hw hp hs hX.2.2.1 hX.2.1 hTO (fun hb => hQ _ _ (fun Q2 hQ2 => ?_)) (fun n f I1 ex hn e1 k1 g1 g2 g3 => hQ _ _ (fun Q2 hQ2 => ?_)) (fun n D q I1 ex hn e1 hq k1 g1 g2 hO g3 g4 => hQ _ _ (fun Q2 hQ2 => ?_))
  · exact mo_text (W := zWt) hY.2.2.1 zTok_ok hY.2.2.2.2.2.2.2 hY.2.1 hTO (fun _ => hQ2 _ (zIw_inv hs hps (zIw_t2 h))) (fun n f I2 ex hn _ _ _ _ _ _ => absurd hb (bad n ex hn)) (fun n D q I2 ex hn _ _ _ _ _ _ => absurd hb (bad n ex hn))
  · have hi : ∀ i k, 87 ≤ i → I1 i k = I i k := fun i k hi => k1 i k (by unfold SXt SXc; omega)
    refine mo_text (W := zWt) (T := T) (fun k hk => by rw [hi _ _ (by omega)]; exact hY.2.2.1 k hk) zTok_ok (fun b => by rw [hi _ _ (by omega)]; exact hY.2.2.2.2.2.2.2 b) ⟨by rw [hi _ _ (by omega)]; exact y1, fun i hi' => by rw [hi _ _ (by omega)]; exact y2 i hi'⟩ hTO (fun hb => absurd hb (bad n ex hn)) (fun n2 f2 I2 ex2 hn2 e2 k2 b1 b2 b4 b5 => ?_) (fun n2 D2 q2 I2 ex2 hn2 e2 _ _ _ _ _ => ?_)
    · have en := same n n2 ex hn ex2 hn2
      subst en
      rw [e1] at e2
      cases e2
      exact hQ2 _ (inv_fail hs hps h k1 g1 g2 g3 k2 b1 b4 b5)
    · have en := same n n2 ex hn ex2 hn2
      subst en
      rw [e1] at e2
      cases e2
  · have hi : ∀ i k, 87 ≤ i → zBegin I1 s i k = I i k := fun i k hi => by rw [zBeg_lo (by omega)]; exact k1 i k (by unfold SXt SXc; omega)
    refine mo_text (W := zWt) (T := T) (fun k hk => by rw [hi _ _ (by omega)]; exact hY.2.2.1 k hk) zTok_ok (fun b => by rw [hi _ _ (by omega)]; exact hY.2.2.2.2.2.2.2 b) ⟨by rw [hi _ _ (by omega)]; exact y1, fun i hi' => by rw [hi _ _ (by omega)]; exact y2 i hi'⟩ hTO (fun hb => absurd hb (bad n ex hn)) (fun n2 f2 I2 ex2 hn2 e2 _ _ _ _ _ => ?_) (fun n2 D2 q2 I2 ex2 hn2 e2 k2 b1 b2 hD hO2 => ?_)
    · have en := same n n2 ex hn ex2 hn2
      subst en
      rw [e1] at e2
      cases e2
    · have en := same n n2 ex hn ex2 hn2
      subst en
      rw [e1] at e2
      cases e2
      refine hQ2 _ ⟨_, _, s, p, some s, rfl, inv_begin (D := D) hs hp (Ne.symm hps) g2 hO ?_ g1 g3 g4 (fun i k hi' => k2 i k (by unfold SXr SPr; omega)) hD (fun k hk => ?_) b1 (fun _ _ _ => rfl)⟩
      · rw [← hX.2.2.1]; funext k; exact k1 3 k (by unfold SXt SXc; omega)
      · rw [k2 89 k (by unfold SXr SPr; omega), hi _ _ (by omega)]; exact hY.2.2.1 k hk
theorem zIp_lo (h : i < 71) : zIp I 71 i k = I i k := by
  have n : ∀ c, 71 ≤ c → (i = c) = False := fun c hc => eq_false (by omega)
  simp only [zIp, zPlan0, zRow_at, zu_at, n 71 (by omega), n (71 + 7) (by omega), n (71 + 11) (by omega), n (71 + 14) (by omega), n (71 + 15) (by omega), if_false, false_and]
theorem zIp_lo5 (h : i < 55) : zIp I 55 i k = I i k := by
  have n : ∀ c, 55 ≤ c → (i = c) = False := fun c hc => eq_false (by omega)
  simp only [zIp, zPlan0, zRow_at, zu_at, n 55 (by omega), n (55 + 7) (by omega), n (55 + 11) (by omega), n (55 + 14) (by omega), n (55 + 15) (by omega), if_false, false_and]
theorem zCls_1 : ∀ ch, zClsP (zIp (zIp zIa 55) 71) 55 (dPn dD0 ch) := by
  intro ch
  have hD := zDc_0 (I := zIa) (s := 55) (Or.inl rfl)
  have hJ : ∀ a, 6 ≤ a → zu (zu (zu (zu (zu (zRow (zPlan0 zIa 55) 5 (zFill 7 0 (zPlan0 zIa 55 5))) 4 6 0) 4 7 0) 4 9 0) 4 10 0) 4 11 (-1) a = zPlan0 zIa 55 a := fun a ha => by
    funext k
    simp only [zu_at, zRow_at, show ¬ a = 4 by omega, show ¬ a = 5 by omega, false_and, if_false]
  generalize zu (zu (zu (zu (zu (zRow (zPlan0 zIa 55) 5 (zFill 7 0 (zPlan0 zIa 55 5))) 4 6 0) 4 7 0) 4 9 0) 4 10 0) 4 11 (-1) = J1 at hD hJ
  refine zClsP_lo (fun j hj => ?_) (zCls_D (ch := ch) (Or.inl rfl) hD DOk_0)
  funext k
  rw [zIp_lo (by omega), zRow_at, hJ (55 + 7) (by omega), hJ (55 + j) (by omega)]
  unfold zIp
  rw [zRow_at]
set_option maxRecDepth 100000 in
theorem zMW_0 : ∀ k, k < 136 → zMW (fun _ => 0) k = nI (mWa k) := by decide +kernel
theorem inv_0 (hJ : zModel0 zI1 J) : zInM (zMem0 J) := by
  obtain ⟨h1, h2, h3⟩ := hJ
  have z : ∀ a, 87 ≤ a → ¬ a = 87 → ¬ a = 89 → ∀ b, J a b = 0 := fun a ha n1 n2 b => by rw [h1 a n1 n2]; exact zI1_hi a ha b
  have e87 : ∀ b, ¬ b = 86 → ¬ b = 5 → J 87 b = 0 := fun b n1 n2 => by rw [h3]; simp only [n1, n2, if_false]; exact zI1_hi 87 (by omega) b
  have hk : zKpt SPr J (zPlainM J) := zPlainM_kpt
  refine ⟨_, _, 55, 71, none, rfl, inv_begin (I1 := zIp (zIp zIa 55) 71) (M := zPlainM J) (D := dD0) (L := fun _ _ => 0) (K := zL1) (Or.inl rfl) (Or.inr rfl) (by decide) zCls_1 DOk_0 ?_ ?_ ?_ ?_ (fun i k hi => ?_) (zDr_0 (e87 4 (by omega) (by omega)) (by rw [h3]; rfl) (fun b => Or.inr (Or.inl (z 104 (by omega) (by omega) (by omega) b)))) (fun k hk' => ?_) ?_ (fun _ _ _ => rfl)⟩
  · funext k; rw [zIp_lo (by omega), zIp_lo5 (by omega)]; simp [zIa, zu_at, zRow_at]; rfl
  · rw [zIp_lo (by omega), zIp_lo5 (by omega)]; simp [zIa, zu_at, zRow_at]
  · rw [zIp_lo (by omega), zIp_lo5 (by omega)]; simp [zIa, zu_at, zRow_at]
  · rw [zIp_lo (by omega), zIp_lo5 (by omega)]; simp [zIa, zu_at, zRow_at]
  · rw [hk i k (by unfold SPr; omega), h1 i (by omega) (by omega)]; rfl
  · rw [hk 89 k (by unfold SPr; omega), h2, show zI1 89 = fun _ => 0 from funext fun b => zI1_hi 89 (by omega) b]; exact zMW_0 k hk'
  · rw [hk 87 1 (by unfold SPr; omega)]; exact e87 1 (by omega) (by omega)
end ZN98zu
end
