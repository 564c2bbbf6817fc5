/-! ===== A TEXT TAKEN OR REFUSED: the invariant again ===== -/
section ZN98zs
variable {w : zP} {Q : Option Value → zMem → Prop} {I J M I1 I2 : Nat → Nat → Int32} {L K L1 L2 : Nat → Nat → Int64} {p s : Nat} {r : Option Nat} {P P' : oPn} {V V' : Nat → Nat → Int32} {d d' : Int64} {t kc t' kc' : Nat} {rt : oRt} {u : oUd} {bb : oBk} {T : oTp} {hm : Bool} {X : oIm} {f1 f2 : Int32} {D : oDf} {i k n ch : Nat} {x : Int32}
/-- a draft's laws as a plan's -/
theorem POk_D {R' : Nat → Nat → Int32} (hO : DOk D) (hch : ch ≤ 40) (h1 : R' 102 1 = nI ch) (a1 : ∀ k, k < dNp D → R' 93 k = dR D 93 k) (a2 : ∀ k, k < dNc D → R' 95 k = dR D 95 k) (a3 : ∀ k, k < dNs D → R' 96 k = dR D 96 k ∧ R' 97 k = dR D 97 k) (a4 : ∀ h, h < 3 → R' 104 h = zb1 (dTold D h) ∧ (dTold D h = true → R' 105 h = nI (dF D h) ∧ R' 106 h = nI (dT D h))) (a5 : ∀ i, i < dNk D → R' 107 i = dR D 107 i ∧ R' 108 i = dR D 108 i ∧ R' 109 i = dR D 109 i) (h8 : 0 < (R' 102 8).toInt) : POk (R', (dPn D ch).2) ∧ POk2 (R', (dPn D ch).2) := by
  obtain ⟨⟨o1, o2, o3, o4, o5, o6⟩, otd, oco, osk, ose, ola⟩ := hO
  refine ⟨⟨hch, o1, o2, o3, o4, h1, fun h hh => ⟨(a4 h hh).1, fun q => ?_⟩, fun k hk => by rw [show pR (R', (dPn D ch).2) 95 k = R' 95 k from rfl, a2 k hk]; exact oco k hk⟩, ⟨o5, fun k hk => by rw [show pR (R', (dPn D ch).2) 93 k = R' 93 k from rfl, a1 k hk]; exact otd k hk, fun h hh q i g1 g2 => ?_, fun k hk => ?_, h8⟩⟩
  · obtain ⟨l1, l2, l3, l4⟩ := ola h hh q
    refine ⟨((a4 h hh).2 q).1, ((a4 h hh).2 q).2, l1, by show dT D h ≤ 64; omega, ?_, fun i g1 g2 g3 => ?_⟩
    · show jPos (R' 107) (R' 108) (R' 109) (dF D h) (dT D h - dF D h) = some [dT D h - 1]
      rw [← l3]
      exact jPos_ext (fun i hi => a5 i (by omega))
    · have g1 : dF D h ≤ i := g1
      have g2 : i < dT D h := g2
      obtain ⟨b1, b2, b3⟩ := a5 i (by omega)
      obtain ⟨k, k1, k2, k3, k4⟩ := l4 i g1 g2
      have g3 : R' 107 i = 1 := g3
      have hk : k = 1 := by
        rw [b1, k2] at g3
        exact (nI_eq (b := 1) (by omega) (by omega)).mp g3
      obtain ⟨n, hn, e⟩ := k4 hk
      show vp_in (R' 108 i) 8
      rw [b2, e]; exact zvn hn (by omega)
  · have g1 : dF D h ≤ i := g1
    have g2 : i < dT D h := g2
    obtain ⟨l1, l2, l3, l4⟩ := ola h hh q
    obtain ⟨b1, b2, b3⟩ := a5 i (by omega)
    obtain ⟨k, k1, k2, k3, k4⟩ := l4 i g1 g2
    show ∃ k, k ≤ 14 ∧ R' 107 i = nI k ∧ (k = 0 → ∃ n, n ≤ 9999 ∧ R' 108 i = nI n)
    rw [b1, b2]; exact ⟨k, k1, k2, k3⟩
  · obtain ⟨⟨n, x, q1, q2, q3, q4⟩, -⟩ := osk k hk
    obtain ⟨b1, b2⟩ := a3 k hk
    show ∃ n x, n < 96 ∧ x ≤ 2 ∧ R' 96 k = nI n ∧ R' 97 k = nI x
    rw [b1, b2]; exact ⟨n, x, q1, q2, q3, q4⟩
theorem inv_begin (hs : zPc s) (hp : zPc p) (hps : s ≠ p) (hC : ∀ ch, zClsP I1 s (dPn D ch)) (hO : DOk D) (h3 : I1 3 = zWt) (h12 : I1 1 2 = 0) (h10 : I1 4 10 = 0) (h11 : I1 4 11 = -1) (hM : ∀ i k, i < 87 → M i k = zBegin I1 s i k) (hD : zDr M D) (hw : ∀ k, k < 136 → M 89 k = nI (mWa k)) (h871 : M 87 1 = 0) (hL : ∀ i k, i < 87 → K i k = zu (zu L 10 14 0) 10 15 (I1 (s + 11) 6).toInt64 i k) : zInv (zBegM (zKeepR M)) (zu K 120 0 (zKeepR M 102 10).toInt64) s p := by
  obtain ⟨⟨o1, o2, o3, o4, o5, o6⟩, otd, oco, osk, ose, ola⟩ := id hO
  obtain ⟨ch, -, hch, ech⟩ := ose 1 (by omega)
  obtain ⟨pr, -, hpr, epr⟩ := ose 0 (by omega)
  obtain ⟨cr, hcr0, hcr, ecr⟩ := ose 3 (by omega)
  obtain ⟨wm, hwm0, hwm, ewm⟩ := ose 4 (by omega)
  have hch : ch ≤ 40 := hch
  have hpr : pr ≤ 99 := hpr
  have hcr : cr ≤ 40 := hcr
  have hwm0 : 1 ≤ wm := hwm0
  have hwm : wm ≤ 9 := hwm
  obtain ⟨⟨c18, c19, c20, c21, c22, c23, c49⟩, dp, dc, dsk, dbd, dst, dsg, dkn, dlw, dto, dbo, dfl⟩ := hD
  obtain ⟨r1, r2, r3, r4, r5, r6, r7, r8⟩ := zKeep_rows (M := M)
  obtain ⟨q12, q13, q14, q15, q16, q17, q55, q56, q64, q65, q85, q86, q78, q90, q1, q4, q5⟩ := zKeep_87 (M := M)
  obtain ⟨b1, b2, b3, b8, b9, b10, b11, b12, b13, b43, b48, b485, b014, ⟨t0, t1, t2, t3, t4, t5, t6, t7, t8⟩⟩ := zBeg_front (I := I1) hs
  have lo : ∀ i k, i < 87 → zBegM (zKeepR M) i k = zBegin I1 s i k := fun i k hi => by rw [zKeep_lo hi, hM i k hi]
  have i104 := zKeep_104 dbo
  have r89 : ∀ k, zBegM (zKeepR M) 89 k = M 89 k := fun k => zKeep_89.1
  have rch : ∀ k, k < 40 → zBegM (zKeepR M) 114 k = 0 ∧ zBegM (zKeepR M) 115 k = -1 ∧ zBegM (zKeepR M) 116 k = 0 ∧ zBegM (zKeepR M) 117 k = -1 ∧ zBegM (zKeepR M) 118 k = 0 := fun k hk => zKeep_ch hk
  have rsm : ∀ k, k < 7 → zBegM (zKeepR M) 119 k = 0 := fun k hk => zKeep_sm hk
  have e10 : zKeepR M 102 10 = M 102 26 := by simp [zKeepR, zKeepL, zKeepE, zRow_at, zHalf]
  have ese : ∀ j, j < 7 → zBegM (zKeepR M) 102 (sIx j) = dR D 102 (sIx j) := fun j hj => by rw [r6 _ (sIx_r j hj)]; exact dst j hj
  rw [e10]
  generalize zBegM (zKeepR M) = F at *
  have e26 : M 102 26 = dR D 102 10 := dst 6 (by omega)
  have hcl := hC ch
  have cse := hcl.2.2.2.2.2.1
  have es6 : I1 (s + 11) 6 = dR D 102 10 := cse.2.2.2.2.2.2
  have es0 : I1 (s + 11) 0 = dR D 102 5 := cse.1
  have es1 : I1 (s + 11) 1 = dR D 102 1 := cse.2.1
  rw [e26]
  rw [es6] at hL
  rw [es1] at b8 b9
  rw [es0] at t0
  -- the plan
  have rd : ∀ (R' : Nat → Nat → Int32), pR (R', (dPn D ch).2) = R' := fun _ => rfl
  have hag : pAg (dPn D ch) (F, (dPn D ch).2) := by
    refine ⟨rfl, fun k hk => ?_, fun k hk => ?_, fun k hk => ?_, fun k hk => ?_, fun k hk => ?_, fun j hj => ese j hj, fun h hh z i hi => ?_⟩
    · have hk : k < dNp D := hk
      obtain ⟨g1, g2, g3, g4⟩ := r1 k (by omega)
      obtain ⟨f1, f2, f3, f4⟩ := dp k hk
      exact ⟨g1.trans f1, g2.trans f2, g3.trans f3, g4.trans f4⟩
    · have hk : k < dNc D := hk
      obtain ⟨g1, g2⟩ := r2 k (by omega)
      obtain ⟨f1, f2⟩ := dc k hk
      exact ⟨g1.trans f1, g2.trans f2⟩
    · have hk : k < dNs D := hk
      obtain ⟨g1, g2⟩ := r3 k (by omega)
      obtain ⟨f1, f2⟩ := dsk k hk
      exact ⟨g1.trans f1, g2.trans f2⟩
    · have hk : k < dNb D := hk
      obtain ⟨g1, g2, g3⟩ := r4 k (by omega)
      obtain ⟨f1, f2, f3⟩ := dbd k hk
      exact ⟨g1.trans f1, g2.trans f2, g3.trans f3⟩
    · have hk : k < dNg D := hk
      exact (r5 k (by omega)).trans (dsg k hk)
    · have hi : i < dT D h := hi
      have hT := (ola h hh z).2.1
      obtain ⟨g1, g2, g3⟩ := r8 i (by omega)
      obtain ⟨f1, f2, f3⟩ := dkn i (by omega)
      exact ⟨g1.trans f1, g2.trans f2, g3.trans f3⟩
  have hPO := POk_D (R' := F) hO hch ((ese 1 (by omega)).trans ech) (fun k hk => (hag.2.1 k hk).2.2.2) (fun k hk => (hag.2.2.1 k hk).2) (fun k hk => hag.2.2.2.1 k hk) (fun h hh => by
    obtain ⟨g1, g2, g3⟩ := r7 h hh
    exact ⟨g1.trans (dlw h hh).1, fun z => ⟨g2.trans ((dlw h hh).2 z).1, g3.trans ((dlw h hh).2 z).2⟩⟩) (fun i hi => by
    obtain ⟨g1, g2, g3⟩ := r8 i (by omega)
    obtain ⟨f1, f2, f3⟩ := dkn i hi
    exact ⟨g1.trans f1, g2.trans f2, g3.trans f3⟩) (by rw [show F 102 8 = nI wm from (ese 4 (by omega)).trans ewm, nI_toInt (by omega)]; omega)
  have hclF : zClsP F s (F, (dPn D ch).2) := by
    refine zClsP_ag hag (zClsP_lo (I := I1) (fun j hj => ?_) hcl)
    funext k
    rw [lo _ _ (by rcases hs with rfl | rfl <;> omega), zBeg_lo (by rcases hs with rfl | rfl <;> omega)]
  have ech' : dR D 102 1 = nI ch := ech
  have hFr : FrOk (F, (dPn D ch).2) oV0 0 0 oRt0 := by
    refine ⟨fun c hc => ?_, ⟨by show 0 ≤ 8; omega, Nat.le_refl _, fun k hk => absurd hk (by show ¬ k < 0; omega)⟩, by omega, cr, hcr, Nat.zero_le _, (ese 3 (by omega)).trans ecr⟩
    left
    rw [oV0_1, oV0_at (i := 2) (by omega) hc, oV0_at (i := 4) (by omega) hc, oV0_at (i := 5) (by omega) hc, oV0_at (i := 3) (by omega) hc]
    refine ⟨rfl, rfl, rfl, rfl, ?_⟩
    rw [show pR (F, (dPn D ch).2) 102 8 = nI wm from (ese 4 (by omega)).trans ewm]
    show (0 : Int32) < nI wm
    rw [show (0 : Int32) = nI 0 from rfl, zlt_nat (by omega) (by omega)]; omega
  have hlF : ∀ i k, i < 87 → zu K 120 0 (dR D 102 10).toInt64 i k = zu (zu L 10 14 0) 10 15 (dR D 102 10).toInt64 i k := fun i k hi => by rw [zu_at, if_neg (by omega)]; exact hL i k hi
  have hfr10 : zcFr F (zu K 120 0 (dR D 102 10).toInt64) 10 (F, (dPn D ch).2) oV0 (dR D 102 10).toInt64 0 0 oRt0 := by
    refine ⟨⟨?_, ?_, fun q hq => ?_, fun q hq => ?_, ?_⟩, by rw [lo _ _ (by omega)]; exact b10, by rw [lo _ _ (by omega)]; exact b11, ⟨by rw [lo _ _ (by omega)]; exact b12, by rw [lo _ _ (by omega)]; exact b13, fun k hk => absurd hk (by show ¬ k < 0; omega)⟩, by rw [hlF 10 15 (by omega)]; simp [zu_at]⟩
    · funext a c
      by_cases h8 : a = 8
      · subst h8
        rw [oV0_8]
        by_cases hc : c < 7
        · rw [vC_8 hc, lo _ _ (by omega)]; exact b3 c hc
        · simp [vC, zV, hc]
      · by_cases hc : (1 ≤ a ∧ a ≤ 5) ∧ c < 40
        · rw [vC_at hc.1 hc.2, lo _ _ (by omega), oV0_at hc.1 hc.2]
          obtain ⟨g1, g2, g3, g4, g5⟩ := b1 c hc.2
          have ha : a = 1 ∨ a = 2 ∨ a = 3 ∨ a = 4 ∨ a = 5 := by omega
          rcases ha with rfl | rfl | rfl | rfl | rfl
          · exact g1
          · exact g2
          · exact g3
          · exact g4
          · exact g5
        · simp only [vC, oV0, zV, h8, hc, if_false]
    · rw [lo _ _ (by omega), b8]; exact ech'
    · rw [lo _ _ (by omega), (b2 q hq).1, oCnt_0 (by decide)]; rfl
    · rw [lo _ _ (by omega), (b2 q hq).2, oCnt_0 (by decide)]; rfl
    · rw [lo _ _ (by omega), b9, oStk_0]; exact ech'
  refine ⟨hp, hps, (F, (dPn D ch).2), oV0, (dR D 102 10).toInt64, 0, 0, oRt0, uNil oV0 0 oRt0, (0, -1, fun _ => none, fun _ => 0, fun _ => false), (0, fun _ => 0), false, (oV0, 0, 0, 0, oRt0), 0, -1, ?_⟩
  refine ⟨⟨hs, hPO.1, hPO.2, hclF, hfr10, hFr⟩, ⟨hPO.1, hPO.2, ⟨fun i _ _ => rfl, q12.trans c18, q13.trans c19, q14.trans c20, q15.trans c21⟩, ⟨q16.trans c22, q17.trans c23⟩, ⟨?_, q55, q56, q64, q65, fun k hk => absurd hk (by show ¬ k < 0; omega), by simp [zu_at]⟩, hFr⟩, zcDeeds_nil (by rw [lo _ _ (by omega)]; exact b43), zrUndo_nil q78, ?_, ?_, ?_⟩
  · funext a c
    by_cases h8 : a = 8
    · subst h8
      rw [oV0_8]
      by_cases hc : c < 7
      · rw [vR_8 hc, show 7 * 0 + c = c by omega]; exact rsm c hc
      · simp [vR, zV, hc]
    · by_cases hc : (1 ≤ a ∧ a ≤ 5) ∧ c < 40
      · rw [vR_at hc.1 hc.2, show 40 * 0 + c = c by omega, oV0_at hc.1 hc.2]
        obtain ⟨g1, g2, g3, g4, g5⟩ := rch c hc.2
        have ha : a = 1 ∨ a = 2 ∨ a = 3 ∨ a = 4 ∨ a = 5 := by omega
        rcases ha with rfl | rfl | rfl | rfl | rfl
        · exact g1
        · exact g2
        · exact g3
        · exact g4
        · exact g5
      · simp only [vR, oV0, zV, h8, hc, if_false]
  · refine ⟨⟨by rw [lo _ _ (by omega)]; exact b48, by rw [lo _ _ (by omega)]; exact b485, fun k hk => absurd hk (by show ¬ k < 0; omega)⟩, ⟨by rw [lo _ _ (by omega), zBeg_lo (by omega)]; exact h12, fun i hi => absurd hi (by show ¬ i < 0; omega)⟩, ?_, ⟨?_, ?_, ?_, ?_, ?_, ?_, ?_, ?_⟩, by rw [lo _ _ (by omega)]; exact t2, by rw [lo _ _ (by omega)]; exact b014, (fun q => by cases q), by rw [lo _ _ (by omega), zBeg_lo (by omega)]; exact h10, by rw [lo _ _ (by omega), zBeg_lo (by omega)]; exact h11⟩
    · rw [← h3]; funext k; rw [lo _ _ (by omega), zBeg_lo (by omega)]
    · rw [lo _ _ (by omega), t0]; exact (ese 0 (by omega)).symm
    · rw [lo _ _ (by omega)]; exact t1
    · rw [lo _ _ (by omega)]; exact t3
    · rw [lo _ _ (by omega)]; exact t4
    · rw [lo _ _ (by omega)]; exact t5
    · rw [lo _ _ (by omega)]; exact t6
    · rw [lo _ _ (by omega)]; exact t7
    · rw [lo _ _ (by omega)]; exact t8
  · exact ⟨⟨q85, q86, fun k hk => absurd hk (by show ¬ k < 0; omega)⟩, ⟨q1.trans h871, fun i hi => absurd hi (by show ¬ i < 0; omega)⟩, fun k hk => by rw [r89]; exact hw k hk, q90, (fun q => by cases q), q4.trans dfl.1, q5.trans dfl.2, fun b => Or.inr (i104 b)⟩
  · exact ⟨UdOk_nil, ⟨by show 0 ≤ 60; omega, Or.inl rfl, fun k hk => absurd hk (by show ¬ k < 0; omega)⟩, ⟨by show 0 ≤ 700; omega, fun i hi => absurd hi (by show ¬ i < 0; omega)⟩, (fun q => by cases q), ⟨0, oV0_8, by omega⟩, pr, hpr, (ese 0 (by omega)).trans epr⟩
end ZN98zs
