/-! ===== TEXT: the pair; the first memory ===== -/
section ZN98zu
variable {w : zP} {Q : Option Value → zMem → Prop} {I J M I1 I2 : Nat → Nat → Int32} {L K L1 L2 : Nat → Nat → Int64} {p s : Nat} {r : Option Nat} {P P' : oPn} {V V' : Nat → Nat → Int32} {d d' : Int64} {t kc t' kc' : Nat} {rt : oRt} {u : oUd} {bb : oBk} {T : oTp} {hm : Bool} {X : oIm} {f1 f2 g1 g2 : Int32} {D : oDf} {i k n ch : Nat} {x : Int32} {R' : Nat → Nat → Int32}
theorem pr_text (hw : zOk w) (hs : zPc s) (hps : p ≠ s) (h : zIw I L p P V d t kc rt u bb T hm X f1 f2) (hQ : ∀ a J1 K1 R1, zRe w mX10_text rX10_text [.ref 87, .int x] (SH, J1, K1, R1) a → Q (some a) (SH, J1, K1, R1)) : zXM w mX9_text rX9_text [.ref 0, .int x] (SH, I, L, RF p s r) Q := by
  have hp := h.1.1
  have hTO : TpOk T := h.zz.2.2.1
  have hX := h.2.2.2.2.1
  have hY := h.2.2.2.2.2.1
  have hT7 := hTO.1
  obtain ⟨y1, y2⟩ := hY.2.1
  have bad : ∀ n, x = nI n → n ≤ T.1 → ¬ (x < 0 ∨ nI T.1 < x) := fun n e hn => by
    rw [e, show (0 : Int32) = nI 0 from rfl, zlt_nat (by omega) (by omega), zlt_nat (by omega) (by omega)]; omega
  have same : ∀ n m, x = nI n → n ≤ T.1 → x = nI m → m ≤ T.1 → n = m := fun n m e hn e2 hm => (nI_eq (by omega) (by omega)).mp (e.symm.trans e2)
  have s8 : 8 < s ∧ s ≤ 71 := by rcases hs with rfl | rfl <;> omega
  refine cl_text (W := zWt) hw hp hs hX.2.2.1 hX.2.1 hTO (fun hb => hQ _ _ _ _ (fun Q2 hQ2 => ?_)) (fun n f I1 ex hn e1 k1 g1 g2 g3 => hQ _ _ _ _ (fun Q2 hQ2 => ?_)) (fun n D q I1 ex hn e1 hq k1 g1 g2 hO g3 g4 => hQ _ _ _ _ (fun Q2 hQ2 => ?_))
  · exact mo_text (W := zWt) hY.2.2.1 zTok_ok hY.2.2.2.2.2.2.2 hY.2.1 hTO (fun _ => hQ2 _ (zIw_inv hs hps (zIw_t2 h))) (fun n f I2 ex hn _ _ _ _ _ _ => absurd hb (bad n ex hn)) (fun n D q I2 ex hn _ _ _ _ _ _ => absurd hb (bad n ex hn))
  · have hi : ∀ i k, 87 ≤ i → I1 i k = I i k := fun i k hi => k1 i k (by unfold SXt SXc; omega)
    refine mo_text (W := zWt) (T := T) (fun k hk => by rw [hi _ _ (by omega)]; exact hY.2.2.1 k hk) zTok_ok (fun b => by rw [hi _ _ (by omega)]; exact hY.2.2.2.2.2.2.2 b) ⟨by rw [hi _ _ (by omega)]; exact y1, fun i hi' => by rw [hi _ _ (by omega)]; exact y2 i hi'⟩ hTO (fun hb => absurd hb (bad n ex hn)) (fun n2 f2 I2 ex2 hn2 e2 k2 b1 b2 b4 b5 => ?_) (fun n2 D2 q2 I2 ex2 hn2 e2 _ _ _ _ _ => ?_)
    · have en := same n n2 ex hn ex2 hn2
      subst en
      rw [e1] at e2
      cases e2
      exact hQ2 _ (inv_fail hs hps h k1 g1 g2 g3 k2 b1 b4 b5)
    · have en := same n n2 ex hn ex2 hn2
      subst en
      rw [e1] at e2
      cases e2
  · have hi : ∀ i k, 87 ≤ i → zBegin I1 s i k = I i k := fun i k hi => by rw [zBeg_lo (by omega)]; exact k1 i k (by unfold SXt SXc; omega)
    refine mo_text (W := zWt) (T := T) (fun k hk => by rw [hi _ _ (by omega)]; exact hY.2.2.1 k hk) zTok_ok (fun b => by rw [hi _ _ (by omega)]; exact hY.2.2.2.2.2.2.2 b) ⟨by rw [hi _ _ (by omega)]; exact y1, fun i hi' => by rw [hi _ _ (by omega)]; exact y2 i hi'⟩ hTO (fun hb => absurd hb (bad n ex hn)) (fun n2 f2 I2 ex2 hn2 e2 _ _ _ _ _ => ?_) (fun n2 D2 q2 I2 ex2 hn2 e2 k2 b1 b2 hD hO2 => ?_)
    · have en := same n n2 ex hn ex2 hn2
      subst en
      rw [e1] at e2
      cases e2
    · have en := same n n2 ex hn ex2 hn2
      subst en
      rw [e1] at e2
      cases e2
      refine hQ2 _ ⟨_, _, s, p, some s, rfl, inv_begin (D := D) hs hp (Ne.symm hps) g2 hO ?_ g1 g3 g4 (fun i k hi' => k2 i k (by unfold SXr SPr; omega)) hD (fun k hk => ?_) b1 (fun _ _ _ => rfl)⟩
      · rw [← hX.2.2.1]; funext k; exact k1 3 k (by unfold SXt SXc; omega)
      · rw [k2 89 k (by unfold SXr SPr; omega), hi _ _ (by omega)]; exact hY.2.2.1 k hk
theorem zIp_lo (h : i < 71) : zIp I 71 i k = I i k := by
  have n : ∀ c, 71 ≤ c → (i = c) = False := fun c hc => eq_false (by omega)
  simp only [zIp, zPlan0, zRow_at, zu_at, n 71 (by omega), n (71 + 7) (by omega), n (71 + 11) (by omega), n (71 + 14) (by omega), n (71 + 15) (by omega), if_false, false_and]
theorem zIp_lo5 (h : i < 55) : zIp I 55 i k = I i k := by
  have n : ∀ c, 55 ≤ c → (i = c) = False := fun c hc => eq_false (by omega)
  simp only [zIp, zPlan0, zRow_at, zu_at, n 55 (by omega), n (55 + 7) (by omega), n (55 + 11) (by omega), n (55 + 14) (by omega), n (55 + 15) (by omega), if_false, false_and]
theorem zCls_1 : ∀ ch, zClsP (zIp (zIp zIa 55) 71) 55 (dPn dD0 ch) := by
  intro ch
  have hD := zDc_0 (I := zIa) (s := 55) (Or.inl rfl)
  have hJ : ∀ a, 6 ≤ a → zu (zu (zu (zu (zu (zRow (zPlan0 zIa 55) 5 (zFill 7 0 (zPlan0 zIa 55 5))) 4 6 0) 4 7 0) 4 9 0) 4 10 0) 4 11 (-1) a = zPlan0 zIa 55 a := fun a ha => by
    funext k
    simp only [zu_at, zRow_at, show ¬ a = 4 by omega, show ¬ a = 5 by omega, false_and, if_false]
  generalize zu (zu (zu (zu (zu (zRow (zPlan0 zIa 55) 5 (zFill 7 0 (zPlan0 zIa 55 5))) 4 6 0) 4 7 0) 4 9 0) 4 10 0) 4 11 (-1) = J1 at hD hJ
  refine zClsP_lo (fun j hj => ?_) (zCls_D (ch := ch) (Or.inl rfl) hD DOk_0)
  funext k
  rw [zIp_lo (by omega), zRow_at, hJ (55 + 7) (by omega), hJ (55 + j) (by omega)]
  unfold zIp
  rw [zRow_at]
set_option maxRecDepth 100000 in
theorem zMW_0 : ∀ k, k < 136 → zMW (fun _ => 0) k = nI (mWa k) := by decide +kernel
theorem inv_0 (hJ : zModel0 zI1 J) : zInM (zMem0 J) := by
  obtain ⟨h1, h2, h3⟩ := hJ
  have z : ∀ a, 87 ≤ a → ¬ a = 87 → ¬ a = 89 → ∀ b, J a b = 0 := fun a ha n1 n2 b => by rw [h1 a n1 n2]; exact zI1_hi a ha b
  have e87 : ∀ b, ¬ b = 86 → ¬ b = 5 → J 87 b = 0 := fun b n1 n2 => by rw [h3]; simp only [n1, n2, if_false]; exact zI1_hi 87 (by omega) b
  have hk : zKpt SPr J (zPlainM J) := zPlainM_kpt
  refine ⟨_, _, 55, 71, none, rfl, inv_begin (I1 := zIp (zIp zIa 55) 71) (M := zPlainM J) (D := dD0) (L := fun _ _ => 0) (K := zL1) (Or.inl rfl) (Or.inr rfl) (by decide) zCls_1 DOk_0 ?_ ?_ ?_ ?_ (fun i k hi => ?_) (zDr_0 (e87 4 (by omega) (by omega)) (by rw [h3]; rfl) (fun b => Or.inr (Or.inl (z 104 (by omega) (by omega) (by omega) b)))) (fun k hk' => ?_) ?_ (fun _ _ _ => rfl)⟩
  · funext k; rw [zIp_lo (by omega), zIp_lo5 (by omega)]; simp [zIa, zu_at, zRow_at]; rfl
  · rw [zIp_lo (by omega), zIp_lo5 (by omega)]; simp [zIa, zu_at, zRow_at]
  · rw [zIp_lo (by omega), zIp_lo5 (by omega)]; simp [zIa, zu_at, zRow_at]
  · rw [zIp_lo (by omega), zIp_lo5 (by omega)]; simp [zIa, zu_at, zRow_at]
  · rw [hk i k (by unfold SPr; omega), h1 i (by omega) (by omega)]; rfl
  · rw [hk 89 k (by unfold SPr; omega), h2, show zI1 89 = fun _ => 0 from funext fun b => zI1_hi 89 (by omega) b]; exact zMW_0 k hk'
  · rw [hk 87 1 (by unfold SPr; omega)]; exact e87 1 (by omega) (by omega)
end ZN98zu
