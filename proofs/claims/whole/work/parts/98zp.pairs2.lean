/-! ===== PAIRS that change things ===== -/
def cPt (I : Nat → Nat → Int32) (L : Nat → Nat → Int64) (p : Nat) (P : oPn) (V : Nat → Nat → Int32) (d : Int64) (t kc : Nat) (rt : oRt) (u : oUd) (bb : oBk) (T : oTp) (hm : Bool) (X : oIm) (f1 f2 : Int32) : Prop := zKl I L p P V d t kc rt ∧ zcDeeds I L u ∧ zIx I L P bb T hm X f1 f2
def rPt (I : Nat → Nat → Int32) (L : Nat → Nat → Int64) (P : oPn) (V : Nat → Nat → Int32) (d : Int64) (t kc : Nat) (rt : oRt) (u : oUd) (bb : oBk) (T : oTp) (hm : Bool) (X : oIm) (f1 f2 : Int32) : Prop := zRl I L P V d t kc rt ∧ zrUndo I u ∧ zIy I L bb T hm X f1 f2
section ZN98zp
variable {w : zP} {Q : Option Value → zMem → Prop} {I J : Nat → Nat → Int32} {L K : Nat → Nat → Int64} {p s : Nat} {r : Option Nat} {P P' : oPn} {V : Nat → Nat → Int32} {d : Int64} {t kc : Nat} {rt : oRt} {u : oUd} {bb : oBk} {T : oTp} {hm : Bool} {X : oIm} {f1 f2 : Int32} {i k n : Nat} {x y z v v' : Int32} {e : Bool} {y' : Int64}
theorem zIw_of (h1 : cPt I L p P V d t kc rt u bb T hm X f1 f2) (h2 : rPt I L P V d t kc rt u bb T hm X f1 f2) (h3 : zIz P V t kc rt u bb T hm X) : zIw I L p P V d t kc rt u bb T hm X f1 f2 := ⟨h1.1, h2.1, h1.2.1, h2.2.1, h1.2.2, h2.2.2, h3⟩
theorem zIw.cc (h : zIw I L p P V d t kc rt u bb T hm X f1 f2) : cPt I L p P V d t kc rt u bb T hm X f1 f2 := ⟨h.1, h.2.2.1, h.2.2.2.2.1⟩
theorem zIw.rr (h : zIw I L p P V d t kc rt u bb T hm X f1 f2) : rPt I L P V d t kc rt u bb T hm X f1 f2 := ⟨h.2.1, h.2.2.2.1, h.2.2.2.2.2.1⟩
theorem zIw.zz (h : zIw I L p P V d t kc rt u bb T hm X f1 f2) : zIz P V t kc rt u bb T hm X := h.2.2.2.2.2.2
theorem cPt_hi (h1 : ∀ i k, i < 87 → J i k = I i k) (h2 : ∀ i k, i < 87 → K i k = L i k) (h : cPt I L p P V d t kc rt u bb T hm X f1 f2) : cPt J K p P V d t kc rt u bb T hm X f1 f2 := by
  obtain ⟨a, b, c⟩ := h
  have hp := a.1
  have rI : ∀ i, i < 87 → J i = I i := fun i hi => funext fun k => h1 i k hi
  have rL : ∀ i, i < 87 → K i = L i := fun i hi => funext fun k => h2 i k hi
  exact ⟨zKl_k (fun i hi => rI i (by rcases hp with rfl | rfl <;> omega)) (rL 10 (by omega)) a, zcDeeds_k (fun i k hi => h1 i k (by omega)) (rL 47 (by omega)) b, zIx_k (fun i k hi => h1 i k (by unfold cRd at hi; omega)) (rL 28 (by omega)) c⟩
theorem rPt_lo (h1 : ∀ i k, 87 ≤ i → J i k = I i k) (h2 : ∀ i k, 87 ≤ i → K i k = L i k) (h : rPt I L P V d t kc rt u bb T hm X f1 f2) : rPt J K P V d t kc rt u bb T hm X f1 f2 := by
  obtain ⟨a, b, c⟩ := h
  exact ⟨zRl_k (fun i k hi => h1 i k (by unfold zRd at hi; omega)) (h2 120 0 (by omega)) a, zrUndo_t (fun i k hi => h1 i k (by omega)) b, zIy_k (fun i k hi => h1 i k (by unfold rRd at hi; omega)) (h2 87 95 (by omega)) c⟩
theorem nI_inj2 {a b m : Nat} (ha : a ≤ m) (hb : b ≤ m) (hm : m < 1000) (h : nI a = nI b) : a = b := (nI_eq (by omega) (by omega)).mp h
/-- another book -/
theorem zIx_bk {bb' : oBk} (h : ∀ i k, cRd i k → ¬ (48 ≤ i ∧ i ≤ 51) → J i k = I i k) (hb : zcBook J bb') (hX : zIx I L P bb T hm X f1 f2) : zIx J L P bb' T hm X f1 f2 := by
  obtain ⟨-, ⟨t1, t2⟩, h3, hM, h8, h0, hm', g1, g2⟩ := hX
  have r : ∀ i, i = 3 ∨ i = 8 ∨ (28 ≤ i ∧ i ≤ 36) → J i = I i := fun i hi => funext fun k => h i k (by unfold cRd; omega) (by omega)
  exact ⟨hb, ⟨by rw [h _ _ (by unfold cRd; omega) (by omega)]; exact t1, fun i hi => by rw [h _ _ (by unfold cRd; omega) (by omega)]; exact t2 i hi⟩, by rw [r 3 (by omega)]; exact h3, by rw [r 8 (by omega)]; exact hM, by rw [r 8 (by omega)]; exact h8, by rw [h _ _ (by unfold cRd; omega) (by omega)]; exact h0, fun q => zcFr_row (fun j hj => r _ (by omega)) rfl (hm' q), by rw [h _ _ (by unfold cRd; omega) (by omega)]; exact g1, by rw [h _ _ (by unfold cRd; omega) (by omega)]; exact g2⟩
theorem zIy_bk {bb' : oBk} (h : ∀ i k, rRd i k → ¬ ((i = 87 ∧ (k = 85 ∨ k = 86)) ∨ i = 129 ∨ i = 130) → J i k = I i k) (hb' : zrBook J bb') (hY : zIy I L bb T hm X f1 f2) : zIy J L bb' T hm X f1 f2 := by
  obtain ⟨-, ⟨t1, t2⟩, hw, h90, him, g1, g2, hb⟩ := hY
  refine ⟨hb', ⟨by rw [h _ _ (by unfold rRd; omega) (by omega)]; exact t1, fun i hi => by rw [h _ _ (by unfold rRd; omega) (by omega)]; exact t2 i hi⟩, fun k hk => by rw [h _ _ (by unfold rRd; omega) (by omega)]; exact hw k hk, by rw [h _ _ (by unfold rRd; omega) (by omega)]; exact h90, fun q => ?_, by rw [h _ _ (by unfold rRd; omega) (by omega)]; exact g1, by rw [h _ _ (by unfold rRd; omega) (by omega)]; exact g2, fun b => by rw [h _ _ (by unfold rRd; omega) (by omega)]; exact hb b⟩
  obtain ⟨i1, i2, i3, i4, i5, i6, i7, i8, i9⟩ := him q
  exact ⟨fun i c g1 g2 g3 => by rw [h _ _ (by unfold rRd; omega) (by omega)]; exact i1 i c g1 g2 g3, fun c hc => by rw [h _ _ (by unfold rRd; omega) (by omega)]; exact i2 c hc, by rw [h _ _ (by unfold rRd; omega) (by omega)]; exact i3, by rw [h _ _ (by unfold rRd; omega) (by omega)]; exact i4, by rw [h _ _ (by unfold rRd; omega) (by omega)]; exact i5, by rw [h _ _ (by unfold rRd; omega) (by omega)]; exact i6, fun k hk => by rw [h _ _ (by unfold rRd; omega) (by omega)]; exact i7 k hk, i8, i9⟩
/-- both books written -/
theorem pr_book {bb' : oBk} {I1 I2 : Nat → Nat → Int32} (hs : zPc s) (hps : p ≠ s) (h : zIw I L p P V d t kc rt u bb T hm X f1 f2) (k1 : ∀ i k, ¬ (48 ≤ i ∧ i ≤ 51) → I1 i k = I i k) (b1 : zcBook I1 bb') (k2 : ∀ i k, ¬ ((i = 87 ∧ (k = 2 ∨ k = 85 ∨ k = 86)) ∨ i = 129 ∨ i = 130) → I2 i k = I1 i k) (b2 : zrBook I2 bb') (ho : BkOk bb') : zInM (SH, I2, L, RF p s r) := by
  obtain ⟨a, b, c⟩ := h.cc
  have hr1 := rPt_lo (J := I1) (K := L) (fun i k hi => k1 i k (by omega)) (fun _ _ _ => rfl) h.rr
  have hc1 : cPt I1 L p P V d t kc rt u bb' T hm X f1 f2 := ⟨zKl_k (fun i hi => funext fun k => k1 i k (by rcases a.1 with rfl | rfl <;> omega)) rfl a, zcDeeds_k (fun i k hi => k1 i k (by omega)) rfl b, zIx_bk (fun i k _ hn => k1 i k hn) b1 c⟩
  obtain ⟨a2, b3, c2⟩ := hr1
  obtain ⟨z1, z2, z3, z4, z5, z6⟩ := h.zz
  exact zIw_inv hs hps (zIw_of (cPt_hi (fun i k hi => k2 i k (by omega)) (fun _ _ _ => rfl) hc1) ⟨zRl_k (fun i k hi => k2 i k (by unfold zRd at hi; omega)) rfl a2, zrUndo_t (fun i k hi => k2 i k (by omega)) b3, zIy_bk (fun i k hi hn => k2 i k (by unfold rRd at hi; omega)) b2 c2⟩ ⟨z1, ho, z3, z4, z5, z6⟩)
set_option maxRecDepth 20000 in
theorem pr_day (hs : zPc s) (hps : p ≠ s) (h : zIw I L p P V d t kc rt u bb T hm X f1 f2) (hQ : ∀ a J1 K1 R1, zRe w mX10_day rX10_day [.ref 87, .int x, .int (zb1 e)] (SH, J1, K1, R1) a → Q (some a) (SH, J1, K1, R1)) : zXM w mX9_day rX9_day [.ref 0, .int x, .int (zb1 e)] (SH, I, L, RF p s r) Q := by
  have hg := h.1.2.2.1.1
  refine cl_day h.1.1 h.1.2.2.2.1.1.2.2.2.1 hg h.2.2.2.2.1.1 h.2.2.2.2.2.2.2.1 (fun c0 => hQ _ _ _ _ (fun Q2 hQ2 => ?_)) (fun c1 I1 k1 b1 => hQ _ _ _ _ (fun Q2 hQ2 => ?_))
  · exact mo_day h.2.1.2.2.2.1.1 hg h.2.2.2.2.2.1.1 h.2.2.2.2.2.2.2.1 (fun _ I2 k2 => hQ2 _ (zIw_inv hs hps (zIw_r (J := I2) (fun i k hn => k2 i k (by unfold zThr; unfold sR at hn; omega)) (fun _ _ _ => rfl) h))) (fun c => absurd c (by rw [c0]; decide))
  · have k1' : ∀ i k, ¬ (48 ≤ i ∧ i ≤ 51) → I1 i k = I i k := fun i k hn => k1 i k (by unfold zSbk; omega)
    have hr1 := rPt_lo (J := I1) (K := L) (fun i k hi => k1' i k (by omega)) (fun _ _ _ => rfl) h.rr
    refine mo_day hr1.1.2.2.2.1.1 hg hr1.2.2.1 h.2.2.2.2.2.2.2.1 (fun c => absurd c (by rw [c1]; decide)) (fun _ I2 k2 b2 => hQ2 _ (pr_book hs hps h k1' b1 (fun i k hn => k2 i k (by unfold zSbr; omega)) b2 ?_))
    unfold cDay at c1
    rw [Bool.and_eq_true, decide_eq_true_iff] at c1
    refine BkOk_day h.zz.2.1 c1.1 ?_
    have := c1.2
    unfold oIn at this
    rw [Bool.and_eq_true] at this
    simpa using this.1
set_option maxRecDepth 20000 in
theorem pr_strike (hs : zPc s) (hps : p ≠ s) (h : zIw I L p P V d t kc rt u bb T hm X f1 f2) (hQ : ∀ a J1 K1 R1, zRe w mX10_strike rX10_strike [.ref 87, .int x] (SH, J1, K1, R1) a → Q (some a) (SH, J1, K1, R1)) : zXM w mX9_strike rX9_strike [.ref 0, .int x] (SH, I, L, RF p s r) Q := by
  refine cl_strike h.2.2.2.2.1.1 h.2.2.2.2.2.2.2.1 (fun c0 => hQ _ _ _ _ (fun Q2 hQ2 => ?_)) (fun c1 I1 k1 b1 => hQ _ _ _ _ (fun Q2 hQ2 => ?_))
  · exact mo_strike h.2.2.2.2.2.1.1 h.2.2.2.2.2.2.2.1 (fun _ I2 k2 => hQ2 _ (zIw_inv hs hps (zIw_r (J := I2) (fun i k hn => k2 i k (by unfold zThr; unfold sR at hn; omega)) (fun _ _ _ => rfl) h))) (fun c => absurd c (by rw [c0]; decide))
  · have k1' : ∀ i k, ¬ (48 ≤ i ∧ i ≤ 51) → I1 i k = I i k := fun i k hn => k1 i k (by unfold zSbk; omega)
    have hr1 := rPt_lo (J := I1) (K := L) (fun i k hi => k1' i k (by omega)) (fun _ _ _ => rfl) h.rr
    refine mo_strike hr1.2.2.1 h.2.2.2.2.2.2.2.1 (fun c => absurd c (by rw [c1]; decide)) (fun _ I2 k2 b2 => hQ2 _ (pr_book hs hps h k1' b1 (fun i k hn => k2 i k (by unfold zSbr; omega)) b2 ?_))
    unfold cStr at c1
    rw [Bool.and_eq_true, decide_eq_true_iff] at c1
    obtain ⟨q, hq, e⟩ := oIn_t c1.2 (by omega)
    rw [e, nI_clamp (by omega)]
    exact BkOk_str h.zz.2.1 c1.1 hq
set_option maxRecDepth 20000 in
theorem pr_known (hs : zPc s) (hps : p ≠ s) (h : zIw I L p P V d t kc rt u bb T hm X f1 f2) (hQ : ∀ a J1 K1 R1, zRe w mX10_known rX10_known [.ref 87, .int x] (SH, J1, K1, R1) a → Q (some a) (SH, J1, K1, R1)) : zXM w mX9_known rX9_known [.ref 0, .int x] (SH, I, L, RF p s r) Q := by
  refine cl_known h.2.2.2.2.1.1 (fun c0 => hQ _ _ _ _ (fun Q2 hQ2 => ?_)) (fun c1 => hQ _ _ _ _ (fun Q2 hQ2 => ?_))
  · exact mo_known h.2.2.2.2.2.1.1 (fun _ => hQ2 _ (zIw_inv hs hps (zIw_t2 h))) (fun c => absurd c (by rw [c0]; decide))
  · have k1' : ∀ i k, ¬ (48 ≤ i ∧ i ≤ 51) → (zu I 48 5 x) i k = I i k := fun i k hn => by rw [zu_at, if_neg (by omega)]
    have hr1 := rPt_lo (J := zu I 48 5 x) (K := L) (fun i k hi => k1' i k (by omega)) (fun _ _ _ => rfl) h.rr
    have b1 : zcBook (zu I 48 5 x) (bb.1, x, bb.2.2) := by
      obtain ⟨q1, q2, q3⟩ := h.2.2.2.2.1.1
      exact ⟨by simp [zu_at]; exact q1, by simp [zu_at], fun k hk => by simp [zu_at]; exact q3 k hk⟩
    refine mo_known hr1.2.2.1 (fun c => absurd c (by rw [c1]; decide)) (fun _ => hQ2 _ (pr_book hs hps h k1' b1 (fun i k hn => by rw [zu_at, if_neg (by omega), zu_at, if_neg (by omega)]) ?_ ?_))
    · obtain ⟨q1, q2, q3⟩ := hr1.2.2.1
      exact ⟨by simp [zu_at]; simpa [zu_at] using q1, by simp [zu_at], fun k hk => by have := q3 k hk; simpa [zu_at] using this⟩
    · obtain ⟨q1, q2, q3⟩ := h.zz.2.1
      refine ⟨q1, ?_, q3⟩
      unfold cKnown at c1
      rw [Bool.and_eq_true] at c1
      have g1 : ¬ x < -1 := by simpa using c1.1
      have g2 : ¬ nI bb.1 < x := by simpa using c1.2
      by_cases g : x = -1
      · exact Or.inl g
      · right
        obtain ⟨n, hn, en⟩ := nI_of2 (x := x) (M := nI bb.1) (n := bb.1) (nI_toInt (by omega)) (by
          intro q
          rw [Int32.lt_iff_toInt_lt] at q g1
          apply g
          apply Int32.toInt_inj.mp
          show x.toInt = -1
          have e0 : (0 : Int32).toInt = 0 := rfl
          have e1 : (-1 : Int32).toInt = -1 := rfl
          omega) (Int32.not_lt.mp g2)
        exact ⟨n, hn, en⟩
end ZN98zp
