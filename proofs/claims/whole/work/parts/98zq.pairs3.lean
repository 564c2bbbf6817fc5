/-! ===== PAIRS: deeds, ticks, images, feed ===== -/
def fC (i : Nat) : Prop := (10 ≤ i ∧ i ≤ 18) ∨ (37 ≤ i ∧ i ≤ 47)
def fR (i k : Nat) : Prop := (i = 87 ∧ (k = 2 ∨ (54 ≤ k ∧ k ≤ 78))) ∨ (112 ≤ i ∧ i ≤ 128)
def fRL (i : Nat) : Prop := 112 ≤ i ∧ i ≤ 128
section ZN98zq
variable {w : zP} {Q : Option Value → zMem → Prop} {I J I1 I2 : Nat → Nat → Int32} {L K L1 L2 : Nat → Nat → Int64} {p s : Nat} {r : Option Nat} {P P' : oPn} {V V' : Nat → Nat → Int32} {d d' : Int64} {t kc t' kc' : Nat} {rt rt' : oRt} {u u' : oUd} {bb : oBk} {T : oTp} {hm : Bool} {X : oIm} {f1 f2 : Int32} {i k n : Nat} {x y z v v' : Int32} {e : Bool} {y' : Int64}
theorem rPt_1 (h : zIw I L p P V d t kc rt u bb T hm X f1 f2) (k1 : ∀ i k, ¬ fC i → I1 i k = I i k) (l1 : ∀ i k, ¬ fC i → L1 i k = L i k) : rPt I1 L1 P V d t kc rt u bb T hm X f1 f2 := rPt_lo (fun i k hi => k1 i k (by unfold fC; omega)) (fun i k hi => l1 i k (by unfold fC; omega)) h.rr
theorem pr_fin (hs : zPc s) (hps : p ≠ s) (h : zIw I L p P V d t kc rt u bb T hm X f1 f2) (k1 : ∀ i k, ¬ fC i → I1 i k = I i k) (l1 : ∀ i k, ¬ fC i → L1 i k = L i k) (hK : zKl I1 L1 p P V' d' t' kc' rt') (hD : zcDeeds I1 L1 u') (k2 : ∀ i k, ¬ fR i k → I2 i k = I1 i k) (l2 : ∀ i k, ¬ fRL i → L2 i k = L1 i k) (hR : zRl I2 L2 P V' d' t' kc' rt') (hU : zrUndo I2 u') (hz : zIz P V' t' kc' rt' u' bb T hm X) : zInM (SH, I2, L2, RF p s r) := by
  have hc1 : cPt I1 L1 p P V' d' t' kc' rt' u' bb T hm X f1 f2 := ⟨hK, hD, zIx_k (fun i k hi => k1 i k (by unfold cRd at hi; unfold fC; omega)) (funext fun k => l1 28 k (by unfold fC; omega)) h.cc.2.2⟩
  have hy := (rPt_1 h k1 l1).2.2
  exact zIw_inv hs hps (zIw_of (cPt_hi (fun i k hi => k2 i k (by unfold fR; omega)) (fun i k hi => l2 i k (by unfold fRL; omega)) hc1) ⟨hR, hU, zIy_k (fun i k hi => k2 i k (by unfold rRd at hi; unfold fR; omega)) (l2 87 95 (by unfold fRL; omega)) hy⟩ hz)
theorem zIz_n (h : zIz P V t kc rt u bb T hm X) (h1 : UdOk P t' V' kc' rt' u') (h2 : oCoin V' t') : zIz P V' t' kc' rt' u' bb T hm X := ⟨h1, h.2.1, h.2.2.1, h.2.2.2.1, h2, h.2.2.2.2.2⟩
theorem oCoin_of {V V' : Nat → Nat → Int32} (h : oCoin V t) (e : V' 8 0 = V 8 0) : oCoin V' t := by
  obtain ⟨c, h1, h2⟩ := h
  exact ⟨c, by rw [e]; exact h1, h2⟩
set_option maxRecDepth 20000 in
theorem pr_put (hs : zPc s) (hps : p ≠ s) (h : zIw I L p P V d t kc rt u bb T hm X f1 f2) (hQ : ∀ a J1 K1 R1, zRe w mX10_put rX10_put [.ref 87, .int x, .int y] (SH, J1, K1, R1) a → Q (some a) (SH, J1, K1, R1)) : zXM w mX9_put rX9_put [.ref 0, .int x, .int y] (SH, I, L, RF p s r) Q := by
  have hF := h.1.2.2.2.2.2
  have hch := h.1.2.1.1
  have hnp := h.1.2.1.2.1
  refine cl_put h.1 h.zz.1 h.2.2.1 (fun hb => hQ _ _ _ _ (fun Q2 hQ2 => ?_)) (fun q n hq ex hn ey I1 L1 k1 k2 hK hD => hQ _ _ _ _ (fun Q2 hQ2 => ?_))
  · exact mo_put h.2.1 h.zz.1 h.2.2.2.1 (fun _ => hQ2 _ (zIw_inv hs hps (zIw_t2 h))) (fun q n hq ex hn ey I2 _ _ _ => absurd ⟨by rw [ex]; exact oIn_q hq (by omega), by rw [ey]; exact oIn_q (by omega) (by omega)⟩ hb)
  · have k1' : ∀ i k, ¬ fC i → I1 i k = I i k := fun i k hn => k1 i k (by unfold SCd zSdd; unfold fC at hn; omega)
    have l1' : ∀ i k, ¬ fC i → L1 i k = L i k := fun i k hn => k2 i k (by unfold SCdL; unfold fC at hn; omega)
    have hr1 := rPt_1 h k1' l1'
    refine mo_put hr1.1 h.zz.1 hr1.2.1 (fun hb => absurd ⟨by rw [ex]; exact oIn_q hq (by omega), by rw [ey]; exact oIn_q (by omega) (by omega)⟩ hb) (fun q2 n2 hq2 ex2 hn2 ey2 I2 k3 hR hU => ?_)
    have e1 : q2 = q := nI_inj2 (m := 5) (by omega) (by omega) (by omega) (ex2.symm.trans ex)
    have e2 : n2 = n := nI_inj2 (m := 40) (by omega) (by omega) (by omega) (ey2.symm.trans ey)
    subst e1
    subst e2
    exact hQ2 _ (pr_fin hs hps h k1' l1' hK hD (fun i k hn => k3 i k (by unfold SRw; unfold fR at hn; omega)) (fun _ _ _ => rfl) hR hU (zIz_n h.zz (UdOk_put hF hch h.zz.1 hq) (oCoin_of h.zz.2.2.2.2.1 (co_puts _ _))))
set_option maxRecDepth 20000 in
theorem pr_bring (hs : zPc s) (hps : p ≠ s) (h : zIw I L p P V d t kc rt u bb T hm X f1 f2) (hQ : ∀ a J1 K1 R1, zRe w mX10_bring rX10_bring [.ref 87, .int x, .int y] (SH, J1, K1, R1) a → Q (some a) (SH, J1, K1, R1)) : zXM w mX9_bring rX9_bring [.ref 0, .int x, .int y] (SH, I, L, RF p s r) Q := by
  have hF := h.1.2.2.2.2.2
  have hch := h.1.2.1.1
  have hnp := h.1.2.1.2.1
  refine cl_bring h.1 h.zz.1 h.2.2.1 (fun hb => hQ _ _ _ _ (fun Q2 hQ2 => ?_)) (fun q n hq ex hn ey I1 L1 k1 k2 hK hD => hQ _ _ _ _ (fun Q2 hQ2 => ?_))
  · exact mo_bring h.2.1 h.zz.1 h.2.2.2.1 (fun _ => hQ2 _ (zIw_inv hs hps (zIw_t2 h))) (fun q n hq ex hn ey I2 _ _ _ => absurd ⟨by rw [ex]; exact oIn_q hq (by omega), by rw [ey]; exact oIn_q (by omega) (by omega)⟩ hb)
  · have k1' : ∀ i k, ¬ fC i → I1 i k = I i k := fun i k hn => k1 i k (by unfold SCd zSdd; unfold fC at hn; omega)
    have l1' : ∀ i k, ¬ fC i → L1 i k = L i k := fun i k hn => k2 i k (by unfold SCdL; unfold fC at hn; omega)
    have hr1 := rPt_1 h k1' l1'
    refine mo_bring hr1.1 h.zz.1 hr1.2.1 (fun hb => absurd ⟨by rw [ex]; exact oIn_q hq (by omega), by rw [ey]; exact oIn_q (by omega) (by omega)⟩ hb) (fun q2 n2 hq2 ex2 hn2 ey2 I2 k3 hR hU => ?_)
    have e1 : q2 = q := nI_inj2 (m := 5) (by omega) (by omega) (by omega) (ex2.symm.trans ex)
    have e2 : n2 = n := nI_inj2 (m := 40) (by omega) (by omega) (by omega) (ey2.symm.trans ey)
    subst e1
    subst e2
    exact hQ2 _ (pr_fin hs hps h k1' l1' hK hD (fun i k hn => k3 i k (by unfold SRw; unfold fR at hn; omega)) (fun _ _ _ => rfl) hR hU (zIz_n h.zz (UdOk_bring hF hch h.zz.1 hq) (oCoin_of h.zz.2.2.2.2.1 (co_bris _ _))))
set_option maxRecDepth 20000 in
theorem pr_route (hs : zPc s) (hps : p ≠ s) (h : zIw I L p P V d t kc rt u bb T hm X f1 f2) (hQ : ∀ a J1 K1 R1, zRe w mX10_route rX10_route [.ref 87, .int x, .long y'] (SH, J1, K1, R1) a → Q (some a) (SH, J1, K1, R1)) : zXM w mX9_route rX9_route [.ref 0, .int x, .long y'] (SH, I, L, RF p s r) Q := by
  have hF := h.1.2.2.2.2.2
  refine cl_route h.1 h.zz.1 h.2.2.1 (fun hb => hQ _ _ _ _ (fun Q2 hQ2 => ?_)) (fun n hn ex ha I1 L1 k1 k2 hK hD => hQ _ _ _ _ (fun Q2 hQ2 => ?_))
  · exact mo_route h.2.1 h.zz.1 h.2.2.2.1 (fun _ => hQ2 _ (zIw_inv hs hps (zIw_t2 h))) (fun n hn ex ha I2 _ _ _ => absurd ha (hb n hn ex))
  · have k1' : ∀ i k, ¬ fC i → I1 i k = I i k := fun i k hn => k1 i k (by unfold SCd zSdd; unfold fC at hn; omega)
    have l1' : ∀ i k, ¬ fC i → L1 i k = L i k := fun i k hn => k2 i k (by unfold SCdL; unfold fC at hn; omega)
    have hr1 := rPt_1 h k1' l1'
    refine mo_route hr1.1 h.zz.1 hr1.2.1 (fun hb => absurd ha (hb n hn ex)) (fun n2 hn2 ex2 ha2 I2 k3 hR hU => ?_)
    have e2 : n2 = n := nI_inj2 (m := 8) (by omega) (by omega) (by omega) (ex2.symm.trans ex)
    subst e2
    exact hQ2 _ (pr_fin hs hps h k1' l1' hK hD (fun i k hn => k3 i k (by unfold SRw; unfold fR at hn; omega)) (fun _ _ _ => rfl) hR (hU _) (zIz_n h.zz (UdOk_route hF h.1.2.2.2.2.1.2.2.2.1.2.2 h.zz.1) h.zz.2.2.2.2.1))
set_option maxRecDepth 20000 in
theorem pr_undo (hs : zPc s) (hps : p ≠ s) (h : zIw I L p P V d t kc rt u bb T hm X f1 f2) (hQ : ∀ a J1 K1 R1, zRe w mX10_undo rX10_undo [.ref 87] (SH, J1, K1, R1) a → Q (some a) (SH, J1, K1, R1)) : zXM w mX9_undo rX9_undo [.ref 0] (SH, I, L, RF p s r) Q := by
  refine cl_undo h.1 h.zz.1 h.2.2.1 (fun h0 => hQ _ _ _ _ (fun Q2 hQ2 => ?_)) (fun k I1 L1 hk k1 k2 hK hD => hQ _ _ _ _ (fun Q2 hQ2 => ?_))
  · exact mo_undo h.2.1 h.zz.1 h.2.2.2.1 (fun _ => hQ2 _ (zIw_inv hs hps (zIw_t2 h))) (fun k I2 hk _ _ _ => by omega)
  · have k1' : ∀ i k, ¬ fC i → I1 i k = I i k := fun i k hn => k1 i k (by unfold SCd zSdd; unfold fC at hn; omega)
    have l1' : ∀ i k, ¬ fC i → L1 i k = L i k := fun i k hn => k2 i k (by unfold SCdL; unfold fC at hn; omega)
    have hr1 := rPt_1 h k1' l1'
    refine mo_undo hr1.1 h.zz.1 hr1.2.1 (fun h0 => by omega) (fun k2 I2 hk2 k3 hR hU => ?_)
    have e2 : k2 = k := by omega
    subst e2
    exact hQ2 _ (pr_fin hs hps h k1' l1' hK hD (fun i k hn => k3 i k (by unfold SRw; unfold fR at hn; omega)) (fun _ _ _ => rfl) hR hU (zIz_n h.zz (UdOk_pop h.zz.1 hk) (oCoin_of h.zz.2.2.2.2.1 (by unfold uBk; rw [if_neg (by omega)]))))
set_option maxRecDepth 20000 in
theorem pr_ticks (hw : zOk w) (hs : zPc s) (hps : p ≠ s) (h : zIw I L p P V d t kc rt u bb T hm X f1 f2) (hQ : ∀ a J1 K1 R1, zRe w mX10_ticks rX10_ticks [.ref 87, .int x] (SH, J1, K1, R1) a → Q (some a) (SH, J1, K1, R1)) : zXM w mX9_ticks rX9_ticks [.ref 0, .int x] (SH, I, L, RF p s r) Q := by
  have hx := h.2.2.2.2.1
  refine cl_ticks hw h.1 hx.2.2.2.1 hx.2.2.2.2.1 (fun hb => hQ _ _ _ _ (fun Q2 hQ2 => ?_)) (fun n ex hn I1 L1 k1 k2 hK h43 => hQ _ _ _ _ (fun Q2 hQ2 => ?_))
  · refine mo_ticks h.2.1 (fun _ => hQ2 _ (zIw_inv hs hps (zIw_t2 h))) (fun n ex hn I2 L2 _ _ _ _ => ?_)
    exfalso
    rw [ex] at hb
    unfold pRun at hb
    rw [oIn_q (by omega) (by omega)] at hb
    cases hb
  · have k1' : ∀ i k, ¬ fC i → I1 i k = I i k := fun i k hn => k1 i k (by unfold SCk; unfold fC at hn; omega)
    have l1' : ∀ i k, ¬ fC i → L1 i k = L i k := fun i k hn => k2 i k (by unfold SCkL; unfold fC at hn; omega)
    have hr1 := rPt_1 h k1' l1'
    obtain ⟨pr, hp1, hp2⟩ := h.zz.2.2.2.2.2
    have hco := co_Gs (m := mTold P) (rt := rt) (S := (V, d)) h.1.2.1.1 hp1 hp2 h.zz.2.2.2.2.1 n
    refine mo_ticks hr1.1 (fun hb => ?_) (fun n2 ex2 hn2 I2 L2 k3 k4 hR h78 => ?_)
    · exfalso
      rw [ex] at hb
      unfold pRun at hb
      rw [oIn_q (by omega) (by omega)] at hb
      cases hb
    · have e2 : n2 = n := nI_inj2 (m := 96) (by omega) (by omega) (by omega) (ex2.symm.trans ex)
      subst e2
      have k3' : ∀ i k, ¬ fR i k → I2 i k = I1 i k := fun i k hn => k3 i k (by unfold SRk SRt zFR; unfold fR at hn; omega)
      have l3' : ∀ i k, ¬ fRL i → L2 i k = L1 i k := fun i k hn => k4 i k (by unfold SRkL; unfold fRL at hn; omega)
      by_cases hn0 : n2 = 0
      · subst hn0
        rw [if_pos rfl] at h43 h78
        have hD : zcDeeds I1 L1 u := by
          obtain ⟨q1, q2⟩ := h.2.2.1
          refine ⟨by rw [h43]; exact q1, fun k hk => ?_⟩
          rw [k1 44 k (by unfold SCk; omega), k1 45 k (by unfold SCk; omega), k1 46 k (by unfold SCk; omega), k2 47 k (by unfold SCkL; omega)]
          exact q2 k hk
        have hU : zrUndo I2 u := by
          refine zrUndo_t (I := I1) (fun i k hi => ?_) hr1.2.1
          by_cases g : i = 87 ∧ k = 78
          · obtain ⟨rfl, rfl⟩ := g; exact h78
          · exact k3 i k (by unfold SRk SRt zFR; omega)
        exact hQ2 _ (pr_fin hs hps h k1' l1' hK hD k3' l3' hR hU (zIz_n h.zz (by rw [if_pos rfl]; exact h.zz.1) hco))
      · rw [if_neg hn0] at h43 h78
        exact hQ2 _ (pr_fin (u' := uNil (oGs P (mTold P) rt t n2 (V, d)).1 (if n2 = 0 then kc else 0) rt) hs hps h k1' l1' hK (zcDeeds_nil h43) k3' l3' hR (zrUndo_nil h78) (zIz_n h.zz UdOk_nil hco))
set_option maxRecDepth 20000 in
theorem pr_back (hs : zPc s) (hps : p ≠ s) (h : zIw I L p P V d t kc rt u bb T hm X f1 f2) (hQ : ∀ a J1 K1 R1, zRe w mX10_back rX10_back [.ref 87] (SH, J1, K1, R1) a → Q (some a) (SH, J1, K1, R1)) : zXM w mX9_back rX9_back [.ref 0] (SH, I, L, RF p s r) Q := by
  have hx := h.2.2.2.2.1
  have hy := h.2.2.2.2.2.1
  have h14 := hx.2.2.2.2.2.1
  have h90 := hy.2.2.2.1
  cases hm with
  | false =>
    refine cl_back (V' := V) (d' := d) (t' := t) (kc' := kc) (rt' := rt) h.1 (fun _ => hQ _ _ _ _ (fun Q2 hQ2 => ?_)) (fun q => absurd h14 q) (fun q => absurd h14 q)
    exact mo_back (V' := V) (d' := d) (t' := t) (kc' := kc) (rt' := rt) h.2.1 (fun _ => hQ2 _ (zIw_inv hs hps (zIw_t2 h))) (fun q => absurd h90 q) (fun q => absurd h90 q)
  | true =>
    have hf := (h.zz.2.2.2.1 rfl)
    have n14 : I 0 14 ≠ 0 := by rw [h14]; decide
    have n90 : I 87 90 ≠ 0 := by rw [h90]; decide
    refine cl_back h.1 (fun q => absurd q n14) (fun _ => ⟨hx.2.2.2.2.2.2.1 rfl, hf.1⟩) (fun _ I1 L1 k1 k2 hK h43 => hQ _ _ _ _ (fun Q2 hQ2 => ?_))
    have k1' : ∀ i k, ¬ fC i → I1 i k = I i k := fun i k hn => k1 i k (by unfold SCb; unfold fC at hn; omega)
    have l1' : ∀ i k, ¬ fC i → L1 i k = L i k := fun i k hn => k2 i k (by unfold SCbL; unfold fC at hn; omega)
    have hr1 := rPt_1 h k1' l1'
    have n90' : I1 87 90 ≠ 0 := by rw [k1' 87 90 (by unfold fC; omega)]; exact n90
    refine mo_back hr1.1 (fun q => absurd q n90') (fun _ => ⟨hr1.2.2.2.2.2.2.1 rfl, hf.1⟩) (fun _ I2 L2 k3 k4 hR h78 => ?_)
    exact hQ2 _ (pr_fin (u' := uNil X.1 X.2.2.2.1 X.2.2.2.2) hs hps h k1' l1' hK (zcDeeds_nil h43) (fun i k hn => k3 i k (by unfold SRb; unfold fR at hn; omega)) (fun i k hn => k4 i k (by unfold SRbL; unfold fRL at hn; omega)) hR (zrUndo_nil h78) (zIz_n h.zz UdOk_nil hf.2))
set_option maxRecDepth 20000 in
theorem pr_keep (hs : zPc s) (hps : p ≠ s) (h : zIw I L p P V d t kc rt u bb T hm X f1 f2) (hQ : ∀ a J1 K1 R1, zRe w mX10_keep rX10_keep [.ref 87] (SH, J1, K1, R1) a → Q (some a) (SH, J1, K1, R1)) : zXM w mX9_keep rX9_keep [.ref 0] (SH, I, L, RF p s r) Q := by
  refine cl_keep h.1 (fun I1 L1 k1 k2 hF1 h14 => hQ _ _ _ _ (fun Q2 hQ2 => ?_))
  have hr1 := rPt_lo (J := I1) (K := L1) (fun i k hi => k1 i k (by unfold SCp; omega)) (fun i k hi => k2 i k (by unfold SCpL; omega)) h.rr
  obtain ⟨a, b, c⟩ := h.cc
  have hc1 : cPt I1 L1 p P V d t kc rt u bb T true (V, d, t, kc, rt) f1 f2 := by
    refine ⟨zKl_k (fun i hi => funext fun k => k1 i k (by unfold SCp; rcases a.1 with rfl | rfl <;> omega)) (funext fun k => k2 10 k (by unfold SCpL; omega)) a, zcDeeds_k (fun i k hi => k1 i k (by unfold SCp; omega)) (funext fun k => k2 47 k (by unfold SCpL; omega)) b, ?_⟩
    obtain ⟨⟨b1, b2, b3⟩, ⟨t1, t2⟩, h3, hM, h8, h0, hm', g1, g2⟩ := c
    have r : ∀ i, i = 3 ∨ i = 8 → I1 i = I i := fun i hi => funext fun k => k1 i k (by unfold SCp; omega)
    refine ⟨⟨by rw [k1 _ _ (by unfold SCp; omega)]; exact b1, by rw [k1 _ _ (by unfold SCp; omega)]; exact b2, fun k hk => ?_⟩, ⟨by rw [k1 _ _ (by unfold SCp; omega)]; exact t1, fun i hi => by rw [k1 _ _ (by unfold SCp; omega)]; exact t2 i hi⟩, by rw [r 3 (by omega)]; exact h3, by rw [r 8 (by omega)]; exact hM, by rw [r 8 (by omega)]; exact h8, h14, fun _ => hF1, by rw [k1 _ _ (by unfold SCp; omega)]; exact g1, by rw [k1 _ _ (by unfold SCp; omega)]; exact g2⟩
    rw [k1 51 _ (by unfold SCp; omega), k1 49 _ (by unfold SCp; omega), k1 50 _ (by unfold SCp; omega)]; exact b3 k hk
  refine mo_keep hr1.1 (fun I2 L2 k3 k4 hi h90 => ?_)
  obtain ⟨a2, b2, c2⟩ := hr1
  have hr2 : rPt I2 L2 P V d t kc rt u bb T true (V, d, t, kc, rt) f1 f2 := by
    refine ⟨zRl_k (fun i k hi => k3 i k (by unfold zRd at hi; unfold SRi; omega)) (k4 120 0 (by unfold SRiL; omega)) a2, zrUndo_t (fun i k hi => k3 i k (by unfold SRi; omega)) b2, ?_⟩
    obtain ⟨⟨b1, b2, b3⟩, ⟨t1, t2⟩, hw, -, -, g1, g2, hb⟩ := c2
    refine ⟨⟨by rw [k3 _ _ (by unfold SRi; omega)]; exact b1, by rw [k3 _ _ (by unfold SRi; omega)]; exact b2, fun k hk => ?_⟩, ⟨by rw [k3 _ _ (by unfold SRi; omega)]; exact t1, fun i hi => by rw [k3 _ _ (by unfold SRi; omega)]; exact t2 i hi⟩, fun k hk => by rw [k3 _ _ (by unfold SRi; omega)]; exact hw k hk, h90, fun _ => hi, by rw [k3 _ _ (by unfold SRi; omega)]; exact g1, by rw [k3 _ _ (by unfold SRi; omega)]; exact g2, fun b => by rw [k3 _ _ (by unfold SRi; omega)]; exact hb b⟩
    rw [k3 129 _ (by unfold SRi; omega), k3 130 _ (by unfold SRi; omega)]; exact b3 k hk
  obtain ⟨z1, z2, z3, z4, z5, z6⟩ := h.zz
  exact hQ2 _ (zIw_inv hs hps (zIw_of (cPt_hi (fun i k hi => k3 i k (by unfold SRi; omega)) (fun i k hi => k4 i k (by unfold SRiL; omega)) hc1) hr2 ⟨z1, z2, z3, fun _ => ⟨h.1.2.2.2.2.2, z5⟩, z5, z6⟩))
set_option maxRecDepth 20000 in
theorem pr_feed (hs : zPc s) (hps : p ≠ s) (h : zIw I L p P V d t kc rt u bb T hm X f1 f2) (hQ : ∀ a J1 K1 R1, zRe w mX10_feed rX10_feed [.ref 87, .int x, .int y, .int z, .int v, .int v'] (SH, J1, K1, R1) a → Q (some a) (SH, J1, K1, R1)) : zXM w mX9_feed rX9_feed [.ref 0, .int x, .int y, .int z, .int v, .int v'] (SH, I, L, RF p s r) Q := by
  have hTO := h.zz.2.2.1
  refine cl_feed h.2.2.2.2.1.2.1 hTO (fun I1 k1 ht1 => hQ _ _ _ _ (fun Q2 hQ2 => ?_))
  have hr1 := rPt_lo (J := I1) (K := L) (fun i k hi => k1 i k (by unfold STp; omega)) (fun _ _ _ => rfl) h.rr
  obtain ⟨a, b, c⟩ := h.cc
  have hc1 : cPt I1 L p P V d t kc rt u bb (oFeed T x y z v v') hm X f1 f2 := by
    refine ⟨zKl_k (fun i hi => funext fun k => k1 i k (by unfold STp; rcases a.1 with rfl | rfl <;> omega)) rfl a, zcDeeds_k (fun i k hi => k1 i k (by unfold STp; omega)) rfl b, ?_⟩
    obtain ⟨⟨b1, b2, b3⟩, -, h3, hM, h8, h0, hm', g1, g2⟩ := c
    have r : ∀ i, i = 3 ∨ i = 8 ∨ (28 ≤ i ∧ i ≤ 36) → I1 i = I i := fun i hi => funext fun k => k1 i k (by unfold STp; omega)
    refine ⟨⟨by rw [k1 _ _ (by unfold STp; omega)]; exact b1, by rw [k1 _ _ (by unfold STp; omega)]; exact b2, fun k hk => ?_⟩, ht1, by rw [r 3 (by omega)]; exact h3, by rw [r 8 (by omega)]; exact hM, by rw [r 8 (by omega)]; exact h8, by rw [k1 _ _ (by unfold STp; omega)]; exact h0, fun q => zcFr_row (fun j hj => r _ (by omega)) rfl (hm' q), by rw [k1 _ _ (by unfold STp; omega)]; exact g1, by rw [k1 _ _ (by unfold STp; omega)]; exact g2⟩
    rw [k1 51 _ (by unfold STp; omega), k1 49 _ (by unfold STp; omega), k1 50 _ (by unfold STp; omega)]; exact b3 k hk
  refine mo_feed hr1.2.2.2.1 hTO (fun I2 k3 ht2 => ?_)
  obtain ⟨a2, b2, c2⟩ := hr1
  have hr2 : rPt I2 L P V d t kc rt u bb (oFeed T x y z v v') hm X f1 f2 := by
    refine ⟨zRl_k (fun i k hi => k3 i k (by unfold zRd at hi; unfold SRTp; omega)) rfl a2, zrUndo_t (fun i k hi => k3 i k (by unfold SRTp; omega)) b2, ?_⟩
    obtain ⟨⟨b1, b2, b3⟩, -, hw, h90, him, g1, g2, hb⟩ := c2
    refine ⟨⟨by rw [k3 _ _ (by unfold SRTp; omega)]; exact b1, by rw [k3 _ _ (by unfold SRTp; omega)]; exact b2, fun k hk => ?_⟩, ht2, fun k hk => by rw [k3 _ _ (by unfold SRTp; omega)]; exact hw k hk, by rw [k3 _ _ (by unfold SRTp; omega)]; exact h90, fun q => ?_, by rw [k3 _ _ (by unfold SRTp; omega)]; exact g1, by rw [k3 _ _ (by unfold SRTp; omega)]; exact g2, fun b => by rw [k3 _ _ (by unfold SRTp; omega)]; exact hb b⟩
    · rw [k3 129 _ (by unfold SRTp; omega), k3 130 _ (by unfold SRTp; omega)]; exact b3 k hk
    · obtain ⟨i1, i2, i3, i4, i5, i6, i7, i8, i9⟩ := him q
      exact ⟨fun i c g1 g2 g3 => by rw [k3 _ _ (by unfold SRTp; omega)]; exact i1 i c g1 g2 g3, fun c hc => by rw [k3 _ _ (by unfold SRTp; omega)]; exact i2 c hc, by rw [k3 _ _ (by unfold SRTp; omega)]; exact i3, by rw [k3 _ _ (by unfold SRTp; omega)]; exact i4, by rw [k3 _ _ (by unfold SRTp; omega)]; exact i5, by rw [k3 _ _ (by unfold SRTp; omega)]; exact i6, fun k hk => by rw [k3 _ _ (by unfold SRTp; omega)]; exact i7 k hk, i8, i9⟩
  obtain ⟨z1, z2, z3, z4, z5, z6⟩ := h.zz
  exact hQ2 _ (zIw_inv hs hps (zIw_of (cPt_hi (fun i k hi => k3 i k (by unfold SRTp; omega)) (fun _ _ _ => rfl) hc1) hr2 ⟨z1, z2, TpOk_feed z3, z4, z5, z6⟩))
end ZN98zq
