/-! ===== PAIRS: a call of the class, then the reference's (by a program) ===== -/
def zIw (I : Nat → Nat → Int32) (L : Nat → Nat → Int64) (p : Nat) (P : oPn) (V : Nat → Nat → Int32) (d : Int64) (t kc : Nat) (rt : oRt) (u : oUd) (bb : oBk) (T : oTp) (hm : Bool) (X : oIm) (f1 f2 : Int32) : Prop := zKl I L p P V d t kc rt ∧ zRl I L P V d t kc rt ∧ zcDeeds I L u ∧ zrUndo I u ∧ zIx I L P bb T hm X f1 f2 ∧ zIy I L bb T hm X f1 f2 ∧ zIz P V t kc rt u bb T hm X
def zInM (μ : zMem) : Prop := ∃ I L p s r, μ = (SH, I, L, RF p s r) ∧ zInv I L p s
/-- the reference answers a, and both stand again -/
def zRe (w : zP) (M : zMd) (R : Room) (as : List Value) (μ : zMem) (a : Value) : Prop := ∀ Q2 : Option Value → zMem → Prop, (∀ μ2, zInM μ2 → Q2 (some a) μ2) → zXM w M R as μ Q2
/-- scratch of the class, of the reference -/
def sC (i : Nat) : Prop := i = 9 ∨ (19 ≤ i ∧ i ≤ 27) ∨ (37 ≤ i ∧ i ≤ 42) ∨ (52 ≤ i ∧ i ≤ 54) ∨ i = 139
def sR (i k : Nat) : Prop := (i = 87 ∧ (k = 2 ∨ k = 54 ∨ (67 ≤ k ∧ k ≤ 76))) ∨ i = 122 ∨ i = 128 ∨ i = 131 ∨ (114 ≤ i ∧ i ≤ 118 ∧ 40 ≤ k) ∨ (i = 119 ∧ 7 ≤ k)
def sRL (i k : Nat) : Prop := i = 112 ∨ i = 113 ∨ (i = 120 ∧ k = 1)
section ZN98zo
variable {w : zP} {Q : Option Value → zMem → Prop} {I J : Nat → Nat → Int32} {L K : Nat → Nat → Int64} {p s : Nat} {r : Option Nat} {P P' : oPn} {V : Nat → Nat → Int32} {d : Int64} {t kc : Nat} {rt : oRt} {u : oUd} {bb : oBk} {T : oTp} {hm : Bool} {X : oIm} {f1 f2 : Int32} {i k n : Nat} {x y z v v' : Int32} {e : Bool}
theorem zIw_inv (hs : zPc s) (hps : p ≠ s) (h : zIw I L p P V d t kc rt u bb T hm X f1 f2) : zInM (SH, I, L, RF p s r) := ⟨I, L, p, s, r, rfl, hs, hps, P, V, d, t, kc, rt, u, bb, T, hm, X, f1, f2, h⟩
theorem zIw_c (h1 : ∀ i k, ¬ sC i → J i k = I i k) (h2 : ∀ i k, ¬ sC i → K i k = L i k) (h : zIw I L p P V d t kc rt u bb T hm X f1 f2) : zIw J K p P V d t kc rt u bb T hm X f1 f2 := by
  obtain ⟨a, b, c, e, f, g, q⟩ := h
  have hp := a.1
  have rI : ∀ i, ¬ sC i → J i = I i := fun i hi => funext fun k => h1 i k hi
  have rL : ∀ i, ¬ sC i → K i = L i := fun i hi => funext fun k => h2 i k hi
  exact ⟨zKl_k (fun i hi => rI i (by unfold sC; rcases hp with rfl | rfl <;> omega)) (rL 10 (by unfold sC; omega)) a, zRl_k (fun i k hi => h1 i k (by unfold zRd at hi; unfold sC; omega)) (h2 120 0 (by unfold sC; omega)) b, zcDeeds_k (fun i k hi => h1 i k (by unfold sC; omega)) (rL 47 (by unfold sC; omega)) c, zrUndo_t (fun i k hi => h1 i k (by unfold sC; omega)) e, zIx_k (fun i k hi => h1 i k (by unfold cRd at hi; unfold sC; omega)) (rL 28 (by unfold sC; omega)) f, zIy_k (fun i k hi => h1 i k (by unfold rRd at hi; unfold sC; omega)) (h2 87 95 (by unfold sC; omega)) g, q⟩
theorem zIw_r (h1 : ∀ i k, ¬ sR i k → J i k = I i k) (h2 : ∀ i k, ¬ sRL i k → K i k = L i k) (h : zIw I L p P V d t kc rt u bb T hm X f1 f2) : zIw J K p P V d t kc rt u bb T hm X f1 f2 := by
  obtain ⟨a, b, c, e, f, g, q⟩ := h
  have hp := a.1
  have rI : ∀ i, i < 87 → J i = I i := fun i hi => funext fun k => h1 i k (by unfold sR; omega)
  have rL : ∀ i, i < 87 → K i = L i := fun i hi => funext fun k => h2 i k (by unfold sRL; omega)
  exact ⟨zKl_k (fun i hi => rI i (by rcases hp with rfl | rfl <;> omega)) (rL 10 (by omega)) a, zRl_k (fun i k hi => h1 i k (by unfold zRd at hi; unfold sR; omega)) (h2 120 0 (by unfold sRL; omega)) b, zcDeeds_k (fun i k hi => h1 i k (by unfold sR; omega)) (rL 47 (by omega)) c, zrUndo_t (fun i k hi => h1 i k (by unfold sR; omega)) e, zIx_k (fun i k hi => h1 i k (by unfold cRd at hi; unfold sR; omega)) (rL 28 (by omega)) f, zIy_k (fun i k hi => h1 i k (by unfold rRd at hi; unfold sR; omega)) (h2 87 95 (by unfold sRL; omega)) g, q⟩
theorem zIw_t2 {q : Int32} (h : zIw I L p P V d t kc rt u bb T hm X f1 f2) : zIw (zu I 87 2 q) L p P V d t kc rt u bb T hm X f1 f2 := zIw_r (fun i k hn => by rw [zu_at, if_neg (by unfold sR at hn; omega)]) (fun _ _ _ => rfl) h
set_option maxRecDepth 20000 in
theorem pr_run (hw : zOk w) (hs : zPc s) (hps : p ≠ s) (h : zIw I L p P V d t kc rt u bb T hm X f1 f2) (hQ : ∀ a J1 K1 R1, zRe w mX10_run rX10_run [.ref 87, .int x] (SH, J1, K1, R1) a → Q (some a) (SH, J1, K1, R1)) : zXM w mX9_run rX9_run [.ref 0, .int x] (SH, I, L, RF p s r) Q := by
  refine cl_run hw h.1 (fun I1 L1 k1 k2 => hQ _ _ _ _ (fun Q2 hQ2 => ?_))
  have h1 := zIw_c (J := I1) (K := L1) (fun i k hn => k1 i k (by unfold SCt; unfold sC at hn; omega)) (fun i k hn => k2 i k (by unfold SCtL; unfold sC at hn; omega)) h
  refine mo_run h1.2.1 (fun I2 L2 k3 k4 => hQ2 _ (zIw_inv hs hps (zIw_r (J := I2) (K := L2) (fun i k hn => k3 i k (by unfold SRt; unfold sR at hn; omega)) (fun i k hn => k4 i k (by unfold SRtL; unfold sRL at hn; omega)) h1)))
set_option maxRecDepth 20000 in
theorem pr_best (hw : zOk w) (hs : zPc s) (hps : p ≠ s) (h : zIw I L p P V d t kc rt u bb T hm X f1 f2) (hQ : ∀ a J1 K1 R1, zRe w mX10_best rX10_best [.ref 87, .int x, .int y] (SH, J1, K1, R1) a → Q (some a) (SH, J1, K1, R1)) : zXM w mX9_best rX9_best [.ref 0, .int x, .int y] (SH, I, L, RF p s r) Q := by
  refine cl_best hw h.1 (fun I1 L1 k1 k2 => hQ _ _ _ _ (fun Q2 hQ2 => ?_))
  have h1 := zIw_c (J := I1) (K := L1) (fun i k hn => k1 i k (by unfold SCt; unfold sC at hn; omega)) (fun i k hn => k2 i k (by unfold SCtL; unfold sC at hn; omega)) h
  refine mo_best h1.2.1 (fun I2 L2 k3 k4 => hQ2 _ (zIw_inv hs hps (zIw_r (J := I2) (K := L2) (fun i k hn => k3 i k (by unfold SRt; unfold sR at hn; omega)) (fun i k hn => k4 i k (by unfold SRtL; unfold sRL at hn; omega)) h1)))
set_option maxRecDepth 20000 in
theorem pr_second (hw : zOk w) (hs : zPc s) (hps : p ≠ s) (h : zIw I L p P V d t kc rt u bb T hm X f1 f2) (hQ : ∀ a J1 K1 R1, zRe w mX10_second rX10_second [.ref 87, .int x] (SH, J1, K1, R1) a → Q (some a) (SH, J1, K1, R1)) : zXM w mX9_second rX9_second [.ref 0, .int x] (SH, I, L, RF p s r) Q := by
  refine cl_second hw h.1 (fun I1 L1 k1 k2 => hQ _ _ _ _ (fun Q2 hQ2 => ?_))
  have h1 := zIw_c (J := I1) (K := L1) (fun i k hn => k1 i k (by unfold SCt; unfold sC at hn; omega)) (fun i k hn => k2 i k (by unfold SCtL; unfold sC at hn; omega)) h
  refine mo_second h1.2.1 (fun I2 L2 k3 k4 => hQ2 _ (zIw_inv hs hps (zIw_r (J := I2) (K := L2) (fun i k hn => k3 i k (by unfold SRt; unfold sR at hn; omega)) (fun i k hn => k4 i k (by unfold SRtL; unfold sRL at hn; omega)) h1)))
set_option maxRecDepth 20000 in
theorem pr_many (hw : zOk w) (hs : zPc s) (hps : p ≠ s) (h : zIw I L p P V d t kc rt u bb T hm X f1 f2) (hQ : ∀ a J1 K1 R1, zRe w mX10_many rX10_many [.ref 87, .int x, .int y, .int z] (SH, J1, K1, R1) a → Q (some a) (SH, J1, K1, R1)) : zXM w mX9_many rX9_many [.ref 0, .int x, .int y, .int z] (SH, I, L, RF p s r) Q := by
  refine cl_many hw h.1 (fun I1 L1 k1 k2 => hQ _ _ _ _ (fun Q2 hQ2 => ?_))
  have h1 := zIw_c (J := I1) (K := L1) (fun i k hn => k1 i k (by unfold SCt; unfold sC at hn; omega)) (fun i k hn => k2 i k (by unfold SCtL; unfold sC at hn; omega)) h
  refine mo_many h1.2.1 (fun I2 L2 k3 k4 => hQ2 _ (zIw_inv hs hps (zIw_r (J := I2) (K := L2) (fun i k hn => k3 i k (by unfold SRt; unfold sR at hn; omega)) (fun i k hn => k4 i k (by unfold SRtL; unfold sRL at hn; omega)) h1)))
set_option maxRecDepth 20000 in
theorem pr_when (hw : zOk w) (hs : zPc s) (hps : p ≠ s) (h : zIw I L p P V d t kc rt u bb T hm X f1 f2) (hQ : ∀ a J1 K1 R1, zRe w mX10_when rX10_when [.ref 87, .int x, .int y] (SH, J1, K1, R1) a → Q (some a) (SH, J1, K1, R1)) : zXM w mX9_when rX9_when [.ref 0, .int x, .int y] (SH, I, L, RF p s r) Q := by
  refine cl_when hw h.1 (fun I1 L1 k1 k2 => hQ _ _ _ _ (fun Q2 hQ2 => ?_))
  have h1 := zIw_c (J := I1) (K := L1) (fun i k hn => k1 i k (by unfold SCt; unfold sC at hn; omega)) (fun i k hn => k2 i k (by unfold SCtL; unfold sC at hn; omega)) h
  refine mo_when h1.2.1 (fun I2 L2 k3 k4 => hQ2 _ (zIw_inv hs hps (zIw_r (J := I2) (K := L2) (fun i k hn => k3 i k (by unfold SRt; unfold sR at hn; omega)) (fun i k hn => k4 i k (by unfold SRtL; unfold sRL at hn; omega)) h1)))
set_option maxRecDepth 20000 in
theorem pr_tried (hw : zOk w) (hs : zPc s) (hps : p ≠ s) (h : zIw I L p P V d t kc rt u bb T hm X f1 f2) (hQ : ∀ a J1 K1 R1, zRe w mX10_tried rX10_tried [.ref 87, .int x, .int y, .int z] (SH, J1, K1, R1) a → Q (some a) (SH, J1, K1, R1)) : zXM w mX9_tried rX9_tried [.ref 0, .int x, .int y, .int z] (SH, I, L, RF p s r) Q := by
  refine cl_tried hw h.1 (fun I1 L1 k1 k2 => hQ _ _ _ _ (fun Q2 hQ2 => ?_))
  have h1 := zIw_c (J := I1) (K := L1) (fun i k hn => k1 i k (by unfold SCt; unfold sC at hn; omega)) (fun i k hn => k2 i k (by unfold SCtL; unfold sC at hn; omega)) h
  refine mo_tried h1.2.1 (fun I2 L2 k3 k4 => hQ2 _ (zIw_inv hs hps (zIw_r (J := I2) (K := L2) (fun i k hn => k3 i k (by unfold SRt; unfold sR at hn; omega)) (fun i k hn => k4 i k (by unfold SRtL; unfold sRL at hn; omega)) h1)))
set_option maxRecDepth 20000 in
theorem pr_chance (hw : zOk w) (hs : zPc s) (hps : p ≠ s) (h : zIw I L p P V d t kc rt u bb T hm X f1 f2) (hQ : ∀ a J1 K1 R1, zRe w mX10_chance rX10_chance [.ref 87, .int x, .int y, .int z] (SH, J1, K1, R1) a → Q (some a) (SH, J1, K1, R1)) : zXM w mX9_chance rX9_chance [.ref 0, .int x, .int y, .int z] (SH, I, L, RF p s r) Q := by
  refine cl_chance hw h.1 (fun I1 L1 k1 k2 => hQ _ _ _ _ (fun Q2 hQ2 => ?_))
  have h1 := zIw_c (J := I1) (K := L1) (fun i k hn => k1 i k (by unfold SCt; unfold sC at hn; omega)) (fun i k hn => k2 i k (by unfold SCtL; unfold sC at hn; omega)) h
  refine mo_chance h1.2.1 (fun I2 L2 k3 k4 => hQ2 _ (zIw_inv hs hps (zIw_r (J := I2) (K := L2) (fun i k hn => k3 i k (by unfold SRt; unfold sR at hn; omega)) (fun i k hn => k4 i k (by unfold SRtL; unfold sRL at hn; omega)) h1)))
set_option maxRecDepth 20000 in
theorem pr_way (hw : zOk w) (hs : zPc s) (hps : p ≠ s) (h : zIw I L p P V d t kc rt u bb T hm X f1 f2) (hQ : ∀ a J1 K1 R1, zRe w mX10_way rX10_way [.ref 87, .int x, .int y] (SH, J1, K1, R1) a → Q (some a) (SH, J1, K1, R1)) : zXM w mX9_way rX9_way [.ref 0, .int x, .int y] (SH, I, L, RF p s r) Q := by
  refine cl_way hw h.1 (fun I1 L1 k1 k2 => hQ _ _ _ _ (fun Q2 hQ2 => ?_))
  have h1 := zIw_c (J := I1) (K := L1) (fun i k hn => k1 i k (by unfold SCt; unfold sC at hn; omega)) (fun i k hn => k2 i k (by unfold SCtL; unfold sC at hn; omega)) h
  refine mo_way h1.2.1 (co_way h.1.2.1.1 h.2.2.2.2.2.2.2.2.2.2.2 h.2.2.2.2.2.2.2.2.2.2.1) (fun I2 L2 k3 k4 => hQ2 _ (zIw_inv hs hps (zIw_r (J := I2) (K := L2) (fun i k hn => k3 i k (by unfold SRt; unfold sR at hn; omega)) (fun i k hn => k4 i k (by unfold SRtL; unfold sRL at hn; omega)) h1)))
set_option maxRecDepth 20000 in
theorem pr_gather (hs : zPc s) (hps : p ≠ s) (h : zIw I L p P V d t kc rt u bb T hm X f1 f2) (hQ : ∀ a J1 K1 R1, zRe w mX10_gather rX10_gather [.ref 87, .int x] (SH, J1, K1, R1) a → Q (some a) (SH, J1, K1, R1)) : zXM w mX9_gather rX9_gather [.ref 0, .int x] (SH, I, L, RF p s r) Q := by
  refine cl_gather h.1 (fun I1 k1 => hQ _ _ _ _ (fun Q2 hQ2 => ?_))
  have h1 := zIw_c (J := I1) (K := L) (fun i k hn => k1 i k (by unfold SCt; unfold sC at hn; omega)) (fun i k hn => rfl) h
  refine mo_gather h1.2.1 (fun I2 k3 => hQ2 _ (zIw_inv hs hps (zIw_r (J := I2) (fun i k hn => k3 i k (by unfold SRt; unfold sR at hn; omega)) (fun i k hn => rfl) h1)))
set_option maxRecDepth 20000 in
theorem pr_law (hw : zOk w) (hs : zPc s) (hps : p ≠ s) (h : zIw I L p P V d t kc rt u bb T hm X f1 f2) (hQ : ∀ (a : Int64) J1 K1 R1, zRe w mX10_law rX10_law [.ref 87, .int x, .int y] (SH, J1, K1, R1) (.long a) → Q (some (.long a)) (SH, J1, K1, R1)) : zXM w mX9_law rX9_law [.ref 0, .int x, .int y] (SH, I, L, RF p s r) Q := by
  refine cl_law hw h.1 h.2.2.2.2.1.2.2.2.1 (fun L1 k2 => hQ _ _ _ _ (fun Q2 hQ2 => ?_))
  have h1 := zIw_c (J := I) (K := L1) (fun i k hn => rfl) (fun i k hn => k2 i k (by unfold SCw; unfold sC at hn; omega)) h
  refine mo_law h1.2.1 (fun I2 L2 k3 k4 => hQ2 _ (zIw_inv hs hps (zIw_r (J := I2) (K := L2) (fun i k hn => k3 i k (by unfold SRt; unfold sR at hn; omega)) (fun i k hn => k4 i k (by unfold SRtL; unfold sRL at hn; omega)) h1)))
set_option maxRecDepth 20000 in
theorem pr_named (hs : zPc s) (hps : p ≠ s) (h : zIw I L p P V d t kc rt u bb T hm X f1 f2) (hQ : ∀ a J1 K1 R1, zRe w mX10_named rX10_named [.ref 87, .int x, .int y] (SH, J1, K1, R1) a → Q (some a) (SH, J1, K1, R1)) : zXM w mX9_named rX9_named [.ref 0, .int x, .int y] (SH, I, L, RF p s r) Q := by
  refine cl_named h.1 (hQ _ _ _ _ (fun Q2 hQ2 => ?_))
  have h1 := h
  refine mo_named h1.2.1 (fun I2 k3 => hQ2 _ (zIw_inv hs hps (zIw_r (J := I2) (fun i k hn => k3 i k (by unfold SRt; unfold sR at hn; omega)) (fun i k hn => rfl) h1)))
set_option maxRecDepth 20000 in
theorem pr_place (hs : zPc s) (hps : p ≠ s) (h : zIw I L p P V d t kc rt u bb T hm X f1 f2) (hQ : ∀ a J1 K1 R1, zRe w mX10_place rX10_place [.ref 87, .int x, .int y] (SH, J1, K1, R1) a → Q (some a) (SH, J1, K1, R1)) : zXM w mX9_place rX9_place [.ref 0, .int x, .int y] (SH, I, L, RF p s r) Q := by
  refine cl_place h.1 (hQ _ _ _ _ (fun Q2 hQ2 => ?_))
  have h1 := h
  refine mo_place h1.2.1 (fun I2 k3 => hQ2 _ (zIw_inv hs hps (zIw_r (J := I2) (fun i k hn => k3 i k (by unfold SRt; unfold sR at hn; omega)) (fun i k hn => rfl) h1)))
set_option maxRecDepth 20000 in
theorem pr_sky (hs : zPc s) (hps : p ≠ s) (h : zIw I L p P V d t kc rt u bb T hm X f1 f2) (hQ : ∀ a J1 K1 R1, zRe w mX10_sky rX10_sky [.ref 87, .int x] (SH, J1, K1, R1) a → Q (some a) (SH, J1, K1, R1)) : zXM w mX9_sky rX9_sky [.ref 0, .int x] (SH, I, L, RF p s r) Q := by
  refine cl_sky h.1 (hQ _ _ _ _ (fun Q2 hQ2 => ?_))
  have h1 := h
  refine mo_sky h1.2.1 (fun I2 k3 => hQ2 _ (zIw_inv hs hps (zIw_r (J := I2) (fun i k hn => k3 i k (by unfold SRt; unfold sR at hn; omega)) (fun i k hn => rfl) h1)))
set_option maxRecDepth 20000 in
theorem pr_sum (hs : zPc s) (hps : p ≠ s) (h : zIw I L p P V d t kc rt u bb T hm X f1 f2) (hQ : ∀ a J1 K1 R1, zRe w mX10_sum rX10_sum [.ref 87, .int x] (SH, J1, K1, R1) a → Q (some a) (SH, J1, K1, R1)) : zXM w mX9_sum rX9_sum [.ref 0, .int x] (SH, I, L, RF p s r) Q := by
  refine cl_sum h.1 (hQ _ _ _ _ (fun Q2 hQ2 => ?_))
  have h1 := h
  refine mo_sum h1.2.1 (fun I2 k3 => hQ2 _ (zIw_inv hs hps (zIw_r (J := I2) (fun i k hn => k3 i k (by unfold SRt; unfold sR at hn; omega)) (fun i k hn => rfl) h1)))
set_option maxRecDepth 20000 in
theorem pr_dodgers (hs : zPc s) (hps : p ≠ s) (h : zIw I L p P V d t kc rt u bb T hm X f1 f2) (hQ : ∀ a J1 K1 R1, zRe w mX10_dodgers rX10_dodgers [.ref 87, .int x, .int y, .int z, .int v] (SH, J1, K1, R1) a → Q (some a) (SH, J1, K1, R1)) : zXM w mX9_dodgers rX9_dodgers [.ref 0, .int x, .int y, .int z, .int v] (SH, I, L, RF p s r) Q := by
  refine cl_dodgers (hQ _ _ _ _ (fun Q2 hQ2 => ?_))
  have h1 := h
  exact mo_dodgers (hQ2 _ (zIw_inv hs hps (zIw_t2 h1)))
set_option maxRecDepth 20000 in
theorem pr_count (hs : zPc s) (hps : p ≠ s) (h : zIw I L p P V d t kc rt u bb T hm X f1 f2) (hQ : ∀ a J1 K1 R1, zRe w mX10_count rX10_count [.ref 87, .int x] (SH, J1, K1, R1) a → Q (some a) (SH, J1, K1, R1)) : zXM w mX9_count rX9_count [.ref 0, .int x] (SH, I, L, RF p s r) Q := by
  refine cl_count h.1 h.2.2.2.2.1.1 h.2.2.2.2.2.2.2.1 h.2.2.1 (hQ _ _ _ _ (fun Q2 hQ2 => ?_))
  have h1 := h
  exact mo_count h1.2.1 h1.2.2.2.2.2.1.1 h1.2.2.2.2.2.2.2.1 h1.2.2.2.1 (hQ2 _ (zIw_inv hs hps (zIw_t2 h1)))
set_option maxRecDepth 20000 in
theorem pr_right (hs : zPc s) (hps : p ≠ s) (h : zIw I L p P V d t kc rt u bb T hm X f1 f2) (hQ : ∀ a J1 K1 R1, zRe w mX10_right rX10_right [.ref 87, .int x] (SH, J1, K1, R1) a → Q (some a) (SH, J1, K1, R1)) : zXM w mX9_right rX9_right [.ref 0, .int x] (SH, I, L, RF p s r) Q := by
  refine cl_right h.1.1 h.1.2.2.2.1.1.2.2.2.1 h.2.2.2.2.1.1 h.2.2.2.2.2.2.2.1 (fun I1 k1 => hQ _ _ _ _ (fun Q2 hQ2 => ?_))
  have h1 := zIw_c (J := I1) (K := L) (fun i k hn => k1 i k (by unfold zS52; unfold sC at hn; omega)) (fun i k hn => rfl) h
  refine mo_right h1.2.1.2.2.2.1.1 h1.2.2.2.2.2.1.1 h1.2.2.2.2.2.2.2.1 (fun I2 k3 => hQ2 _ (zIw_inv hs hps (zIw_r (J := I2) (fun i k hn => k3 i k (by unfold zS131t; unfold sR at hn; omega)) (fun i k hn => rfl) h1)))
set_option maxRecDepth 20000 in
theorem pr_joined (hs : zPc s) (hps : p ≠ s) (h : zIw I L p P V d t kc rt u bb T hm X f1 f2) (hQ : ∀ a J1 K1 R1, zRe w mX10_joined rX10_joined [.ref 87, .int x, .int y, .int z] (SH, J1, K1, R1) a → Q (some a) (SH, J1, K1, R1)) : zXM w mX9_joined rX9_joined [.ref 0, .int x, .int y, .int z] (SH, I, L, RF p s r) Q := by
  refine cl_joined h.1.1 h.1.2.2.2.1.1.2.2.2.1 h.2.2.2.2.1.1 h.2.2.2.2.2.2.2.1 (fun I1 k1 => hQ _ _ _ _ (fun Q2 hQ2 => ?_))
  have h1 := zIw_c (J := I1) (K := L) (fun i k hn => k1 i k (by unfold zS52; unfold sC at hn; omega)) (fun i k hn => rfl) h
  refine mo_joined h1.2.1.2.2.2.1.1 h1.2.2.2.2.2.1.1 h1.2.2.2.2.2.2.2.1 (fun I2 k3 => hQ2 _ (zIw_inv hs hps (zIw_r (J := I2) (fun i k hn => k3 i k (by unfold zS131t; unfold sR at hn; omega)) (fun i k hn => rfl) h1)))
set_option maxRecDepth 20000 in
theorem pr_tells (hs : zPc s) (hps : p ≠ s) (h : zIw I L p P V d t kc rt u bb T hm X f1 f2) (hQ : ∀ a J1 K1 R1, zRe w mX10_tells rX10_tells [.ref 87] (SH, J1, K1, R1) a → Q (some a) (SH, J1, K1, R1)) : zXM w mX9_tells rX9_tells [.ref 0] (SH, I, L, RF p s r) Q := by
  refine cl_tells h.1.1 h.1.2.2.2.1.1.2.2.2.1 h.1.2.2.1.1 h.2.2.2.2.1.1 h.2.2.2.2.2.2.2.1 (fun I1 k1 => hQ _ _ _ _ (fun Q2 hQ2 => ?_))
  have h1 := zIw_c (J := I1) (K := L) (fun i k hn => k1 i k (by unfold zS52; unfold sC at hn; omega)) (fun i k hn => rfl) h
  refine mo_tells h1.2.1.2.2.2.1.1 h1.1.2.2.1.1 h1.2.2.2.2.2.1.1 h1.2.2.2.2.2.2.2.1 (fun I2 k3 => hQ2 _ (zIw_inv hs hps (zIw_r (J := I2) (fun i k hn => k3 i k (by unfold zS131t; unfold sR at hn; omega)) (fun i k hn => rfl) h1)))
set_option maxRecDepth 20000 in
theorem pr_fault (hs : zPc s) (hps : p ≠ s) (h : zIw I L p P V d t kc rt u bb T hm X f1 f2) (hQ : ∀ a J1 K1 R1, zRe w mX10_fault rX10_fault [.ref 87, .int x] (SH, J1, K1, R1) a → Q (some a) (SH, J1, K1, R1)) : zXM w mX9_fault rX9_fault [.ref 0, .int x] (SH, I, L, RF p s r) Q := by
  refine cl_fault (hQ _ _ _ _ (fun Q2 hQ2 => ?_))
  refine mo_fault ?_
  have e : aFault (I 87 4) (I 87 5) x = aFault (I 4 10) (I 4 11) x := by
    rw [h.2.2.2.2.2.1.2.2.2.2.2.1, h.2.2.2.2.2.1.2.2.2.2.2.2.1, h.2.2.2.2.1.2.2.2.2.2.2.2.1, h.2.2.2.2.1.2.2.2.2.2.2.2.2]
  rw [e]
  exact hQ2 _ (zIw_inv hs hps (zIw_t2 h))
end ZN98zo
