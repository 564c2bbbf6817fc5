section
/-! ===== TEXT: a formula, pure ===== -/
/-- held knots, rows, how many written, how many counted -/
abbrev oFx : Type := List Nat × (Nat → Nat → Int32) × Nat × Nat
abbrev oFm : Type := List Nat × oFx
def rkN (k : Nat) : Nat := if 13 ≤ k then 6 else if 11 ≤ k then 5 else if 5 ≤ k then 4 else if k = 2 then 3 else if k = 3 then 2 else if k = 4 then 1 else 0
def fGr (R : Nat → Nat → Int32) (n k : Nat) (a b : Int32) : Nat → Nat → Int32 := zu (zu (zu R 107 n (nI k)) 108 n a) 109 n b
def fPop (k : Nat) (X : oFx) : oFx := if k = 2 then (X.2.2.1 :: X.1.tail, fGr X.2.1 X.2.2.1 2 (nI (X.1.headD 0)) (-1), X.2.2.1 + 1, X.2.2.2) else (X.2.2.1 :: X.1.tail.tail, fGr X.2.1 X.2.2.1 k (nI (X.1.tail.headD 0)) (nI (X.1.headD 0)), X.2.2.1 + 1, X.2.2.2)
def fBind (l : Nat) : List Nat → oFx → oFm
  | [], X => ([], X)
  | k :: ws, X => if l ≤ rkN k then fBind l ws (fPop k X) else (k :: ws, X)
def brk : List Nat → Nat
  | [] => 0
  | k :: ws => brk ws + (if k = 0 then 1 else 0)
def nbk : List Nat → Nat
  | [] => 0
  | k :: ws => nbk ws + (if k = 0 then 0 else 1)
def bin : List Nat → Nat
  | [] => 0
  | k :: ws => bin ws + (if 3 ≤ k then 1 else 0)
def opN (k : Nat) : Nat := if k = 45 then 3 else if k = 44 then 4 else if 7 ≤ k ∧ k ≤ 16 then k - 2 else 0
def nmN (k : Nat) : Nat := if k = 27 then 6 else if k = 26 then 7 else k - 20
def cJt (k : Nat) : Nat := if k = 0 then 5 else if k = 2 then 46 else if k = 3 then 45 else if k = 4 then 44 else k + 2
def fLv (l : Nat) : Nat := if rkN l = 4 then 5 else rkN l
def fLeaf (t : oTk) (S : oFm) : oF ⊕ (oFm × Bool) :=
  if tKd t = 5 then (if brk S.1 = 8 then .inl (2, tAt t) else .inr ((0 :: S.1, S.2), true)) else
  if tKd t = 46 ∧ rkN (S.1.headD 0) ≤ 3 then (if S.2.2.2.2 = 64 then .inl (2, tAt t) else .inr ((2 :: S.1, S.2.1, S.2.2.1, S.2.2.2.1, S.2.2.2.2 + 1), true)) else
  if tKd t = 2 then (if 9999 < (tVl t).toNatClampNeg then .inl (2, tAt t) else if S.2.2.2.2 = 64 then .inl (2, tAt t) else .inr ((S.1, S.2.2.2.1 :: S.2.1, fGr S.2.2.1 S.2.2.2.1 0 (nI (tVl t).toNatClampNeg) 0, S.2.2.2.1 + 1, S.2.2.2.2 + 1), false)) else
  if 20 ≤ tKd t ∧ tKd t ≤ 27 then (if S.2.2.2.2 = 64 then .inl (2, tAt t) else .inr ((S.1, S.2.2.2.1 :: S.2.1, fGr S.2.2.1 S.2.2.2.1 1 (nI (nmN (tKd t))) 0, S.2.2.2.1 + 1, S.2.2.2.2 + 1), false)) else
  .inl (1, tAt t)
def fSign (t : oTk) (S : oFm) : oF ⊕ (oFm × Bool) :=
  if tKd t = 6 ∧ 0 < brk S.1 then .inr (((fBind 1 S.1 S.2).1.tail, (fBind 1 S.1 S.2).2), false) else
  if opN (tKd t) = 0 then .inl (1, tAt t) else
  if rkN (opN (tKd t)) = 4 ∧ rkN ((fBind (fLv (opN (tKd t))) S.1 S.2).1.headD 0) = 4 then .inl (1, tAt t) else
  if S.2.2.2.2 = 64 then .inl (2, tAt t) else
  .inr ((opN (tKd t) :: (fBind (fLv (opN (tKd t))) S.1 S.2).1, (fBind (fLv (opN (tKd t))) S.1 S.2).2.1, (fBind (fLv (opN (tKd t))) S.1 S.2).2.2.1, (fBind (fLv (opN (tKd t))) S.1 S.2).2.2.2.1, S.2.2.2.2 + 1), true)
def fSum (E : oEn) : Nat → oTk → oFm → Bool → oF ⊕ (oTk × oFm)
  | 0, t, _, _ => .inl (1, tAt t)
  | n + 1, t, S, w => if tKd t = 4 ∧ w = false ∧ brk S.1 = 0 then .inr (t, fBind 1 S.1 S.2) else
    match (if w = true then fLeaf t S else fSign t S) with
    | .inl f => .inl f
    | .inr (S', w') => fSum E n (tNx E t) S' w'
/-- what holds while a formula is read: F where its law begins, R0 the rows as they were -/
def FOk (F : Nat) (R0 : Nat → Nat → Int32) (S : oFm) (w : Bool) : Prop :=
  S.2.2.2.1 + nbk S.1 = S.2.2.2.2 ∧ S.2.2.2.2 ≤ 64 ∧ brk S.1 ≤ 8 ∧ F ≤ S.2.2.2.1 ∧
  jPos (S.2.2.1 107) (S.2.2.1 108) (S.2.2.1 109) F (S.2.2.2.1 - F) = some S.2.1 ∧
  S.2.1.length = bin S.1 + (if w = true then 0 else 1) ∧ (∀ k ∈ S.1, k ≠ 1 ∧ k ≤ 14) ∧
  (w = false → F < S.2.2.2.1 ∧ S.2.1.head? = some (S.2.2.2.1 - 1)) ∧
  (∀ i, F ≤ i → i < S.2.2.2.1 → ∃ k, k ≤ 14 ∧ S.2.2.1 107 i = nI k ∧ (k = 0 → ∃ n, n ≤ 9999 ∧ S.2.2.1 108 i = nI n) ∧ (k = 1 → ∃ n, n < 8 ∧ S.2.2.1 108 i = nI n)) ∧
  zKpt (fun i k => 107 ≤ i ∧ i ≤ 109 ∧ F ≤ k) R0 S.2.2.1
section ZN98y
variable {F n c k l : Nat} {R R0 : Nat → Nat → Int32} {ws hs : List Nat} {X : oFx} {S : oFm} {w : Bool} {a b : Int32} {t : oTk} {E : oEn}
theorem len_bn : ∀ ws : List Nat, ws.length = brk ws + nbk ws
  | [] => rfl
  | k :: ws => by
    have := len_bn ws
    unfold brk nbk
    rw [List.length_cons]
    split <;> omega
theorem bin_le : ∀ ws : List Nat, bin ws ≤ nbk ws
  | [] => Nat.le_refl _
  | k :: ws => by
    have := bin_le ws
    unfold bin nbk
    repeat' split
    all_goals omega
theorem rkN_lt (h : k ≤ 14) : rkN k ≤ 6 := by unfold rkN; (repeat' split) <;> omega
theorem rkN_0 : rkN k = 0 ↔ k = 0 ∨ k = 1 := by unfold rkN; (repeat' split) <;> omega
theorem jPos_ext {K K' A A' O O' : Nat → Int32} (h : ∀ i, i < F + n → K i = K' i ∧ A i = A' i ∧ O i = O' i) : jPos K A O F n = jPos K' A' O' F n := by
  induction n with
  | zero => rfl
  | succ n ih =>
    rw [jPos, jPos, ih (fun i hi => h i (by omega))]
    obtain ⟨h1, h2, h3⟩ := h (F + n) (by omega)
    rw [h1, h2, h3]
theorem fGr_107 : fGr R n k a b 107 = fun i => if i = n then nI k else R 107 i := by funext i; simp [fGr, zu_at]
theorem fGr_108 : fGr R n k a b 108 = fun i => if i = n then a else R 108 i := by funext i; simp [fGr, zu_at]
theorem fGr_109 : fGr R n k a b 109 = fun i => if i = n then b else R 109 i := by funext i; simp [fGr, zu_at]
theorem fGr_pos (hF : F ≤ n) (h : jPos (R 107) (R 108) (R 109) F (n - F) = some hs) : jPos (fGr R n k a b 107) (fGr R n k a b 108) (fGr R n k a b 109) F (n + 1 - F) = jPosS n (nI k) a b hs := by
  rw [show n + 1 - F = (n - F) + 1 by omega, jPos, fGr_107, fGr_108, fGr_109]
  rw [jPos_ext (K' := R 107) (A' := R 108) (O' := R 109) (fun i hi => by
    have : ¬ i = n := by omega
    simp [this]), h, Option.bind_some, show F + (n - F) = n by omega]
  simp
theorem fGr_kpt (hF : F ≤ n) (h : zKpt (fun i k => 107 ≤ i ∧ i ≤ 109 ∧ F ≤ k) R0 R) : zKpt (fun i k => 107 ≤ i ∧ i ≤ 109 ∧ F ≤ k) R0 (fGr R n k a b) := ((h.u (by omega)).u (by omega)).u (by omega)
/-- one knot more among those that are right -/
theorem fGr_kinds (hk : k ≤ 14) (h0 : k = 0 → ∃ n, n ≤ 9999 ∧ a = nI n) (h1 : k = 1 → ∃ n, n < 8 ∧ a = nI n) (h : ∀ i, F ≤ i → i < n → ∃ k, k ≤ 14 ∧ R 107 i = nI k ∧ (k = 0 → ∃ n, n ≤ 9999 ∧ R 108 i = nI n) ∧ (k = 1 → ∃ n, n < 8 ∧ R 108 i = nI n)) : ∀ i, F ≤ i → i < n + 1 → ∃ q, q ≤ 14 ∧ fGr R n k a b 107 i = nI q ∧ (q = 0 → ∃ n', n' ≤ 9999 ∧ fGr R n k a b 108 i = nI n') ∧ (q = 1 → ∃ n', n' < 8 ∧ fGr R n k a b 108 i = nI n') := by
  intro i h2 h3
  rw [fGr_107, fGr_108]
  by_cases e : i = n
  · subst e
    exact ⟨k, hk, by simp, by simpa using h0, by simpa using h1⟩
  · simp only [e, if_false]
    exact h i h2 (by omega)
/-- one waiting sign bound -/
theorem fPop_ok (hk0 : k ≠ 0) (h : FOk F R0 (k :: ws, X) false) : FOk F R0 (ws, fPop k X) false := by
  obtain ⟨hs, R, n, c⟩ := X
  obtain ⟨h1, h2, h3, h4, h5, h6, h7, h8, h9, h10⟩ := h
  simp only [brk, nbk, bin, hk0, if_false, Bool.false_eq_true] at h1 h2 h3 h4 h5 h6 h8
  have hk := h7 k List.mem_cons_self
  have h7' : ∀ q ∈ ws, q ≠ 1 ∧ q ≤ 14 := fun q hq => h7 q (List.mem_cons_of_mem _ hq)
  unfold fPop
  by_cases k2 : k = 2
  · rw [if_pos k2]
    subst k2
    have h6' : hs.length = bin ws + 1 := by simpa using h6
    match hs, h5, h6', h8 with
    | y :: s1, h5, h6', h8 =>
      refine ⟨by simp only; omega, h2, by simp only; omega, by simp only; omega, ?_, by simpa using h6', h7', fun _ => ⟨by simp only; omega, by simp⟩, fGr_kinds (b := -1) (by omega) (fun e => by omega) (fun e => by omega) h9, fGr_kpt h4 h10⟩
      simp only [List.headD_cons, List.tail_cons]
      rw [fGr_pos h4 h5]
      unfold jPosS
      rw [if_neg (by decide)]
      simp only
      rw [if_pos (by decide)]
      simp
  · rw [if_neg k2]
    have k3 : 3 ≤ k := by omega
    have h6' : hs.length = bin ws + 2 := by simpa [k3] using h6
    match hs, h5, h6', h8 with
    | y :: z :: s1, h5, h6', h8 =>
      have n0 : ¬ nI k = 0 := fun q => by have := (nI_eq (b := 0) (by omega) (by omega)).mp q; omega
      have n1 : ¬ nI k = 1 := fun q => by have := (nI_eq (b := 1) (by omega) (by omega)).mp q; omega
      have n2 : ¬ nI k = 2 := fun q => by have := (nI_eq (b := 2) (by omega) (by omega)).mp q; omega
      refine ⟨by simp only; omega, h2, by simp only; omega, by simp only; omega, ?_, by simp at h6' ⊢; omega, h7', fun _ => ⟨by simp only; omega, by simp⟩, fGr_kinds (b := nI y) hk.2 (fun e => by omega) (fun e => by omega) h9, fGr_kpt h4 h10⟩
      simp only [List.headD_cons, List.tail_cons]
      rw [fGr_pos h4 h5]
      unfold jPosS
      simp [n0, n1, n2]
theorem fBind_ok (hl : 1 ≤ l) : ∀ (ws : List Nat) (X : oFx), FOk F R0 (ws, X) false → FOk F R0 (fBind l ws X) false
  | [], X, h => h
  | k :: ws, X, h => by
    unfold fBind
    split
    · rename_i hk
      exact fBind_ok hl ws _ (fPop_ok (fun e => by subst e; have : rkN 0 = 0 := rfl; omega) h)
    · exact h
theorem fPop_c : (fPop k X).2.2.2 = X.2.2.2 := by unfold fPop; split <;> rfl
theorem fBind_c : ∀ (ws : List Nat) (X : oFx), (fBind l ws X).2.2.2.2 = X.2.2.2
  | [], X => rfl
  | k :: ws, X => by
    unfold fBind
    split
    · rw [fBind_c ws _, fPop_c]
    · rfl
theorem fBind_brk (hl : 1 ≤ l) : ∀ (ws : List Nat) (X : oFx), brk (fBind l ws X).1 = brk ws
  | [], X => rfl
  | k :: ws, X => by
    unfold fBind
    split
    · rename_i hk
      have : ¬ k = 0 := fun e => by subst e; have : rkN 0 = 0 := rfl; omega
      rw [fBind_brk hl ws _]
      show brk ws = brk ws + (if k = 0 then 1 else 0)
      rw [if_neg this]; rfl
    · rfl
theorem fBind_top (hl : 1 ≤ l) : ∀ (ws : List Nat) (X : oFx), rkN ((fBind l ws X).1.headD 0) < l
  | [], X => by show rkN 0 < l; have : rkN 0 = 0 := rfl; omega
  | k :: ws, X => by
    unfold fBind
    split
    · exact fBind_top hl ws _
    · rename_i hk; show rkN k < l; omega
theorem fBind_mem : ∀ (ws : List Nat) (X : oFx), ∀ q ∈ (fBind l ws X).1, q ∈ ws
  | [], X => fun q hq => hq
  | k :: ws, X => by
    unfold fBind
    split
    · exact fun q hq => List.mem_cons_of_mem _ (fBind_mem ws _ q hq)
    · exact fun q hq => hq
/-- behind a bracket that closes stands its own -/
theorem fBind_br (hb : 0 < brk ws) (h7 : ∀ k ∈ ws, k ≠ 1 ∧ k ≤ 14) : ∃ ws', (fBind 1 ws X).1 = 0 :: ws' := by
  have h1 := fBind_brk (l := 1) (by omega) ws X
  have h2 := fBind_top (l := 1) (by omega) ws X
  have h3 := fBind_mem (l := 1) ws X
  generalize (fBind 1 ws X).1 = v at h1 h2 h3
  match v, h1, h2, h3 with
  | [], h1, _, _ => rw [← h1] at hb; exact absurd hb (by show ¬ 0 < 0; omega)
  | k :: v, _, h2, h3 =>
    have h2' : rkN k < 1 := h2
    have h4 := h7 k (h3 k List.mem_cons_self)
    have : k = 0 ∨ k = 1 := rkN_0.mp (by omega)
    have : k = 0 := by omega
    subst this
    exact ⟨v, rfl⟩
theorem opN_b (h : opN k ≠ 0) : 3 ≤ opN k ∧ opN k ≤ 14 := by unfold opN at h ⊢; (repeat' split) <;> simp_all <;> omega
theorem nmN_b (h : 20 ≤ k ∧ k ≤ 27) : nmN k < 8 := by unfold nmN; (repeat' split) <;> omega
theorem fLeaf_ok {S' : oFm} {w' : Bool} (hS : FOk F R0 S true) (h : fLeaf t S = .inr (S', w')) : FOk F R0 S' w' := by
  obtain ⟨ws, hs, R, n, c⟩ := S
  obtain ⟨h1, h2, h3, h4, h5, h6, h7, h8, h9, h10⟩ := hS
  simp only [if_true] at h1 h2 h3 h4 h5 h6 h9 h10
  unfold fLeaf at h
  split at h
  · split at h
    · cases h
    · rename_i hb
      cases h
      refine ⟨?_, h2, ?_, h4, h5, ?_, ?_, (fun q => by cases q), h9, h10⟩
      · simp only [nbk, if_true]; exact h1
      · simp only [brk, if_true]; simp only at hb; omega
      · simp only [bin, if_true]; rw [if_neg (by omega)]; exact h6
      · intro q hq
        rcases List.mem_cons.mp hq with rfl | hq
        · exact ⟨by omega, by omega⟩
        · exact h7 q hq
  · split at h
    · split at h
      · cases h
      · rename_i hc
        cases h
        simp only at hc
        refine ⟨?_, ?_, ?_, h4, h5, ?_, ?_, (fun q => by cases q), h9, h10⟩
        · simp only [nbk]; rw [if_neg (by omega)]; omega
        · simp only; omega
        · simp only [brk]; rw [if_neg (by omega)]; exact h3
        · simp only [bin, if_true]; rw [if_neg (by omega)]; exact h6
        · intro q hq
          rcases List.mem_cons.mp hq with rfl | hq
          · exact ⟨by omega, by omega⟩
          · exact h7 q hq
    · split at h
      · split at h
        · cases h
        · split at h
          · cases h
          · rename_i hv hc
            cases h
            simp only at hc
            refine ⟨by simp only; omega, by simp only; omega, h3, by simp only; omega, ?_, ?_, h7, fun _ => ⟨by simp only; omega, by simp⟩, fGr_kinds (b := 0) (by omega) (fun _ => ⟨_, by omega, rfl⟩) (fun e => by omega) h9, fGr_kpt h4 h10⟩
            · simp only
              rw [fGr_pos h4 h5]; unfold jPosS; rw [if_pos (by decide)]
            · simp only [List.length_cons, Bool.false_eq_true, if_false]; omega
      · split at h
        · rename_i hn
          split at h
          · cases h
          · rename_i hc
            cases h
            simp only at hc
            refine ⟨by simp only; omega, by simp only; omega, h3, by simp only; omega, ?_, ?_, h7, fun _ => ⟨by simp only; omega, by simp⟩, fGr_kinds (b := 0) (by omega) (fun e => by omega) (fun _ => ⟨_, nmN_b hn, rfl⟩) h9, fGr_kpt h4 h10⟩
            · simp only
              rw [fGr_pos h4 h5]; unfold jPosS; rw [if_pos (by decide)]
            · simp only [List.length_cons, Bool.false_eq_true, if_false]; omega
        · cases h
theorem fLv_1 (h : opN k ≠ 0) : 1 ≤ fLv (opN k) := by
  have := opN_b h
  unfold fLv
  split
  · omega
  · have : ¬ rkN (opN k) = 0 := fun q => by have := rkN_0.mp q; omega
    omega
theorem fSign_ok {S' : oFm} {w' : Bool} (hS : FOk F R0 S false) (h : fSign t S = .inr (S', w')) : FOk F R0 S' w' := by
  obtain ⟨ws, X⟩ := S
  unfold fSign at h
  split at h
  · rename_i hb
    cases h
    obtain ⟨ws', e⟩ := fBind_br (X := X) hb.2 hS.2.2.2.2.2.2.1
    have hB := fBind_ok (l := 1) (by omega) ws X hS
    simp only
    generalize fBind 1 ws X = B at e hB ⊢
    obtain ⟨v, Y⟩ := B
    simp only at e
    subst e
    obtain ⟨h1, h2, h3, h4, h5, h6, h7, h8, h9, h10⟩ := hB
    simp only [brk, nbk, bin, if_true] at h1 h3 h6
    refine ⟨h1, h2, ?_, h4, h5, ?_, fun q hq => h7 q (List.mem_cons_of_mem _ hq), h8, h9, h10⟩
    · simp only [List.tail_cons]; omega
    · simp only [List.tail_cons]; rw [h6]; simp
  · split at h
    · cases h
    · rename_i ho
      split at h
      · cases h
      · split at h
        · cases h
        · rename_i hc
          cases h
          have hB := fBind_ok (fLv_1 ho) ws X hS
          have hcc := fBind_c (l := fLv (opN (tKd t))) ws X
          simp only at hc ⊢
          generalize fBind (fLv (opN (tKd t))) ws X = B at hB hcc ⊢
          obtain ⟨v, Y⟩ := B
          have ob := opN_b ho
          obtain ⟨h1, h2, h3, h4, h5, h6, h7, h8, h9, h10⟩ := hB
          simp only at hcc
          refine ⟨?_, ?_, ?_, h4, h5, ?_, ?_, (fun q => by cases q), h9, h10⟩
          · simp only [nbk] at h1 ⊢; rw [if_neg (by omega)]; omega
          · simp only at h2 ⊢; omega
          · simp only [brk]; rw [if_neg (by omega)]; exact h3
          · simp only [bin, if_true]; rw [if_pos ob.1]; simp only [Bool.false_eq_true, if_false] at h6; omega
          · intro q hq
            rcases List.mem_cons.mp hq with rfl | hq
            · exact ⟨by omega, by omega⟩
            · exact h7 q hq
/-- all bound, where no bracket is open -/
theorem fBind_all (hb : brk ws = 0) (h7 : ∀ k ∈ ws, k ≠ 1 ∧ k ≤ 14) : (fBind 1 ws X).1 = [] := by
  have h1 := fBind_brk (l := 1) (by omega) ws X
  have h2 := fBind_top (l := 1) (by omega) ws X
  have h3 := fBind_mem (l := 1) ws X
  generalize (fBind 1 ws X).1 = v at h1 h2 h3
  match v, h1, h2, h3 with
  | [], _, _, _ => rfl
  | k :: v, h1, h2, h3 =>
    have h2' : rkN k < 1 := h2
    have h4 := h7 k (h3 k List.mem_cons_self)
    have : k = 0 ∨ k = 1 := rkN_0.mp (by omega)
    have : k = 0 := by omega
    subst this
    rw [hb] at h1
    exact absurd h1 (by show ¬ brk v + (if 0 = 0 then 1 else 0) = 0; rw [if_pos rfl]; omega)
end ZN98y
end

section
/-! ===== TEXT: a formula in the class ===== -/
def zWs (f g : Nat → Int32) : List Nat → Prop
  | [] => True
  | k :: ws => f ws.length = nI (cJt k) ∧ g ws.length = nI (rkN k) ∧ zWs f g ws
/-- the class's stacks and code beside the pure ones -/
def zFc (J : Nat → Nat → Int32) (s : Nat) (S : oFm) : Prop := J 4 4 = nI S.1.length ∧ J 4 5 = nI (brk S.1) ∧ J 4 6 = nI S.2.2.2.1 ∧ J s 16 = nI S.2.2.2.2 ∧ zWs (J 6) (J 7) S.1 ∧ ∀ i, i < S.2.2.2.1 → J (s + 13) i = jEnc (S.2.2.1 107 i) (S.2.2.1 108 i)
/-- what a formula changes in the class -/
def SFc (s i k : Nat) : Prop := (i = 4 ∧ 4 ≤ k ∧ k ≤ 6) ∨ i = 6 ∨ i = 7 ∨ (i = s ∧ k = 16) ∨ i = s + 13
section ZN98z
variable {w : zP} {Q : Option Value → zMem → Prop} {μ : zMem} {I J J' : Nat → Nat → Int32} {L K : Nat → Nat → Int64} {p s : Nat} {r : Option Nat} {a b c i j k n e m lo hi l : Nat} {x y v : Int32} {E : oEn} {t u : oTk} {D : oDf} {ws hs : List Nat} {R : Nat → Nat → Int32} {X : oFx} {S : oFm} {f g f' g' : Nat → Int32}
theorem zWs_c : ∀ {ws : List Nat}, zWs f g ws → (∀ i, i < ws.length → f' i = f i ∧ g' i = g i) → zWs f' g' ws
  | [], _, _ => trivial
  | k :: ws, h, hc => by
    obtain ⟨h1, h2, h3⟩ := h
    have := hc ws.length (by simp)
    exact ⟨by rw [this.1]; exact h1, by rw [this.2]; exact h2, zWs_c h3 (fun i hi => hc i (by rw [List.length_cons]; omega))⟩
theorem SFc_s (h : SFc s i k) : SPs s i k := by unfold SFc at h; unfold SPs; omega
theorem cJt_lt (h : k ≤ 14) : cJt k < 47 := by unfold cJt; (repeat' split) <;> omega
theorem jEnd_0 : jEnc (nI 0) x = x := by unfold jEnc; rw [if_pos (by decide)]
theorem jEnd_1 : ∀ k, k < 28 → 20 ≤ k → jEnc (nI 1) (nI (nmN k)) = -nI k := by
  have h : ∀ k, k < 28 → (k < 20 ∨ jEnc (nI 1) (nI (nmN k)) = -nI k) := by decide +kernel
  exact fun k h1 h2 => (h k h1).resolve_left (by omega)
theorem jEnd_k : ∀ k, k < 15 → k ≠ 0 → k ≠ 1 → ∀ a, jEnc (nI k) a = -nI (cJt k) := by
  have h : ∀ k, k < 15 → (k = 0 ∨ k = 1 ∨ ((¬ nI k = 0 ∧ ¬ nI k = 1) ∧ (if nI k = 2 then (-46 : Int32) else if nI k = 3 then -45 else if nI k = 4 then -44 else -(nI k + 2)) = -nI (cJt k))) := by decide +kernel
  intro k hk h0 h1 a
  rcases h k hk with h | h | ⟨⟨g1, g2⟩, h⟩
  · exact absurd h h0
  · exact absurd h h1
  · unfold jEnc; rw [if_neg g1, if_neg g2]; exact h
set_option maxRecDepth 20000 in
theorem cl_topRank (h4 : J 4 4 = nI ws.length) (hw : zWs (J 6) (J 7) ws) (hl : ws.length ≤ 72) (hQ : Q (some (.int (nI (rkN (ws.headD 0))))) (SH, zTs J t, L, RF p s r)) : zXM w mX5_topRank rX5_topRank [.ref 4] (SH, zTs J t, L, RF p s r) Q := by
  unfold zXM
  match ws, h4, hw, hl, hQ with
  | [], h4, hw, hl, hQ =>
    have h4' : J 4 4 = 0 := h4
    refine zBlkR (M := mX5_topRank) (nL := 1) (rt := (Option.some .int)) (blk := bX5_topRank_0) (T := [(11, bX5_topRank_11), (22, bX5_topRank_22)]) 1 hX5_topRank_0 (zChks_cons hX5_topRank_11 (zChks_cons hX5_topRank_22 zChks_nil)) rfl rfl rfl (Nat.le_of_ble_eq_true rfl) (Nat.le_of_ble_eq_true rfl) ?_
    simp (implicitDefEqProofs := false) only [bX5_topRank_0, bX5_topRank_11, bX5_topRank_22, zRun_cons, zRun_nil, zLk, zSto, zIns, zFil, zf0, zf1, zf2, zf3, List.filter_cons, List.filter_nil, Nat.reduceAdd, Nat.reduceEqDiff, Nat.reduceLT, Nat.reduceLeDiff, Nat.reduceBEq, Nat.reduceBNe, reduceIte, if_true, if_false, Bool.false_and, Bool.true_and, Bool.and_true, Bool.and_false, Bool.not_false, Bool.not_true, Bool.false_eq_true, beq_self_eq_true, BEq.rfl, zCat1, zCat2, zCat3, zKdI, zKdL, zKdR, true_and, and_true, zSI, zSL, zSR, zu_at, and_self, and_false, false_and, lv_args, zKdZ, zKdO, zB01, zB11, Option.toList_none, Option.toList_some, List.nil_append, List.cons_append, true_or, or_true, zRow_rd, zu_rd, zo_aload_n, zo_getfield, zo_if_ne, zo_iconst, zo_goto, zo_isub, zo_iaload, zo_ireturn, zi_0, zi_1, zKd_5_4, zKd_5_3, sh_4, zcl_0, rf_4_3, sh_7, zcl_1, zvi_0_72, zvi_1_72, zRt, zKn_s, zKn_0, zFind, zTs_12, zTs_13, zTs_14, zTs_15, zTs_16, zTs_17, zTs_o, zTs_u, h4', zN10, zN01, not_true_eq_false, not_false_eq_true, false_implies, true_implies, implies_true, eq_self, nI_1, nI_40, nI_7, vz0, vz1, zb1_e0, zb1_n0]
    exact hQ
  | k :: ws, h4, hw, hl, hQ =>
    rw [List.length_cons] at h4 hl
    have z : (nI (ws.length + 1) = 0) = False := eq_false (fun q => by have := (nI_eq (b := 0) (by omega) (by omega)).mp q; omega)
    have e1 : nI (ws.length + 1) - 1 = nI ws.length := by rw [← nI_1, Int32.add_sub_cancel]
    have hv : vp_in (nI ws.length) 72 := zvn (by omega) (by omega)
    have cl : (nI ws.length).toNatClampNeg = ws.length := nI_clamp (by omega)
    have h7 := hw.2.1
    refine zBlkR (M := mX5_topRank) (nL := 1) (rt := (Option.some .int)) (blk := bX5_topRank_0) (T := [(11, bX5_topRank_11), (22, bX5_topRank_22)]) 1 hX5_topRank_0 (zChks_cons hX5_topRank_11 (zChks_cons hX5_topRank_22 zChks_nil)) rfl rfl rfl (Nat.le_of_ble_eq_true rfl) (Nat.le_of_ble_eq_true rfl) ?_
    simp (implicitDefEqProofs := false) only [bX5_topRank_0, bX5_topRank_11, bX5_topRank_22, zRun_cons, zRun_nil, zLk, zSto, zIns, zFil, zf0, zf1, zf2, zf3, List.filter_cons, List.filter_nil, Nat.reduceAdd, Nat.reduceEqDiff, Nat.reduceLT, Nat.reduceLeDiff, Nat.reduceBEq, Nat.reduceBNe, reduceIte, if_true, if_false, Bool.false_and, Bool.true_and, Bool.and_true, Bool.and_false, Bool.not_false, Bool.not_true, Bool.false_eq_true, beq_self_eq_true, BEq.rfl, zCat1, zCat2, zCat3, zKdI, zKdL, zKdR, true_and, and_true, zSI, zSL, zSR, zu_at, and_self, and_false, false_and, lv_args, zKdZ, zKdO, zB01, zB11, Option.toList_none, Option.toList_some, List.nil_append, List.cons_append, true_or, or_true, zRow_rd, zu_rd, zo_aload_n, zo_getfield, zo_if_ne, zo_iconst, zo_goto, zo_isub, zo_iaload, zo_ireturn, zi_0, zi_1, zKd_5_4, zKd_5_3, sh_4, zcl_0, rf_4_3, sh_7, zcl_1, zvi_0_72, zvi_1_72, zRt, zKn_s, zKn_0, zFind, zTs_12, zTs_13, zTs_14, zTs_15, zTs_16, zTs_17, zTs_o, zTs_u, h4, z, e1, hv, cl, h7, zN10, zN01, not_true_eq_false, not_false_eq_true, false_implies, true_implies, implies_true, eq_self, nI_1, nI_40, nI_7, vz0, vz1, zb1_e0, zb1_n0]
    exact hQ
set_option maxRecDepth 20000 in
theorem cl_rdWrite (hs : zPc s) (hn : n < 64) (h6 : J 4 6 = nI n) (hQ : Q (some (.int 1)) (SH, zTs (zu (zu J (s + 13) n x) 4 6 (nI (n + 1))) t, L, RF p s (some s))) : zXM w mX5_write rX5_write [.ref 4, .int x] (SH, zTs J t, L, RF p s (some s)) Q := by
  unfold zXM
  have z : ((64 : Int32) ≤ nI n) = False := eq_false (by rw [show (64 : Int32) = nI 64 from rfl, zle_nat (by omega) (by omega)]; omega)
  have hv : vp_in (nI n) 64 := zvn (by omega) (by omega)
  have cl : (nI n).toNatClampNeg = n := nI_clamp (by omega)
  refine zBlkR (M := mX5_write) (nL := 2) (rt := (Option.some .boolean)) (blk := bX5_write_0) (T := [(32, bX5_write_32)]) 1 hX5_write_0 (zChks_cons hX5_write_32 zChks_nil) rfl rfl rfl (Nat.le_of_ble_eq_true rfl) (Nat.le_of_ble_eq_true rfl) ?_
  simp (implicitDefEqProofs := false) only [bX5_write_0, bX5_write_32, zRun_cons, zRun_nil, zLk, zSto, zIns, zFil, zf0, zf1, zf2, zf3, List.filter_cons, List.filter_nil, Nat.reduceAdd, Nat.reduceEqDiff, Nat.reduceLT, Nat.reduceLeDiff, Nat.reduceBEq, Nat.reduceBNe, reduceIte, if_true, if_false, Bool.false_and, Bool.true_and, Bool.and_true, Bool.and_false, Bool.not_false, Bool.not_true, Bool.false_eq_true, beq_self_eq_true, BEq.rfl, zCat1, zCat2, zCat3, zKdI, zKdL, zKdR, true_and, and_true, zSI, zSL, zSR, zu_at, and_self, and_false, false_and, lv_args, zKdZ, zKdO, zB01, zB11, Option.toList_none, Option.toList_some, List.nil_append, List.cons_append, true_or, or_true, zRow_rd, zu_rd, zo_aload_n, zo_getfield, zo_bipush, zo_icmp_ge, zo_iload_n, zo_iastore, zo_dup, zo_iconst, zo_iadd, zo_putfield, zo_putfield_2, zo_putfield_3, zo_ireturn, zb_64, zi_1, zKd_5_6, zKd_5_8, zKd_4_17, zTy_5_6, sh_4, zcl_64, rf_4_8, sh_55, rf_55_17, sh_68, sh_71, rf_71_17, sh_84, zcl_1, zvi_1_64, zRt, zPutC, zKn_s, zKn_0, zFind, (psh_0 hs), (psh_1 hs), (psh_2 hs), (psh_3 hs), (psh_4 hs), (psh_5 hs), (psh_6 hs), (psh_7 hs), (psh_8 hs), (psh_9 hs), (psh_10 hs), (psh_11 hs), (psh_12 hs), (psh_13 hs), (psh_14 hs), (psh_15 hs), (prf_1 hs), (prf_2 hs), (prf_3 hs), (prf_4 hs), (prf_6 hs), (prf_7 hs), (prf_8 hs), (prf_10 hs), (prf_11 hs), (prf_12 hs), (prf_13 hs), (prf_15 hs), (prf_17 hs), (prf_18 hs), (prf_19 hs), Nat.add_left_cancel_iff, Nat.left_eq_add, Nat.add_eq_left, (zpn_0 hs), (zpn_1 hs), (zpn_2 hs), (zpn_3 hs), (zpn_4 hs), (zpn_5 hs), (zpn_6 hs), (zpn_7 hs), zTs_12, zTs_13, zTs_14, zTs_15, zTs_16, zTs_17, zTs_o, zTs_u, h6, z, hv, cl, nI_1, zN10, zN01, not_true_eq_false, not_false_eq_true, false_implies, true_implies, implies_true, eq_self, nI_1, nI_40, nI_7, vz0, vz1, zb1_e0, zb1_n0]
  exact hQ
set_option maxRecDepth 20000 in
theorem cl_countKnot (hs : zPc s) (hn : n ≤ 64) (h6 : J s 16 = nI n) (h1 : n = 64 → Q (some (.int 0)) (SH, zTs (zu (zu J 4 10 2) 4 11 (nI (tAt t))) t, L, RF p s (some s))) (h2 : n < 64 → Q (some (.int 1)) (SH, zTs (zu J s 16 (nI (n + 1))) t, L, RF p s (some s))) : zXM w mX5_countKnot rX5_countKnot [.ref 4] (SH, zTs J t, L, RF p s (some s)) Q := by
  unfold zXM
  have z : (nI n < 64) = (n < 64) := by rw [show (64 : Int32) = nI 64 from rfl, zlt_nat (by omega) (by omega)]
  by_cases h : n < 64
  · have h' : (n < 64) = True := eq_true h
    refine zBlkR (M := mX5_countKnot) (nL := 1) (rt := (Option.some .boolean)) (blk := bX5_countKnot_0) (T := [(18, bX5_countKnot_18)]) 1 hX5_countKnot_0 (zChks_cons hX5_countKnot_18 zChks_nil) rfl rfl rfl (Nat.le_of_ble_eq_true rfl) (Nat.le_of_ble_eq_true rfl) ?_
    simp (implicitDefEqProofs := false) only [bX5_countKnot_0, bX5_countKnot_18, zRun_cons, zRun_nil, zLk, zSto, zIns, zFil, zf0, zf1, zf2, zf3, List.filter_cons, List.filter_nil, Nat.reduceAdd, Nat.reduceEqDiff, Nat.reduceLT, Nat.reduceLeDiff, Nat.reduceBEq, Nat.reduceBNe, reduceIte, if_true, if_false, Bool.false_and, Bool.true_and, Bool.and_true, Bool.and_false, Bool.not_false, Bool.not_true, Bool.false_eq_true, beq_self_eq_true, BEq.rfl, zCat1, zCat2, zCat3, zKdI, zKdL, zKdR, true_and, and_true, zSI, zSL, zSR, zu_at, and_self, and_false, false_and, lv_args, zKdZ, zKdO, zB01, zB11, Option.toList_none, Option.toList_some, List.nil_append, List.cons_append, true_or, or_true, zRow_rd, zu_rd, zo_aload_n, zo_getfield, zo_bipush, zo_icmp_lt, zo_iconst, zo_dup, zo_iadd, zo_putfield, zo_putfield_2, zo_putfield_3, zo_ireturn, zb_64, zi_2, zi_1, zKd_5_8, zKd_4_16, zTy_4_16, sh_4, rf_4_8, sh_55, sh_71, zcl_64, zcl_2, zcl_1, zRt, zPutC, zKn_s, zKn_0, zFind, (psh_0 hs), (psh_1 hs), (psh_2 hs), (psh_3 hs), (psh_4 hs), (psh_5 hs), (psh_6 hs), (psh_7 hs), (psh_8 hs), (psh_9 hs), (psh_10 hs), (psh_11 hs), (psh_12 hs), (psh_13 hs), (psh_14 hs), (psh_15 hs), (prf_1 hs), (prf_2 hs), (prf_3 hs), (prf_4 hs), (prf_6 hs), (prf_7 hs), (prf_8 hs), (prf_10 hs), (prf_11 hs), (prf_12 hs), (prf_13 hs), (prf_15 hs), (prf_17 hs), (prf_18 hs), (prf_19 hs), Nat.add_left_cancel_iff, Nat.left_eq_add, Nat.add_eq_left, (zpn_0 hs), (zpn_1 hs), (zpn_2 hs), (zpn_3 hs), (zpn_4 hs), (zpn_5 hs), (zpn_6 hs), (zpn_7 hs), zTs_12, zTs_13, zTs_14, zTs_15, zTs_16, zTs_17, zTs_o, zTs_u, h6, z, h', nI_1, zN10, zN01, not_true_eq_false, not_false_eq_true, false_implies, true_implies, implies_true, eq_self, nI_1, nI_40, nI_7, vz0, vz1, zb1_e0, zb1_n0]
    exact h2 h
  · have h' : (n < 64) = False := eq_false h
    refine zBlkR (M := mX5_countKnot) (nL := 1) (rt := (Option.some .boolean)) (blk := bX5_countKnot_0) (T := [(18, bX5_countKnot_18)]) 1 hX5_countKnot_0 (zChks_cons hX5_countKnot_18 zChks_nil) rfl rfl rfl (Nat.le_of_ble_eq_true rfl) (Nat.le_of_ble_eq_true rfl) ?_
    simp (implicitDefEqProofs := false) only [bX5_countKnot_0, bX5_countKnot_18, zRun_cons, zRun_nil, zLk, zSto, zIns, zFil, zf0, zf1, zf2, zf3, List.filter_cons, List.filter_nil, Nat.reduceAdd, Nat.reduceEqDiff, Nat.reduceLT, Nat.reduceLeDiff, Nat.reduceBEq, Nat.reduceBNe, reduceIte, if_true, if_false, Bool.false_and, Bool.true_and, Bool.and_true, Bool.and_false, Bool.not_false, Bool.not_true, Bool.false_eq_true, beq_self_eq_true, BEq.rfl, zCat1, zCat2, zCat3, zKdI, zKdL, zKdR, true_and, and_true, zSI, zSL, zSR, zu_at, and_self, and_false, false_and, lv_args, zKdZ, zKdO, zB01, zB11, Option.toList_none, Option.toList_some, List.nil_append, List.cons_append, true_or, or_true, zRow_rd, zu_rd, zo_aload_n, zo_getfield, zo_bipush, zo_icmp_lt, zo_iconst, zo_dup, zo_iadd, zo_putfield, zo_putfield_2, zo_putfield_3, zo_ireturn, zb_64, zi_2, zi_1, zKd_5_8, zKd_4_16, zTy_4_16, sh_4, rf_4_8, sh_55, sh_71, zcl_64, zcl_2, zcl_1, zRt, zPutC, zKn_s, zKn_0, zFind, (psh_0 hs), (psh_1 hs), (psh_2 hs), (psh_3 hs), (psh_4 hs), (psh_5 hs), (psh_6 hs), (psh_7 hs), (psh_8 hs), (psh_9 hs), (psh_10 hs), (psh_11 hs), (psh_12 hs), (psh_13 hs), (psh_14 hs), (psh_15 hs), (prf_1 hs), (prf_2 hs), (prf_3 hs), (prf_4 hs), (prf_6 hs), (prf_7 hs), (prf_8 hs), (prf_10 hs), (prf_11 hs), (prf_12 hs), (prf_13 hs), (prf_15 hs), (prf_17 hs), (prf_18 hs), (prf_19 hs), Nat.add_left_cancel_iff, Nat.left_eq_add, Nat.add_eq_left, (zpn_0 hs), (zpn_1 hs), (zpn_2 hs), (zpn_3 hs), (zpn_4 hs), (zpn_5 hs), (zpn_6 hs), (zpn_7 hs), zTs_12, zTs_13, zTs_14, zTs_15, zTs_16, zTs_17, zTs_o, zTs_u, h6, z, h', zN10, zN01, not_true_eq_false, not_false_eq_true, false_implies, true_implies, implies_true, eq_self, nI_1, nI_40, nI_7, vz0, vz1, zb1_e0, zb1_n0]
    refine z_cV0 (M' := mX5_fail) (R' := rX5_fail) (i := 4) [.int 2] [] eX5_fail k5_78 (by decide +kernel : decode cX5_countKnot 14 = .ok (.invokevirtual 78, 3)) (Nat.le_of_ble_eq_true rfl) ⟨Nat.le_of_ble_eq_true rfl, Nat.le_of_ble_eq_true rfl, Nat.le_of_ble_eq_true rfl, Nat.le_of_ble_eq_true rfl, Nat.le_of_ble_eq_true rfl⟩ rfl rfl rfl sh_4 ?_
    refine cl_fail ?_
    refine zBlkR (M := mX5_countKnot) (nL := 1) (rt := (Option.some .boolean)) (blk := bX5_countKnot_17) (T := []) 0 hX5_countKnot_17 zChks_nil rfl rfl rfl (Nat.le_of_ble_eq_true rfl) (Nat.le_of_ble_eq_true rfl) ?_
    simp (implicitDefEqProofs := false) only [bX5_countKnot_17, zRun_cons, zRun_nil, zLk, zSto, zIns, zFil, zf0, zf1, zf2, zf3, List.filter_cons, List.filter_nil, Nat.reduceAdd, Nat.reduceEqDiff, Nat.reduceLT, Nat.reduceLeDiff, Nat.reduceBEq, Nat.reduceBNe, reduceIte, if_true, if_false, Bool.false_and, Bool.true_and, Bool.and_true, Bool.and_false, Bool.not_false, Bool.not_true, Bool.false_eq_true, beq_self_eq_true, BEq.rfl, zCat1, zCat2, zCat3, zKdI, zKdL, zKdR, true_and, and_true, zSI, zSL, zSR, zu_at, and_self, and_false, false_and, lv_args, zKdZ, zKdO, zB01, zB11, Option.toList_none, Option.toList_some, List.nil_append, List.cons_append, true_or, or_true, zRow_rd, zu_rd, zo_ireturn, zRt, zKn_0, zN10, zN01, not_true_eq_false, not_false_eq_true, false_implies, true_implies, implies_true, eq_self, nI_1, nI_40, nI_7, vz0, vz1, zb1_e0, zb1_n0]
    exact h1 (by omega)
set_option maxRecDepth 20000 in
theorem cl_push (hn : n < 72) (h6 : J 4 4 = nI n) (hQ : Q (some (.int 1)) (SH, zTs (zu (zu (zu J 6 n x) 7 n y) 4 4 (nI (n + 1))) t, L, RF p s r)) : zXM w mX5_push rX5_push [.ref 4, .int x, .int y] (SH, zTs J t, L, RF p s r) Q := by
  unfold zXM
  have e72 : Int32.ofNat 72 = nI 72 := rfl
  have z : (nI n < nI 72) = True := eq_true (by rw [zlt_nat (by omega) (by omega)]; exact hn)
  have hv : vp_in (nI n) 72 := zvn (by omega) (by omega)
  have cl : (nI n).toNatClampNeg = n := nI_clamp (by omega)
  refine zBlkR (M := mX5_push) (nL := 3) (rt := (Option.some .boolean)) (blk := bX5_push_0) (T := [(18, bX5_push_18)]) 1 hX5_push_0 (zChks_cons hX5_push_18 zChks_nil) rfl rfl rfl (Nat.le_of_ble_eq_true rfl) (Nat.le_of_ble_eq_true rfl) ?_
  simp (implicitDefEqProofs := false) only [bX5_push_0, bX5_push_18, zRun_cons, zRun_nil, zLk, zSto, zIns, zFil, zf0, zf1, zf2, zf3, List.filter_cons, List.filter_nil, Nat.reduceAdd, Nat.reduceEqDiff, Nat.reduceLT, Nat.reduceLeDiff, Nat.reduceBEq, Nat.reduceBNe, reduceIte, if_true, if_false, Bool.false_and, Bool.true_and, Bool.and_true, Bool.and_false, Bool.not_false, Bool.not_true, Bool.false_eq_true, beq_self_eq_true, BEq.rfl, zCat1, zCat2, zCat3, zKdI, zKdL, zKdR, true_and, and_true, zSI, zSL, zSR, zu_at, and_self, and_false, false_and, lv_args, zKdZ, zKdO, zB01, zB11, Option.toList_none, Option.toList_some, List.nil_append, List.cons_append, true_or, or_true, zRow_rd, zu_rd, zo_aload_n, zo_getfield, zo_arraylength, zo_icmp_lt, zo_iconst, zo_iload_n, zo_iastore, zo_dup, zo_iadd, zo_putfield, zo_putfield_2, zo_putfield_3, zo_ireturn, zi_2, zi_1, zKd_5_4, zKd_5_2, zKd_5_3, zTy_5_4, sh_4, rf_4_2, sh_6, zcl_2, rf_4_3, sh_7, zcl_1, zvi_2_72, zvi_1_72, zRt, zPutC, zKn_s, zKn_0, zFind, zTs_12, zTs_13, zTs_14, zTs_15, zTs_16, zTs_17, zTs_o, zTs_u, e72, h6, z, hv, cl, nI_1, zN10, zN01, not_true_eq_false, not_false_eq_true, false_implies, true_implies, implies_true, eq_self, nI_1, nI_40, nI_7, vz0, vz1, zb1_e0, zb1_n0]
  exact hQ
set_option maxRecDepth 20000 in
theorem cl_rankOf (hk : k < 47) (hQ : Q (some (.int (if opN k = 0 then -1 else nI (rkN (opN k))))) μ) : zXM w mX5_rankOf rX5_rankOf [.int (nI k)] μ Q := by
  unfold zXM
  have y : ∀ c, c < 47 → (nI k = nI c) = (k = c) := fun c hc => zeq_nat (by omega) (by omega)
  refine zBlkR (M := mX5_rankOf) (nL := 1) (rt := (Option.some .int)) (blk := bX5_rankOf_0) (T := []) 0 hX5_rankOf_0 zChks_nil rfl rfl rfl (Nat.le_of_ble_eq_true rfl) (Nat.le_of_ble_eq_true rfl) ?_
  simp (implicitDefEqProofs := false) only [bX5_rankOf_0, zRun_cons, zRun_nil, zLk, zSto, zIns, zFil, zf0, zf1, zf2, zf3, List.filter_cons, List.filter_nil, Nat.reduceAdd, Nat.reduceEqDiff, Nat.reduceLT, Nat.reduceLeDiff, Nat.reduceBEq, Nat.reduceBNe, reduceIte, if_true, if_false, Bool.false_and, Bool.true_and, Bool.and_true, Bool.and_false, Bool.not_false, Bool.not_true, Bool.false_eq_true, beq_self_eq_true, BEq.rfl, zCat1, zCat2, zCat3, zKdI, zKdL, zKdR, true_and, and_true, zSI, zSL, zSR, zu_at, and_self, and_false, false_and, lv_args, zKdZ, zKdO, zB01, zB11, Option.toList_none, Option.toList_some, List.nil_append, List.cons_append, true_or, or_true, zRow_rd, zu_rd, zo_iload_n, zKn_0, zN10, zN01, not_true_eq_false, not_false_eq_true, false_implies, true_implies, implies_true, eq_self, nI_1, nI_40, nI_7, vz0, vz1, zb1_e0, zb1_n0]
  refine z_lsw (dt := 69) [(13, 64), (14, 64), (15, 66), (16, 66), (44, 60), (45, 62)] (by decide +kernel : decode cX5_rankOf 1 = .ok (.lookupswitch 68 #[(13, 63), (14, 63), (15, 65), (16, 65), (44, 59), (45, 61)], 59)) (by decide) (by decide) (by decide) ?_
  simp only [zSw_cons, zSw_nil]
  refine ⟨fun h0 => ?_, fun h0 => ⟨fun h1 => ?_, fun h1 => ⟨fun h2 => ?_, fun h2 => ⟨fun h3 => ?_, fun h3 => ⟨fun h4 => ?_, fun h4 => ⟨fun h5 => ?_, fun h5 => ?_⟩⟩⟩⟩⟩⟩
  · have e : k = 13 := by rw [← y 13 (by omega)]; exact h0
    subst e
    refine zBlkR (M := mX5_rankOf) (nL := 1) (rt := (Option.some .int)) (blk := bX5_rankOf_64) (T := []) 0 hX5_rankOf_64 zChks_nil rfl rfl rfl (Nat.le_of_ble_eq_true rfl) (Nat.le_of_ble_eq_true rfl) ?_
    simp (implicitDefEqProofs := false) only [bX5_rankOf_64, zRun_cons, zRun_nil, zLk, zSto, zIns, zFil, zf0, zf1, zf2, zf3, List.filter_cons, List.filter_nil, Nat.reduceAdd, Nat.reduceEqDiff, Nat.reduceLT, Nat.reduceLeDiff, Nat.reduceBEq, Nat.reduceBNe, reduceIte, if_true, if_false, Bool.false_and, Bool.true_and, Bool.and_true, Bool.and_false, Bool.not_false, Bool.not_true, Bool.false_eq_true, beq_self_eq_true, BEq.rfl, zCat1, zCat2, zCat3, zKdI, zKdL, zKdR, true_and, and_true, zSI, zSL, zSR, zu_at, and_self, and_false, false_and, lv_args, zKdZ, zKdO, zB01, zB11, Option.toList_none, Option.toList_some, List.nil_append, List.cons_append, true_or, or_true, zRow_rd, zu_rd, zo_iconst, zo_ireturn, zi_5, zcl_5, zRt, zKn_0, zN10, zN01, not_true_eq_false, not_false_eq_true, false_implies, true_implies, implies_true, eq_self, nI_1, nI_40, nI_7, vz0, vz1, zb1_e0, zb1_n0]
    exact hQ
  · have e : k = 14 := by rw [← y 14 (by omega)]; exact h1
    subst e
    refine zBlkR (M := mX5_rankOf) (nL := 1) (rt := (Option.some .int)) (blk := bX5_rankOf_64) (T := []) 0 hX5_rankOf_64 zChks_nil rfl rfl rfl (Nat.le_of_ble_eq_true rfl) (Nat.le_of_ble_eq_true rfl) ?_
    simp (implicitDefEqProofs := false) only [bX5_rankOf_64, zRun_cons, zRun_nil, zLk, zSto, zIns, zFil, zf0, zf1, zf2, zf3, List.filter_cons, List.filter_nil, Nat.reduceAdd, Nat.reduceEqDiff, Nat.reduceLT, Nat.reduceLeDiff, Nat.reduceBEq, Nat.reduceBNe, reduceIte, if_true, if_false, Bool.false_and, Bool.true_and, Bool.and_true, Bool.and_false, Bool.not_false, Bool.not_true, Bool.false_eq_true, beq_self_eq_true, BEq.rfl, zCat1, zCat2, zCat3, zKdI, zKdL, zKdR, true_and, and_true, zSI, zSL, zSR, zu_at, and_self, and_false, false_and, lv_args, zKdZ, zKdO, zB01, zB11, Option.toList_none, Option.toList_some, List.nil_append, List.cons_append, true_or, or_true, zRow_rd, zu_rd, zo_iconst, zo_ireturn, zi_5, zcl_5, zRt, zKn_0, zN10, zN01, not_true_eq_false, not_false_eq_true, false_implies, true_implies, implies_true, eq_self, nI_1, nI_40, nI_7, vz0, vz1, zb1_e0, zb1_n0]
    exact hQ
  · have e : k = 15 := by rw [← y 15 (by omega)]; exact h2
    subst e
    refine zBlkR (M := mX5_rankOf) (nL := 1) (rt := (Option.some .int)) (blk := bX5_rankOf_66) (T := []) 0 hX5_rankOf_66 zChks_nil rfl rfl rfl (Nat.le_of_ble_eq_true rfl) (Nat.le_of_ble_eq_true rfl) ?_
    simp (implicitDefEqProofs := false) only [bX5_rankOf_66, zRun_cons, zRun_nil, zLk, zSto, zIns, zFil, zf0, zf1, zf2, zf3, List.filter_cons, List.filter_nil, Nat.reduceAdd, Nat.reduceEqDiff, Nat.reduceLT, Nat.reduceLeDiff, Nat.reduceBEq, Nat.reduceBNe, reduceIte, if_true, if_false, Bool.false_and, Bool.true_and, Bool.and_true, Bool.and_false, Bool.not_false, Bool.not_true, Bool.false_eq_true, beq_self_eq_true, BEq.rfl, zCat1, zCat2, zCat3, zKdI, zKdL, zKdR, true_and, and_true, zSI, zSL, zSR, zu_at, and_self, and_false, false_and, lv_args, zKdZ, zKdO, zB01, zB11, Option.toList_none, Option.toList_some, List.nil_append, List.cons_append, true_or, or_true, zRow_rd, zu_rd, zo_bipush, zo_ireturn, zb_6, zcl_6, zRt, zKn_0, zN10, zN01, not_true_eq_false, not_false_eq_true, false_implies, true_implies, implies_true, eq_self, nI_1, nI_40, nI_7, vz0, vz1, zb1_e0, zb1_n0]
    exact hQ
  · have e : k = 16 := by rw [← y 16 (by omega)]; exact h3
    subst e
    refine zBlkR (M := mX5_rankOf) (nL := 1) (rt := (Option.some .int)) (blk := bX5_rankOf_66) (T := []) 0 hX5_rankOf_66 zChks_nil rfl rfl rfl (Nat.le_of_ble_eq_true rfl) (Nat.le_of_ble_eq_true rfl) ?_
    simp (implicitDefEqProofs := false) only [bX5_rankOf_66, zRun_cons, zRun_nil, zLk, zSto, zIns, zFil, zf0, zf1, zf2, zf3, List.filter_cons, List.filter_nil, Nat.reduceAdd, Nat.reduceEqDiff, Nat.reduceLT, Nat.reduceLeDiff, Nat.reduceBEq, Nat.reduceBNe, reduceIte, if_true, if_false, Bool.false_and, Bool.true_and, Bool.and_true, Bool.and_false, Bool.not_false, Bool.not_true, Bool.false_eq_true, beq_self_eq_true, BEq.rfl, zCat1, zCat2, zCat3, zKdI, zKdL, zKdR, true_and, and_true, zSI, zSL, zSR, zu_at, and_self, and_false, false_and, lv_args, zKdZ, zKdO, zB01, zB11, Option.toList_none, Option.toList_some, List.nil_append, List.cons_append, true_or, or_true, zRow_rd, zu_rd, zo_bipush, zo_ireturn, zb_6, zcl_6, zRt, zKn_0, zN10, zN01, not_true_eq_false, not_false_eq_true, false_implies, true_implies, implies_true, eq_self, nI_1, nI_40, nI_7, vz0, vz1, zb1_e0, zb1_n0]
    exact hQ
  · have e : k = 44 := by rw [← y 44 (by omega)]; exact h4
    subst e
    refine zBlkR (M := mX5_rankOf) (nL := 1) (rt := (Option.some .int)) (blk := bX5_rankOf_60) (T := []) 0 hX5_rankOf_60 zChks_nil rfl rfl rfl (Nat.le_of_ble_eq_true rfl) (Nat.le_of_ble_eq_true rfl) ?_
    simp (implicitDefEqProofs := false) only [bX5_rankOf_60, zRun_cons, zRun_nil, zLk, zSto, zIns, zFil, zf0, zf1, zf2, zf3, List.filter_cons, List.filter_nil, Nat.reduceAdd, Nat.reduceEqDiff, Nat.reduceLT, Nat.reduceLeDiff, Nat.reduceBEq, Nat.reduceBNe, reduceIte, if_true, if_false, Bool.false_and, Bool.true_and, Bool.and_true, Bool.and_false, Bool.not_false, Bool.not_true, Bool.false_eq_true, beq_self_eq_true, BEq.rfl, zCat1, zCat2, zCat3, zKdI, zKdL, zKdR, true_and, and_true, zSI, zSL, zSR, zu_at, and_self, and_false, false_and, lv_args, zKdZ, zKdO, zB01, zB11, Option.toList_none, Option.toList_some, List.nil_append, List.cons_append, true_or, or_true, zRow_rd, zu_rd, zo_iconst, zo_ireturn, zi_1, zcl_1, zRt, zKn_0, zN10, zN01, not_true_eq_false, not_false_eq_true, false_implies, true_implies, implies_true, eq_self, nI_1, nI_40, nI_7, vz0, vz1, zb1_e0, zb1_n0]
    exact hQ
  · have e : k = 45 := by rw [← y 45 (by omega)]; exact h5
    subst e
    refine zBlkR (M := mX5_rankOf) (nL := 1) (rt := (Option.some .int)) (blk := bX5_rankOf_62) (T := []) 0 hX5_rankOf_62 zChks_nil rfl rfl rfl (Nat.le_of_ble_eq_true rfl) (Nat.le_of_ble_eq_true rfl) ?_
    simp (implicitDefEqProofs := false) only [bX5_rankOf_62, zRun_cons, zRun_nil, zLk, zSto, zIns, zFil, zf0, zf1, zf2, zf3, List.filter_cons, List.filter_nil, Nat.reduceAdd, Nat.reduceEqDiff, Nat.reduceLT, Nat.reduceLeDiff, Nat.reduceBEq, Nat.reduceBNe, reduceIte, if_true, if_false, Bool.false_and, Bool.true_and, Bool.and_true, Bool.and_false, Bool.not_false, Bool.not_true, Bool.false_eq_true, beq_self_eq_true, BEq.rfl, zCat1, zCat2, zCat3, zKdI, zKdL, zKdR, true_and, and_true, zSI, zSL, zSR, zu_at, and_self, and_false, false_and, lv_args, zKdZ, zKdO, zB01, zB11, Option.toList_none, Option.toList_some, List.nil_append, List.cons_append, true_or, or_true, zRow_rd, zu_rd, zo_iconst, zo_ireturn, zi_2, zcl_2, zRt, zKn_0, zN10, zN01, not_true_eq_false, not_false_eq_true, false_implies, true_implies, implies_true, eq_self, nI_1, nI_40, nI_7, vz0, vz1, zb1_e0, zb1_n0]
    exact hQ
  · have n13 : ¬ k = 13 := fun e => h0 (by rw [e]; rfl)
    have n14 : ¬ k = 14 := fun e => h1 (by rw [e]; rfl)
    have n15 : ¬ k = 15 := fun e => h2 (by rw [e]; rfl)
    have n16 : ¬ k = 16 := fun e => h3 (by rw [e]; rfl)
    have n44 : ¬ k = 44 := fun e => h4 (by rw [e]; rfl)
    have n45 : ¬ k = 45 := fun e => h5 (by rw [e]; rfl)
    have z7 : (nI k < 7) = (k < 7) := by rw [show (7 : Int32) = nI 7 from rfl, zlt_nat (by omega) (by omega)]
    have z12 : ((12 : Int32) < nI k) = (12 < k) := by rw [show (12 : Int32) = nI 12 from rfl, zlt_nat (by omega) (by omega)]
    by_cases g1 : k < 7
    · have g1' : (k < 7) = True := eq_true g1
      have e : opN k = 0 := by unfold opN; rw [if_neg n45, if_neg n44, if_neg (by omega)]
      rw [if_pos e] at hQ
      refine zBlkR (M := mX5_rankOf) (nL := 1) (rt := (Option.some .int)) (blk := bX5_rankOf_69) (T := [(85, bX5_rankOf_85), (86, bX5_rankOf_86)]) 1 hX5_rankOf_69 (zChks_cons hX5_rankOf_85 (zChks_cons hX5_rankOf_86 zChks_nil)) rfl rfl rfl (Nat.le_of_ble_eq_true rfl) (Nat.le_of_ble_eq_true rfl) ?_
      simp (implicitDefEqProofs := false) only [bX5_rankOf_69, bX5_rankOf_85, bX5_rankOf_86, zRun_cons, zRun_nil, zLk, zSto, zIns, zFil, zf0, zf1, zf2, zf3, List.filter_cons, List.filter_nil, Nat.reduceAdd, Nat.reduceEqDiff, Nat.reduceLT, Nat.reduceLeDiff, Nat.reduceBEq, Nat.reduceBNe, reduceIte, if_true, if_false, Bool.false_and, Bool.true_and, Bool.and_true, Bool.and_false, Bool.not_false, Bool.not_true, Bool.false_eq_true, beq_self_eq_true, BEq.rfl, zCat1, zCat2, zCat3, zKdI, zKdL, zKdR, true_and, and_true, zSI, zSL, zSR, zu_at, and_self, and_false, false_and, lv_args, zKdZ, zKdO, zB01, zB11, Option.toList_none, Option.toList_some, List.nil_append, List.cons_append, true_or, or_true, zRow_rd, zu_rd, zo_iload_n, zo_bipush, zo_icmp_lt, zo_icmp_gt, zo_iconst, zo_goto, zo_ireturn, zb_7, zb_12, zi_4, zi_m1, zcl_7, zcl_12, zcl_4, zRt, zKn_s, zKn_0, zFind, z7, z12, g1', zN10, zN01, not_true_eq_false, not_false_eq_true, false_implies, true_implies, implies_true, eq_self, nI_1, nI_40, nI_7, vz0, vz1, zb1_e0, zb1_n0]
      exact hQ
    · have g1' : (k < 7) = False := eq_false g1
      by_cases g2 : 12 < k
      · have g2' : (12 < k) = True := eq_true g2
        have e : opN k = 0 := by unfold opN; rw [if_neg n45, if_neg n44, if_neg (by omega)]
        rw [if_pos e] at hQ
        refine zBlkR (M := mX5_rankOf) (nL := 1) (rt := (Option.some .int)) (blk := bX5_rankOf_69) (T := [(85, bX5_rankOf_85), (86, bX5_rankOf_86)]) 1 hX5_rankOf_69 (zChks_cons hX5_rankOf_85 (zChks_cons hX5_rankOf_86 zChks_nil)) rfl rfl rfl (Nat.le_of_ble_eq_true rfl) (Nat.le_of_ble_eq_true rfl) ?_
        simp (implicitDefEqProofs := false) only [bX5_rankOf_69, bX5_rankOf_85, bX5_rankOf_86, zRun_cons, zRun_nil, zLk, zSto, zIns, zFil, zf0, zf1, zf2, zf3, List.filter_cons, List.filter_nil, Nat.reduceAdd, Nat.reduceEqDiff, Nat.reduceLT, Nat.reduceLeDiff, Nat.reduceBEq, Nat.reduceBNe, reduceIte, if_true, if_false, Bool.false_and, Bool.true_and, Bool.and_true, Bool.and_false, Bool.not_false, Bool.not_true, Bool.false_eq_true, beq_self_eq_true, BEq.rfl, zCat1, zCat2, zCat3, zKdI, zKdL, zKdR, true_and, and_true, zSI, zSL, zSR, zu_at, and_self, and_false, false_and, lv_args, zKdZ, zKdO, zB01, zB11, Option.toList_none, Option.toList_some, List.nil_append, List.cons_append, true_or, or_true, zRow_rd, zu_rd, zo_iload_n, zo_bipush, zo_icmp_lt, zo_icmp_gt, zo_iconst, zo_goto, zo_ireturn, zb_7, zb_12, zi_4, zi_m1, zcl_7, zcl_12, zcl_4, zRt, zKn_s, zKn_0, zFind, z7, z12, g1', g2', zN10, zN01, not_true_eq_false, not_false_eq_true, false_implies, true_implies, implies_true, eq_self, nI_1, nI_40, nI_7, vz0, vz1, zb1_e0, zb1_n0]
        exact hQ
      · have g2' : (12 < k) = False := eq_false g2
        have e : opN k = k - 2 := by unfold opN; rw [if_neg n45, if_neg n44, if_pos (by omega)]
        have e2 : rkN (k - 2) = 4 := by unfold rkN; rw [if_neg (by omega), if_neg (by omega), if_pos (by omega)]
        rw [e, if_neg (by omega), e2] at hQ
        refine zBlkR (M := mX5_rankOf) (nL := 1) (rt := (Option.some .int)) (blk := bX5_rankOf_69) (T := [(85, bX5_rankOf_85), (86, bX5_rankOf_86)]) 1 hX5_rankOf_69 (zChks_cons hX5_rankOf_85 (zChks_cons hX5_rankOf_86 zChks_nil)) rfl rfl rfl (Nat.le_of_ble_eq_true rfl) (Nat.le_of_ble_eq_true rfl) ?_
        simp (implicitDefEqProofs := false) only [bX5_rankOf_69, bX5_rankOf_85, bX5_rankOf_86, zRun_cons, zRun_nil, zLk, zSto, zIns, zFil, zf0, zf1, zf2, zf3, List.filter_cons, List.filter_nil, Nat.reduceAdd, Nat.reduceEqDiff, Nat.reduceLT, Nat.reduceLeDiff, Nat.reduceBEq, Nat.reduceBNe, reduceIte, if_true, if_false, Bool.false_and, Bool.true_and, Bool.and_true, Bool.and_false, Bool.not_false, Bool.not_true, Bool.false_eq_true, beq_self_eq_true, BEq.rfl, zCat1, zCat2, zCat3, zKdI, zKdL, zKdR, true_and, and_true, zSI, zSL, zSR, zu_at, and_self, and_false, false_and, lv_args, zKdZ, zKdO, zB01, zB11, Option.toList_none, Option.toList_some, List.nil_append, List.cons_append, true_or, or_true, zRow_rd, zu_rd, zo_iload_n, zo_bipush, zo_icmp_lt, zo_icmp_gt, zo_iconst, zo_goto, zo_ireturn, zb_7, zb_12, zi_4, zi_m1, zcl_7, zcl_12, zcl_4, zRt, zKn_s, zKn_0, zFind, z7, z12, g1', g2', zN10, zN01, not_true_eq_false, not_false_eq_true, false_implies, true_implies, implies_true, eq_self, nI_1, nI_40, nI_7, vz0, vz1, zb1_e0, zb1_n0]
        exact hQ
/-- one joint written -/
theorem zFc_pop (hs : zPc s) (hn : X.2.2.1 < 64) (hk : k ≠ 0 ∧ k ≠ 1 ∧ k ≤ 14) (h : zFc J s (k :: ws, X)) : zFc (zu (zu (zu J 4 4 (nI ws.length)) (s + 13) X.2.2.1 (-nI (cJt k))) 4 6 (nI (X.2.2.1 + 1))) s (ws, fPop k X) := by
  obtain ⟨hd, R, n, c⟩ := X
  have s8 : 8 < s := by rcases hs with rfl | rfl <;> omega
  obtain ⟨h1, h2, h3, h4, h5, h6⟩ := h
  have eX : ∃ hd' a b, fPop k (hd, R, n, c) = (hd', fGr R n k a b, n + 1, c) := by
    unfold fPop
    by_cases e : k = 2
    · rw [if_pos e, e]; exact ⟨_, _, _, rfl⟩
    · rw [if_neg e]; exact ⟨_, _, _, rfl⟩
  obtain ⟨hd', a, b, e⟩ := eX
  rw [e]
  refine ⟨by simp [zu_at] <;> omega, ?_, by simp [zu_at], ?_, ?_, fun i hi => ?_⟩
  · simp only [brk, hk.1, if_false, Nat.add_zero] at h2
    rw [zu_at, if_neg (by omega), zu_at, if_neg (by omega), zu_at, if_neg (by omega)]; exact h2
  · rw [zu_at, if_neg (by omega), zu_at, if_neg (by omega), zu_at, if_neg (by omega)]; exact h4
  · refine zWs_c h5.2.2 (fun i hi => ?_)
    rw [zu_at, if_neg (by omega), zu_at, if_neg (by omega), zu_at, if_neg (by omega), zu_at, if_neg (by omega), zu_at, if_neg (by omega), zu_at, if_neg (by omega)]
    exact ⟨rfl, rfl⟩
  · simp only at hi ⊢
    rw [zu_at, if_neg (by omega), zu_at, fGr_107, fGr_108]
    simp only [true_and]
    by_cases e : i = n
    · subst e; simp only [if_true]; rw [jEnd_k k (by omega) hk.1 hk.2.1]
    · simp only [e, if_false]
      rw [zu_at, if_neg (by omega)]; exact h6 i (by simp only; omega)
set_option maxRecDepth 20000 in
theorem cl_writeJoints (hs : zPc s) (hl : 1 ≤ l) (hl7 : l ≤ 7) : ∀ (ws : List Nat) (X : oFx) (J : Nat → Nat → Int32) (q : Nat), q + ws.length ≤ 72 → X.2.2.1 + nbk ws ≤ 64 → (∀ k ∈ ws, k ≠ 1 ∧ k ≤ 14) → zFc J s (ws, X) → (∀ J', zKpt (SFc s) J J' → zFc J' s (fBind l ws X) → Q none (SH, zTs J' t, L, RF p s (some s))) → zX w mX5_writeJoints rX5_writeJoints Q 0 0 2 [(0, Value.ref 4), (1, Value.int (nI (l - 1))), (2, Value.int (nI q))] [] (SH, zTs J t, L, RF p s (some s)) := by
  intro ws
  have s8 : 8 < s := by rcases hs with rfl | rfl <;> omega
  have e72 : Int32.ofNat 72 = nI 72 := rfl
  induction ws with
  | nil =>
    intro X J q hq hn h7 hJ hQ
    have z2 : (nI 0 ≤ nI (l - 1)) = True := eq_true (by rw [zle_nat (by omega) (by omega)]; omega)
    by_cases hq2 : 72 ≤ q
    · have z1 : (nI 72 ≤ nI q) = True := eq_true (by rw [zle_nat (by omega) (by omega)]; exact hq2)
      refine zBlkR (M := mX5_writeJoints) (nL := 3) (rt := (Option.none : Option Jvm.ClassFile.FieldType)) (blk := bX5_writeJoints_2) (T := [(50, bX5_writeJoints_50)]) 1 hX5_writeJoints_2 (zChks_cons hX5_writeJoints_50 zChks_nil) rfl rfl rfl (Nat.le_of_ble_eq_true rfl) (Nat.le_of_ble_eq_true rfl) ?_
      simp (implicitDefEqProofs := false) only [bX5_writeJoints_2, bX5_writeJoints_50, zRun_cons, zRun_nil, zLk, zSto, zIns, zFil, zf0, zf1, zf2, zf3, List.filter_cons, List.filter_nil, Nat.reduceAdd, Nat.reduceEqDiff, Nat.reduceLT, Nat.reduceLeDiff, Nat.reduceBEq, Nat.reduceBNe, reduceIte, if_true, if_false, Bool.false_and, Bool.true_and, Bool.and_true, Bool.and_false, Bool.not_false, Bool.not_true, Bool.false_eq_true, beq_self_eq_true, BEq.rfl, zCat1, zCat2, zCat3, zKdI, zKdL, zKdR, true_and, and_true, zSI, zSL, zSR, zu_at, and_self, and_false, false_and, lv_args, zKdZ, zKdO, zB01, zB11, Option.toList_none, Option.toList_some, List.nil_append, List.cons_append, true_or, or_true, zRow_rd, zu_rd, zo_iload_n, zo_aload_n, zo_getfield, zo_arraylength, zo_icmp_ge, zo_return_, zKd_5_2, sh_4, rf_4_2, sh_6, zKn_s, zKn_0, zFind, e72, z1, zN10, zN01, not_true_eq_false, not_false_eq_true, false_implies, true_implies, implies_true, eq_self, nI_1, nI_40, nI_7, vz0, vz1, zb1_e0, zb1_n0]
      exact hQ J zKpt_rfl hJ
    · have z1 : (nI 72 ≤ nI q) = False := eq_false (by rw [zle_nat (by omega) (by omega)]; exact hq2)
      refine zBlkR (M := mX5_writeJoints) (nL := 3) (rt := (Option.none : Option Jvm.ClassFile.FieldType)) (blk := bX5_writeJoints_2) (T := [(50, bX5_writeJoints_50)]) 1 hX5_writeJoints_2 (zChks_cons hX5_writeJoints_50 zChks_nil) rfl rfl rfl (Nat.le_of_ble_eq_true rfl) (Nat.le_of_ble_eq_true rfl) ?_
      simp (implicitDefEqProofs := false) only [bX5_writeJoints_2, bX5_writeJoints_50, zRun_cons, zRun_nil, zLk, zSto, zIns, zFil, zf0, zf1, zf2, zf3, List.filter_cons, List.filter_nil, Nat.reduceAdd, Nat.reduceEqDiff, Nat.reduceLT, Nat.reduceLeDiff, Nat.reduceBEq, Nat.reduceBNe, reduceIte, if_true, if_false, Bool.false_and, Bool.true_and, Bool.and_true, Bool.and_false, Bool.not_false, Bool.not_true, Bool.false_eq_true, beq_self_eq_true, BEq.rfl, zCat1, zCat2, zCat3, zKdI, zKdL, zKdR, true_and, and_true, zSI, zSL, zSR, zu_at, and_self, and_false, false_and, lv_args, zKdZ, zKdO, zB01, zB11, Option.toList_none, Option.toList_some, List.nil_append, List.cons_append, true_or, or_true, zRow_rd, zu_rd, zo_iload_n, zo_aload_n, zo_getfield, zo_arraylength, zo_icmp_ge, zo_return_, zKd_5_2, sh_4, rf_4_2, sh_6, zKn_s, zKn_0, zFind, e72, z1, zN10, zN01, not_true_eq_false, not_false_eq_true, false_implies, true_implies, implies_true, eq_self, nI_1, nI_40, nI_7, vz0, vz1, zb1_e0, zb1_n0]
      refine z_cV0 (M' := mX5_topRank) (R' := rX5_topRank) (i := 4) [] [] eX5_topRank k5_213 (by decide +kernel : decode cX5_writeJoints 12 = .ok (.invokevirtual 213, 3)) (Nat.le_of_ble_eq_true rfl) ⟨Nat.le_of_ble_eq_true rfl, Nat.le_of_ble_eq_true rfl, Nat.le_of_ble_eq_true rfl, Nat.le_of_ble_eq_true rfl, Nat.le_of_ble_eq_true rfl⟩ rfl rfl rfl sh_4 ?_
      refine cl_topRank (ws := []) hJ.1 trivial (by simp) ?_
      show zX w mX5_writeJoints rX5_writeJoints Q 0 0 15 [(0, Value.ref 4), (1, Value.int (nI (l - 1))), (2, Value.int (nI q))] [Value.int (nI 0)] (SH, zTs J t, L, RF p s (some s))
      refine zBlkR (M := mX5_writeJoints) (nL := 3) (rt := (Option.none : Option Jvm.ClassFile.FieldType)) (blk := bX5_writeJoints_15) (T := [(50, bX5_writeJoints_50)]) 1 hX5_writeJoints_15 (zChks_cons hX5_writeJoints_50 zChks_nil) rfl rfl rfl (Nat.le_of_ble_eq_true rfl) (Nat.le_of_ble_eq_true rfl) ?_
      simp (implicitDefEqProofs := false) only [bX5_writeJoints_15, bX5_writeJoints_50, zRun_cons, zRun_nil, zLk, zSto, zIns, zFil, zf0, zf1, zf2, zf3, List.filter_cons, List.filter_nil, Nat.reduceAdd, Nat.reduceEqDiff, Nat.reduceLT, Nat.reduceLeDiff, Nat.reduceBEq, Nat.reduceBNe, reduceIte, if_true, if_false, Bool.false_and, Bool.true_and, Bool.and_true, Bool.and_false, Bool.not_false, Bool.not_true, Bool.false_eq_true, beq_self_eq_true, BEq.rfl, zCat1, zCat2, zCat3, zKdI, zKdL, zKdR, true_and, and_true, zSI, zSL, zSR, zu_at, and_self, and_false, false_and, lv_args, zKdZ, zKdO, zB01, zB11, Option.toList_none, Option.toList_some, List.nil_append, List.cons_append, true_or, or_true, zRow_rd, zu_rd, zo_iload_n, zo_icmp_le, zo_aload_n, zo_dup, zo_getfield, zo_iconst, zo_isub, zo_putfield, zo_putfield_2, zo_putfield_3, zo_iaload, zo_ineg, zo_return_, zi_1, zKd_5_4, zTy_5_4, zKd_5_2, sh_4, zcl_1, rf_4_2, sh_6, zvi_1_72, zPutC, zKn_s, zKn_0, zFind, z2, zN10, zN01, not_true_eq_false, not_false_eq_true, false_implies, true_implies, implies_true, eq_self, nI_1, nI_40, nI_7, vz0, vz1, zb1_e0, zb1_n0]
      exact hQ J zKpt_rfl hJ
  | cons k ws ih =>
    intro X J q hq hn h7 hJ hQ
    rw [List.length_cons] at hq
    have hk := h7 k List.mem_cons_self
    have hr := rkN_lt hk.2
    have z1 : (nI 72 ≤ nI q) = False := eq_false (by rw [zle_nat (by omega) (by omega)]; omega)
    have z2 : (nI (rkN k) ≤ nI (l - 1)) = (rkN k ≤ l - 1) := zle_nat (by omega) (by omega)
    unfold fBind at hQ
    refine zBlkR (M := mX5_writeJoints) (nL := 3) (rt := (Option.none : Option Jvm.ClassFile.FieldType)) (blk := bX5_writeJoints_2) (T := [(50, bX5_writeJoints_50)]) 1 hX5_writeJoints_2 (zChks_cons hX5_writeJoints_50 zChks_nil) rfl rfl rfl (Nat.le_of_ble_eq_true rfl) (Nat.le_of_ble_eq_true rfl) ?_
    simp (implicitDefEqProofs := false) only [bX5_writeJoints_2, bX5_writeJoints_50, zRun_cons, zRun_nil, zLk, zSto, zIns, zFil, zf0, zf1, zf2, zf3, List.filter_cons, List.filter_nil, Nat.reduceAdd, Nat.reduceEqDiff, Nat.reduceLT, Nat.reduceLeDiff, Nat.reduceBEq, Nat.reduceBNe, reduceIte, if_true, if_false, Bool.false_and, Bool.true_and, Bool.and_true, Bool.and_false, Bool.not_false, Bool.not_true, Bool.false_eq_true, beq_self_eq_true, BEq.rfl, zCat1, zCat2, zCat3, zKdI, zKdL, zKdR, true_and, and_true, zSI, zSL, zSR, zu_at, and_self, and_false, false_and, lv_args, zKdZ, zKdO, zB01, zB11, Option.toList_none, Option.toList_some, List.nil_append, List.cons_append, true_or, or_true, zRow_rd, zu_rd, zo_iload_n, zo_aload_n, zo_getfield, zo_arraylength, zo_icmp_ge, zo_return_, zKd_5_2, sh_4, rf_4_2, sh_6, zKn_s, zKn_0, zFind, e72, z1, zN10, zN01, not_true_eq_false, not_false_eq_true, false_implies, true_implies, implies_true, eq_self, nI_1, nI_40, nI_7, vz0, vz1, zb1_e0, zb1_n0]
    refine z_cV0 (M' := mX5_topRank) (R' := rX5_topRank) (i := 4) [] [] eX5_topRank k5_213 (by decide +kernel : decode cX5_writeJoints 12 = .ok (.invokevirtual 213, 3)) (Nat.le_of_ble_eq_true rfl) ⟨Nat.le_of_ble_eq_true rfl, Nat.le_of_ble_eq_true rfl, Nat.le_of_ble_eq_true rfl, Nat.le_of_ble_eq_true rfl, Nat.le_of_ble_eq_true rfl⟩ rfl rfl rfl sh_4 ?_
    refine cl_topRank (ws := k :: ws) hJ.1 hJ.2.2.2.2.1 (by rw [List.length_cons]; omega) ?_
    show zX w mX5_writeJoints rX5_writeJoints Q 0 0 15 [(0, Value.ref 4), (1, Value.int (nI (l - 1))), (2, Value.int (nI q))] [Value.int (nI (rkN k))] (SH, zTs J t, L, RF p s (some s))
    by_cases hb : l ≤ rkN k
    · have hb' : (rkN k ≤ l - 1) = False := eq_false (by omega)
      rw [if_pos hb] at hQ
      have k0 : k ≠ 0 := fun e => by subst e; have : rkN 0 = 0 := rfl; omega
      have h44 : J 4 4 = nI (ws.length + 1) := hJ.1
      have e1 : nI (ws.length + 1) - 1 = nI ws.length := by rw [← nI_1, Int32.add_sub_cancel]
      have hv : vp_in (nI ws.length) 72 := zvn (by omega) (by omega)
      have cl : (nI ws.length).toNatClampNeg = ws.length := nI_clamp (by omega)
      have h6 := hJ.2.2.2.2.1.1
      have hn2 : X.2.2.1 < 64 := by
        simp only [nbk, k0, if_false] at hn; omega
      refine zBlkR (M := mX5_writeJoints) (nL := 3) (rt := (Option.none : Option Jvm.ClassFile.FieldType)) (blk := bX5_writeJoints_15) (T := [(50, bX5_writeJoints_50)]) 1 hX5_writeJoints_15 (zChks_cons hX5_writeJoints_50 zChks_nil) rfl rfl rfl (Nat.le_of_ble_eq_true rfl) (Nat.le_of_ble_eq_true rfl) ?_
      simp (implicitDefEqProofs := false) only [bX5_writeJoints_15, bX5_writeJoints_50, zRun_cons, zRun_nil, zLk, zSto, zIns, zFil, zf0, zf1, zf2, zf3, List.filter_cons, List.filter_nil, Nat.reduceAdd, Nat.reduceEqDiff, Nat.reduceLT, Nat.reduceLeDiff, Nat.reduceBEq, Nat.reduceBNe, reduceIte, if_true, if_false, Bool.false_and, Bool.true_and, Bool.and_true, Bool.and_false, Bool.not_false, Bool.not_true, Bool.false_eq_true, beq_self_eq_true, BEq.rfl, zCat1, zCat2, zCat3, zKdI, zKdL, zKdR, true_and, and_true, zSI, zSL, zSR, zu_at, and_self, and_false, false_and, lv_args, zKdZ, zKdO, zB01, zB11, Option.toList_none, Option.toList_some, List.nil_append, List.cons_append, true_or, or_true, zRow_rd, zu_rd, zo_iload_n, zo_icmp_le, zo_aload_n, zo_dup, zo_getfield, zo_iconst, zo_isub, zo_putfield, zo_putfield_2, zo_putfield_3, zo_iaload, zo_ineg, zo_return_, zi_1, zKd_5_4, zTy_5_4, zKd_5_2, sh_4, zcl_1, rf_4_2, sh_6, zvi_1_72, zPutC, zKn_s, zKn_0, zFind, zTs_12, zTs_13, zTs_14, zTs_15, zTs_16, zTs_17, zTs_o, zTs_u, z2, hb', h44, e1, hv, cl, h6, zN10, zN01, not_true_eq_false, not_false_eq_true, false_implies, true_implies, implies_true, eq_self, nI_1, nI_40, nI_7, vz0, vz1, zb1_e0, zb1_n0]
      refine z_cV0 (M' := mX5_write) (R' := rX5_write) (i := 4) [.int (-nI (cJt k))] [] eX5_write k5_207 (by decide +kernel : decode cX5_writeJoints 40 = .ok (.invokevirtual 207, 3)) (Nat.le_of_ble_eq_true rfl) ⟨Nat.le_of_ble_eq_true rfl, Nat.le_of_ble_eq_true rfl, Nat.le_of_ble_eq_true rfl, Nat.le_of_ble_eq_true rfl, Nat.le_of_ble_eq_true rfl⟩ rfl rfl rfl sh_4 ?_
      refine cl_rdWrite hs (n := X.2.2.1) hn2 (by simp [zu_at]; exact hJ.2.2.1) ?_
      refine zBlkR (M := mX5_writeJoints) (nL := 3) (rt := (Option.none : Option Jvm.ClassFile.FieldType)) (blk := bX5_writeJoints_43) (T := []) 0 hX5_writeJoints_43 zChks_nil rfl rfl rfl (Nat.le_of_ble_eq_true rfl) (Nat.le_of_ble_eq_true rfl) ?_
      simp (implicitDefEqProofs := false) only [bX5_writeJoints_43, zRun_cons, zRun_nil, zLk, zSto, zIns, zFil, zf0, zf1, zf2, zf3, List.filter_cons, List.filter_nil, Nat.reduceAdd, Nat.reduceEqDiff, Nat.reduceLT, Nat.reduceLeDiff, Nat.reduceBEq, Nat.reduceBNe, reduceIte, if_true, if_false, Bool.false_and, Bool.true_and, Bool.and_true, Bool.and_false, Bool.not_false, Bool.not_true, Bool.false_eq_true, beq_self_eq_true, BEq.rfl, zCat1, zCat2, zCat3, zKdI, zKdL, zKdR, true_and, and_true, zSI, zSL, zSR, zu_at, and_self, and_false, false_and, lv_args, zKdZ, zKdO, zB01, zB11, Option.toList_none, Option.toList_some, List.nil_append, List.cons_append, true_or, or_true, zRow_rd, zu_rd, zo_pop, zo_iinc, zo_goto, zi_1, zKn_0, nI_1, zN10, zN01, not_true_eq_false, not_false_eq_true, false_implies, true_implies, implies_true, eq_self, nI_1, nI_40, nI_7, vz0, vz1, zb1_e0, zb1_n0]
      have kA : zKpt (SFc s) J (zu (zu (zu J 4 4 (nI ws.length)) (s + 13) X.2.2.1 (-nI (cJt k))) 4 6 (nI (X.2.2.1 + 1))) := ((zKpt_rfl.u (by unfold SFc; omega)).u (by unfold SFc; omega)).u (by unfold SFc; omega)
      have hX : (fPop k X).2.2.1 = X.2.2.1 + 1 := by unfold fPop; split <;> rfl
      exact ih (fPop k X) _ (q + 1) (by omega) (by rw [hX]; simp only [nbk, k0, if_false] at hn; omega) (fun q hq => h7 q (List.mem_cons_of_mem _ hq)) (zFc_pop hs hn2 ⟨k0, hk.1, hk.2⟩ hJ) (fun J' kJ' hJ' => hQ J' (kA.trans kJ') hJ')
    · have hb' : (rkN k ≤ l - 1) = True := eq_true (by omega)
      rw [if_neg hb] at hQ
      refine zBlkR (M := mX5_writeJoints) (nL := 3) (rt := (Option.none : Option Jvm.ClassFile.FieldType)) (blk := bX5_writeJoints_15) (T := [(50, bX5_writeJoints_50)]) 1 hX5_writeJoints_15 (zChks_cons hX5_writeJoints_50 zChks_nil) rfl rfl rfl (Nat.le_of_ble_eq_true rfl) (Nat.le_of_ble_eq_true rfl) ?_
      simp (implicitDefEqProofs := false) only [bX5_writeJoints_15, bX5_writeJoints_50, zRun_cons, zRun_nil, zLk, zSto, zIns, zFil, zf0, zf1, zf2, zf3, List.filter_cons, List.filter_nil, Nat.reduceAdd, Nat.reduceEqDiff, Nat.reduceLT, Nat.reduceLeDiff, Nat.reduceBEq, Nat.reduceBNe, reduceIte, if_true, if_false, Bool.false_and, Bool.true_and, Bool.and_true, Bool.and_false, Bool.not_false, Bool.not_true, Bool.false_eq_true, beq_self_eq_true, BEq.rfl, zCat1, zCat2, zCat3, zKdI, zKdL, zKdR, true_and, and_true, zSI, zSL, zSR, zu_at, and_self, and_false, false_and, lv_args, zKdZ, zKdO, zB01, zB11, Option.toList_none, Option.toList_some, List.nil_append, List.cons_append, true_or, or_true, zRow_rd, zu_rd, zo_iload_n, zo_icmp_le, zo_aload_n, zo_dup, zo_getfield, zo_iconst, zo_isub, zo_putfield, zo_putfield_2, zo_putfield_3, zo_iaload, zo_ineg, zo_return_, zi_1, zKd_5_4, zTy_5_4, zKd_5_2, sh_4, zcl_1, rf_4_2, sh_6, zvi_1_72, zPutC, zKn_s, zKn_0, zFind, z2, hb', zN10, zN01, not_true_eq_false, not_false_eq_true, false_implies, true_implies, implies_true, eq_self, nI_1, nI_40, nI_7, vz0, vz1, zb1_e0, zb1_n0]
      exact hQ J zKpt_rfl hJ
end ZN98z
end

section
/-! ===== TEXT: a formula in the class, whole ===== -/
section ZN98za
variable {w : zP} {Q : Option Value → zMem → Prop} {μ : zMem} {I J J' : Nat → Nat → Int32} {L K : Nat → Nat → Int64} {p s : Nat} {r : Option Nat} {a b c i j k n e m lo hi l F : Nat} {x y v : Int32} {E : oEn} {t u : oTk} {D : oDf} {ws hd hd' : List Nat} {R R0 : Nat → Nat → Int32} {X : oFx} {S : oFm} {f g f' g' : Nat → Int32}
theorem zFc_leaf (hs : zPc s) (hx : jEnc (nI k) x = y) (h : zFc J s (ws, hd, R, n, c)) : zFc (zu (zu (zu J s 16 (nI (c + 1))) (s + 13) n y) 4 6 (nI (n + 1))) s (ws, hd', fGr R n k x v, n + 1, c + 1) := by
  have s8 : 8 < s := by rcases hs with rfl | rfl <;> omega
  obtain ⟨h1, h2, h3, h4, h5, h6⟩ := h
  refine ⟨?_, ?_, by simp [zu_at], ?_, ?_, fun i hi => ?_⟩
  · rw [zu_at, if_neg (by omega), zu_at, if_neg (by omega), zu_at, if_neg (by omega)]; exact h1
  · rw [zu_at, if_neg (by omega), zu_at, if_neg (by omega), zu_at, if_neg (by omega)]; exact h2
  · rw [zu_at, if_neg (by omega), zu_at, if_neg (by omega), zu_at, if_pos ⟨rfl, rfl⟩]
  · refine zWs_c h5 (fun i hi => ?_)
    rw [zu_at, if_neg (by omega), zu_at, if_neg (by omega), zu_at, if_neg (by omega), zu_at, if_neg (by omega), zu_at, if_neg (by omega), zu_at, if_neg (by omega)]
    exact ⟨rfl, rfl⟩
  · simp only at hi ⊢
    rw [zu_at, if_neg (by omega), zu_at, fGr_107, fGr_108]
    simp only [true_and]
    by_cases e : i = n
    · subst e; simp only [if_true]; exact hx.symm
    · simp only [e, if_false]
      rw [zu_at, if_neg (by omega)]; exact h6 i (by simp only; omega)
theorem zFc_push (hs : zPc s) (hk : k ≠ 0) (h : zFc J s (ws, hd, R, n, c)) : zFc (zu (zu (zu (zu J s 16 (nI m)) 6 ws.length (nI (cJt k))) 7 ws.length (nI (rkN k))) 4 4 (nI (ws.length + 1))) s (k :: ws, hd, R, n, m) := by
  have s8 : 8 < s := by rcases hs with rfl | rfl <;> omega
  obtain ⟨h1, h2, h3, h4, h5, h6⟩ := h
  refine ⟨by simp [zu_at], ?_, ?_, ?_, ⟨?_, ?_, ?_⟩, fun i hi => ?_⟩
  · simp only [brk, hk, if_false, Nat.add_zero]
    rw [zu_at, if_neg (by omega), zu_at, if_neg (by omega), zu_at, if_neg (by omega), zu_at, if_neg (by omega)]; exact h2
  · rw [zu_at, if_neg (by omega), zu_at, if_neg (by omega), zu_at, if_neg (by omega), zu_at, if_neg (by omega)]; exact h3
  · rw [zu_at, if_neg (by omega), zu_at, if_neg (by omega), zu_at, if_neg (by omega), zu_at, if_pos ⟨rfl, rfl⟩]
  · simp [zu_at]
  · simp [zu_at]
  · refine zWs_c h5 (fun i hi => ?_)
    have : ¬ i = ws.length := by have : i < ws.length := hi; omega
    simp [zu_at, this]
    constructor <;> (intro e; omega)
  · rw [zu_at, if_neg (by omega), zu_at, if_neg (by omega), zu_at, if_neg (by omega), zu_at, if_neg (by omega)]; exact h6 i hi
theorem zFc_open (hs : zPc s) (h : zFc J s (ws, X)) : zFc (zu (zu (zu (zu J 4 5 (nI (brk ws + 1))) 6 ws.length (nI 5)) 7 ws.length (nI 0)) 4 4 (nI (ws.length + 1))) s (0 :: ws, X) := by
  have s8 : 8 < s := by rcases hs with rfl | rfl <;> omega
  obtain ⟨h1, h2, h3, h4, h5, h6⟩ := h
  refine ⟨by simp [zu_at], ?_, ?_, ?_, ⟨?_, ?_, ?_⟩, fun i hi => ?_⟩
  · simp [zu_at, brk]
  · rw [zu_at, if_neg (by omega), zu_at, if_neg (by omega), zu_at, if_neg (by omega), zu_at, if_neg (by omega)]; exact h3
  · rw [zu_at, if_neg (by omega), zu_at, if_neg (by omega), zu_at, if_neg (by omega), zu_at, if_neg (by omega)]; exact h4
  · simp [zu_at]; rfl
  · simp [zu_at]; rfl
  · refine zWs_c h5 (fun i hi => ?_)
    have : ¬ i = ws.length := by have : i < ws.length := hi; omega
    simp [zu_at, this]
  · rw [zu_at, if_neg (by omega), zu_at, if_neg (by omega), zu_at, if_neg (by omega), zu_at, if_neg (by omega)]; exact h6 i hi
theorem FOk_len {w : Bool} (h : FOk F R0 S w) : S.1.length ≤ 72 ∧ S.2.2.2.1 ≤ 64 ∧ S.2.2.2.1 + nbk S.1 ≤ 64 := by
  obtain ⟨h1, h2, h3, h4, -⟩ := h
  have := len_bn S.1
  omega
set_option maxRecDepth 20000 in
theorem cl_readOperand (hok : zOk w) (hs : zPc s) (ht : tOk E t) (hJ : zFc J s (ws, hd, R, n, c)) (hS : FOk F R0 (ws, hd, R, n, c) true)
    (hF : ∀ f J', fLeaf t (ws, hd, R, n, c) = .inl f → zKpt (SPs s) J J' → J' 4 10 = nI f.1 → J' 4 11 = nI f.2 → Q (some (.int 0)) (SH, zTs J' t, L, RF p s (some s)))
    (hG : ∀ S' w' J', fLeaf t (ws, hd, R, n, c) = .inr (S', w') → zKpt (SFc s) J J' → zFc J' s S' → Q (some (.int 1)) (SH, zTs J' t, L, RF p s (some s))) : zXM w mX5_readOperand rX5_readOperand [.ref 4] (SH, zTs J t, L, RF p s (some s)) Q := by
  unfold zXM
  have s8 : 8 < s := by rcases hs with rfl | rfl <;> omega
  obtain ⟨l1, l2, l3⟩ := FOk_len hS
  simp only at l1 l2 l3
  obtain ⟨o1, o2, o3, -⟩ := id hS
  simp only at o1 o2 o3
  have hln := len_bn ws
  have hkd := ht.2.2.1
  have y2 : (nI t.2.2.1 = 2) = (t.2.2.1 = 2) := tK_eq (k := 2) ht (by omega)
  have y46 : (nI t.2.2.1 = 46) = (t.2.2.1 = 46) := tK_eq (k := 46) ht (by omega)
  have y5 : (nI t.2.2.1 = 5) = (t.2.2.1 = 5) := tK_eq (k := 5) ht (by omega)
  obtain ⟨j1, j2, j3, j4, j5, j6⟩ := id hJ
  simp only at j1 j2 j3 j4 j5 j6
  have hg : fLeaf t (ws, hd, R, n, c) = fLeaf t (ws, hd, R, n, c) := rfl
  conv at hg => rhs; unfold fLeaf
  simp only at hg
  have kF : ∀ (x y : Int32), zKpt (SPs s) J (zu (zu J 4 10 x) 4 11 y) := fun x y => (zKpt_rfl.u (by unfold SPs; omega)).u (by unfold SPs; omega)
  by_cases h2 : t.2.2.1 = 2
  · have h2' : (t.2.2.1 = 2) = True := eq_true h2
    rw [if_neg (by show ¬ t.2.2.1 = 5; omega), if_neg (by show ¬ (t.2.2.1 = 46 ∧ _); omega), if_pos h2] at hg
    obtain ⟨v, hv, ev⟩ := ht.2.2.2 h2
    have e3 : (tVl t).toNatClampNeg = v := by show t.2.2.2.toNatClampNeg = v; rw [ev, nI_clamp (by omega)]
    rw [e3] at hg
    have z : (nI v ≤ 9999) = (v ≤ 9999) := by rw [show (9999 : Int32) = nI 9999 from rfl, zle_nat (by omega) (by omega)]
    by_cases h9 : v ≤ 9999
    · have h9' : (v ≤ 9999) = True := eq_true h9
      rw [if_neg (by omega)] at hg
      refine zBlkR (M := mX5_readOperand) (nL := 2) (rt := (Option.some .boolean)) (blk := bX5_readOperand_0) (T := [(32, bX5_readOperand_32), (59, bX5_readOperand_59)]) 1 hX5_readOperand_0 (zChks_cons hX5_readOperand_32 (zChks_cons hX5_readOperand_59 zChks_nil)) rfl rfl rfl (Nat.le_of_ble_eq_true rfl) (Nat.le_of_ble_eq_true rfl) ?_
      simp (implicitDefEqProofs := false) only [bX5_readOperand_0, bX5_readOperand_32, bX5_readOperand_59, zRun_cons, zRun_nil, zLk, zSto, zIns, zFil, zf0, zf1, zf2, zf3, List.filter_cons, List.filter_nil, Nat.reduceAdd, Nat.reduceEqDiff, Nat.reduceLT, Nat.reduceLeDiff, Nat.reduceBEq, Nat.reduceBNe, reduceIte, if_true, if_false, Bool.false_and, Bool.true_and, Bool.and_true, Bool.and_false, Bool.not_false, Bool.not_true, Bool.false_eq_true, beq_self_eq_true, BEq.rfl, zCat1, zCat2, zCat3, zKdI, zKdL, zKdR, true_and, and_true, zSI, zSL, zSR, zu_at, and_self, and_false, false_and, lv_args, zKdZ, zKdO, zB01, zB11, Option.toList_none, Option.toList_some, List.nil_append, List.cons_append, true_or, or_true, zRow_rd, zu_rd, zo_aload_n, zo_getfield, zo_istore_n, zo_iload_n, zo_iconst, zo_icmp_ne, zo_sipush, zo_icmp_le, zi_2, zs_9999, zKd_5_0, zKd_7_6, zKd_7_7, sh_4, rf_4_0, sh_1, zcl_2, zcl_9999, zKn_s, zKn_0, zFind, zTs_12, zTs_13, zTs_14, zTs_15, zTs_16, zTs_17, zTs_o, zTs_u, y2, h2', ev, z, h9', zN10, zN01, not_true_eq_false, not_false_eq_true, false_implies, true_implies, implies_true, eq_self, nI_1, nI_40, nI_7, vz0, vz1, zb1_e0, zb1_n0]
      refine z_cV0 (M' := mX5_countKnot) (R' := rX5_countKnot) (i := 4) [] [] eX5_countKnot k5_204 (by decide +kernel : decode cX5_readOperand 33 = .ok (.invokevirtual 204, 3)) (Nat.le_of_ble_eq_true rfl) ⟨Nat.le_of_ble_eq_true rfl, Nat.le_of_ble_eq_true rfl, Nat.le_of_ble_eq_true rfl, Nat.le_of_ble_eq_true rfl, Nat.le_of_ble_eq_true rfl⟩ rfl rfl rfl sh_4 ?_
      refine cl_countKnot hs o2 j4 (fun h => ?_) (fun h => ?_)
      · rw [if_pos h] at hg
        refine zBlkR (M := mX5_readOperand) (nL := 2) (rt := (Option.some .boolean)) (blk := bX5_readOperand_36) (T := [(57, bX5_readOperand_57)]) 1 hX5_readOperand_36 (zChks_cons hX5_readOperand_57 zChks_nil) rfl rfl rfl (Nat.le_of_ble_eq_true rfl) (Nat.le_of_ble_eq_true rfl) ?_
        simp (implicitDefEqProofs := false) only [bX5_readOperand_36, bX5_readOperand_57, zRun_cons, zRun_nil, zLk, zSto, zIns, zFil, zf0, zf1, zf2, zf3, List.filter_cons, List.filter_nil, Nat.reduceAdd, Nat.reduceEqDiff, Nat.reduceLT, Nat.reduceLeDiff, Nat.reduceBEq, Nat.reduceBNe, reduceIte, if_true, if_false, Bool.false_and, Bool.true_and, Bool.and_true, Bool.and_false, Bool.not_false, Bool.not_true, Bool.false_eq_true, beq_self_eq_true, BEq.rfl, zCat1, zCat2, zCat3, zKdI, zKdL, zKdR, true_and, and_true, zSI, zSL, zSR, zu_at, and_self, and_false, false_and, lv_args, zKdZ, zKdO, zB01, zB11, Option.toList_none, Option.toList_some, List.nil_append, List.cons_append, true_or, or_true, zRow_rd, zu_rd, zo_if_eq, zo_aload_n, zo_getfield, zo_iconst, zo_ireturn, zi_0, zKd_5_0, zKd_7_7, sh_4, rf_4_0, sh_1, zcl_0, zRt, zKn_s, zKn_0, zFind, zN10, zN01, not_true_eq_false, not_false_eq_true, false_implies, true_implies, implies_true, eq_self, nI_1, nI_40, nI_7, vz0, vz1, zb1_e0, zb1_n0]
        exact hF _ _ hg (kF _ _) (by simp [zu_at]; rfl) (by simp [zu_at])
      · rw [if_neg (by omega)] at hg
        refine zBlkR (M := mX5_readOperand) (nL := 2) (rt := (Option.some .boolean)) (blk := bX5_readOperand_36) (T := [(57, bX5_readOperand_57)]) 1 hX5_readOperand_36 (zChks_cons hX5_readOperand_57 zChks_nil) rfl rfl rfl (Nat.le_of_ble_eq_true rfl) (Nat.le_of_ble_eq_true rfl) ?_
        simp (implicitDefEqProofs := false) only [bX5_readOperand_36, bX5_readOperand_57, zRun_cons, zRun_nil, zLk, zSto, zIns, zFil, zf0, zf1, zf2, zf3, List.filter_cons, List.filter_nil, Nat.reduceAdd, Nat.reduceEqDiff, Nat.reduceLT, Nat.reduceLeDiff, Nat.reduceBEq, Nat.reduceBNe, reduceIte, if_true, if_false, Bool.false_and, Bool.true_and, Bool.and_true, Bool.and_false, Bool.not_false, Bool.not_true, Bool.false_eq_true, beq_self_eq_true, BEq.rfl, zCat1, zCat2, zCat3, zKdI, zKdL, zKdR, true_and, and_true, zSI, zSL, zSR, zu_at, and_self, and_false, false_and, lv_args, zKdZ, zKdO, zB01, zB11, Option.toList_none, Option.toList_some, List.nil_append, List.cons_append, true_or, or_true, zRow_rd, zu_rd, zo_if_eq, zo_aload_n, zo_getfield, zo_iconst, zo_ireturn, zi_0, zKd_5_0, zKd_7_7, sh_4, rf_4_0, sh_1, zcl_0, zRt, zKn_s, zKn_0, zFind, zTs_12, zTs_13, zTs_14, zTs_15, zTs_16, zTs_17, zTs_o, zTs_u, ev, zN10, zN01, not_true_eq_false, not_false_eq_true, false_implies, true_implies, implies_true, eq_self, nI_1, nI_40, nI_7, vz0, vz1, zb1_e0, zb1_n0]
        refine z_cV0 (M' := mX5_write) (R' := rX5_write) (i := 4) [.int (nI v)] [] eX5_write k5_207 (by decide +kernel : decode cX5_readOperand 47 = .ok (.invokevirtual 207, 3)) (Nat.le_of_ble_eq_true rfl) ⟨Nat.le_of_ble_eq_true rfl, Nat.le_of_ble_eq_true rfl, Nat.le_of_ble_eq_true rfl, Nat.le_of_ble_eq_true rfl, Nat.le_of_ble_eq_true rfl⟩ rfl rfl rfl sh_4 ?_
        refine cl_rdWrite hs (n := n) (by omega) (by rw [zu_at, if_neg (by omega)]; exact j3) ?_
        refine zBlkR (M := mX5_readOperand) (nL := 2) (rt := (Option.some .boolean)) (blk := bX5_readOperand_50) (T := [(57, bX5_readOperand_57), (58, bX5_readOperand_58)]) 1 hX5_readOperand_50 (zChks_cons hX5_readOperand_57 (zChks_cons hX5_readOperand_58 zChks_nil)) rfl rfl rfl (Nat.le_of_ble_eq_true rfl) (Nat.le_of_ble_eq_true rfl) ?_
        simp (implicitDefEqProofs := false) only [bX5_readOperand_50, bX5_readOperand_57, bX5_readOperand_58, zRun_cons, zRun_nil, zLk, zSto, zIns, zFil, zf0, zf1, zf2, zf3, List.filter_cons, List.filter_nil, Nat.reduceAdd, Nat.reduceEqDiff, Nat.reduceLT, Nat.reduceLeDiff, Nat.reduceBEq, Nat.reduceBNe, reduceIte, if_true, if_false, Bool.false_and, Bool.true_and, Bool.and_true, Bool.and_false, Bool.not_false, Bool.not_true, Bool.false_eq_true, beq_self_eq_true, BEq.rfl, zCat1, zCat2, zCat3, zKdI, zKdL, zKdR, true_and, and_true, zSI, zSL, zSR, zu_at, and_self, and_false, false_and, lv_args, zKdZ, zKdO, zB01, zB11, Option.toList_none, Option.toList_some, List.nil_append, List.cons_append, true_or, or_true, zRow_rd, zu_rd, zo_if_eq, zo_iconst, zo_goto, zo_ireturn, zi_1, zi_0, zcl_1, zcl_0, zRt, zKn_s, zKn_0, zFind, zN10, zN01, not_true_eq_false, not_false_eq_true, false_implies, true_implies, implies_true, eq_self, nI_1, nI_40, nI_7, vz0, vz1, zb1_e0, zb1_n0]
        exact hG _ _ _ hg (((zKpt_rfl.u (by unfold SFc; omega)).u (by unfold SFc; omega)).u (by unfold SFc; omega)) (zFc_leaf hs jEnd_0 hJ)
    · have h9' : (v ≤ 9999) = False := eq_false h9
      rw [if_pos (by omega)] at hg
      refine zBlkR (M := mX5_readOperand) (nL := 2) (rt := (Option.some .boolean)) (blk := bX5_readOperand_0) (T := [(32, bX5_readOperand_32), (59, bX5_readOperand_59)]) 1 hX5_readOperand_0 (zChks_cons hX5_readOperand_32 (zChks_cons hX5_readOperand_59 zChks_nil)) rfl rfl rfl (Nat.le_of_ble_eq_true rfl) (Nat.le_of_ble_eq_true rfl) ?_
      simp (implicitDefEqProofs := false) only [bX5_readOperand_0, bX5_readOperand_32, bX5_readOperand_59, zRun_cons, zRun_nil, zLk, zSto, zIns, zFil, zf0, zf1, zf2, zf3, List.filter_cons, List.filter_nil, Nat.reduceAdd, Nat.reduceEqDiff, Nat.reduceLT, Nat.reduceLeDiff, Nat.reduceBEq, Nat.reduceBNe, reduceIte, if_true, if_false, Bool.false_and, Bool.true_and, Bool.and_true, Bool.and_false, Bool.not_false, Bool.not_true, Bool.false_eq_true, beq_self_eq_true, BEq.rfl, zCat1, zCat2, zCat3, zKdI, zKdL, zKdR, true_and, and_true, zSI, zSL, zSR, zu_at, and_self, and_false, false_and, lv_args, zKdZ, zKdO, zB01, zB11, Option.toList_none, Option.toList_some, List.nil_append, List.cons_append, true_or, or_true, zRow_rd, zu_rd, zo_aload_n, zo_getfield, zo_istore_n, zo_iload_n, zo_iconst, zo_icmp_ne, zo_sipush, zo_icmp_le, zi_2, zs_9999, zKd_5_0, zKd_7_6, zKd_7_7, sh_4, rf_4_0, sh_1, zcl_2, zcl_9999, zKn_s, zKn_0, zFind, zTs_12, zTs_13, zTs_14, zTs_15, zTs_16, zTs_17, zTs_o, zTs_u, y2, h2', ev, z, h9', zN10, zN01, not_true_eq_false, not_false_eq_true, false_implies, true_implies, implies_true, eq_self, nI_1, nI_40, nI_7, vz0, vz1, zb1_e0, zb1_n0]
      refine z_cV0 (M' := mX5_fail) (R' := rX5_fail) (i := 4) [.int 2] [] eX5_fail k5_78 (by decide +kernel : decode cX5_readOperand 28 = .ok (.invokevirtual 78, 3)) (Nat.le_of_ble_eq_true rfl) ⟨Nat.le_of_ble_eq_true rfl, Nat.le_of_ble_eq_true rfl, Nat.le_of_ble_eq_true rfl, Nat.le_of_ble_eq_true rfl, Nat.le_of_ble_eq_true rfl⟩ rfl rfl rfl sh_4 ?_
      refine cl_fail ?_
      refine zBlkR (M := mX5_readOperand) (nL := 2) (rt := (Option.some .boolean)) (blk := bX5_readOperand_31) (T := []) 0 hX5_readOperand_31 zChks_nil rfl rfl rfl (Nat.le_of_ble_eq_true rfl) (Nat.le_of_ble_eq_true rfl) ?_
      simp (implicitDefEqProofs := false) only [bX5_readOperand_31, zRun_cons, zRun_nil, zLk, zSto, zIns, zFil, zf0, zf1, zf2, zf3, List.filter_cons, List.filter_nil, Nat.reduceAdd, Nat.reduceEqDiff, Nat.reduceLT, Nat.reduceLeDiff, Nat.reduceBEq, Nat.reduceBNe, reduceIte, if_true, if_false, Bool.false_and, Bool.true_and, Bool.and_true, Bool.and_false, Bool.not_false, Bool.not_true, Bool.false_eq_true, beq_self_eq_true, BEq.rfl, zCat1, zCat2, zCat3, zKdI, zKdL, zKdR, true_and, and_true, zSI, zSL, zSR, zu_at, and_self, and_false, false_and, lv_args, zKdZ, zKdO, zB01, zB11, Option.toList_none, Option.toList_some, List.nil_append, List.cons_append, true_or, or_true, zRow_rd, zu_rd, zo_ireturn, zRt, zKn_0, zN10, zN01, not_true_eq_false, not_false_eq_true, false_implies, true_implies, implies_true, eq_self, nI_1, nI_40, nI_7, vz0, vz1, zb1_e0, zb1_n0]
      exact hF _ _ hg (kF _ _) (by simp [zu_at]; rfl) (by simp [zu_at])
  · have h2' : (t.2.2.1 = 2) = False := eq_false h2
    refine zBlkR (M := mX5_readOperand) (nL := 2) (rt := (Option.some .boolean)) (blk := bX5_readOperand_0) (T := [(32, bX5_readOperand_32), (59, bX5_readOperand_59)]) 1 hX5_readOperand_0 (zChks_cons hX5_readOperand_32 (zChks_cons hX5_readOperand_59 zChks_nil)) rfl rfl rfl (Nat.le_of_ble_eq_true rfl) (Nat.le_of_ble_eq_true rfl) ?_
    simp (implicitDefEqProofs := false) only [bX5_readOperand_0, bX5_readOperand_32, bX5_readOperand_59, zRun_cons, zRun_nil, zLk, zSto, zIns, zFil, zf0, zf1, zf2, zf3, List.filter_cons, List.filter_nil, Nat.reduceAdd, Nat.reduceEqDiff, Nat.reduceLT, Nat.reduceLeDiff, Nat.reduceBEq, Nat.reduceBNe, reduceIte, if_true, if_false, Bool.false_and, Bool.true_and, Bool.and_true, Bool.and_false, Bool.not_false, Bool.not_true, Bool.false_eq_true, beq_self_eq_true, BEq.rfl, zCat1, zCat2, zCat3, zKdI, zKdL, zKdR, true_and, and_true, zSI, zSL, zSR, zu_at, and_self, and_false, false_and, lv_args, zKdZ, zKdO, zB01, zB11, Option.toList_none, Option.toList_some, List.nil_append, List.cons_append, true_or, or_true, zRow_rd, zu_rd, zo_aload_n, zo_getfield, zo_istore_n, zo_iload_n, zo_iconst, zo_icmp_ne, zo_sipush, zo_icmp_le, zi_2, zs_9999, zKd_5_0, zKd_7_6, zKd_7_7, sh_4, rf_4_0, sh_1, zcl_2, zcl_9999, zKn_s, zKn_0, zFind, zTs_12, zTs_13, zTs_14, zTs_15, zTs_16, zTs_17, zTs_o, zTs_u, y2, h2', zN10, zN01, not_true_eq_false, not_false_eq_true, false_implies, true_implies, implies_true, eq_self, nI_1, nI_40, nI_7, vz0, vz1, zb1_e0, zb1_n0]
    refine z_cSN0 (host := "SkyChairs") (M' := mX9_isNameOfLaw) (R' := rX9_isNameOfLaw) [.int (nI t.2.2.1)] [] eX9_isNameOfLaw (hok.nest (by decide)) (by decide +kernel : decode cX5_readOperand 60 = .ok (.invokestatic 210, 3)) (Nat.le_of_ble_eq_true rfl) ⟨Nat.le_of_ble_eq_true rfl, Nat.le_of_ble_eq_true rfl, Nat.le_of_ble_eq_true rfl, Nat.le_of_ble_eq_true rfl, Nat.le_of_ble_eq_true rfl⟩ rfl rfl rfl ?_
    refine cl_isNameOfLaw ?_
    have eb : (!decide (nI t.2.2.1 < 20) && !decide (27 < nI t.2.2.1)) = decide (20 ≤ t.2.2.1 ∧ t.2.2.1 ≤ 27) := by
      simp only [show (20 : Int32) = nI 20 from rfl, show (27 : Int32) = nI 27 from rfl, zlt_nat (a := t.2.2.1) (b := 20) (by omega) (by omega), zlt_nat (a := 27) (b := t.2.2.1) (by omega) (by omega)]
      by_cases g1 : t.2.2.1 < 20 <;> by_cases g2 : 27 < t.2.2.1 <;> simp [g1, g2] <;> omega
    rw [eb]
    by_cases hn : 20 ≤ t.2.2.1 ∧ t.2.2.1 ≤ 27
    · rw [if_neg (by show ¬ t.2.2.1 = 5; omega), if_neg (by show ¬ (t.2.2.1 = 46 ∧ _); omega), if_neg h2, if_pos hn] at hg
      rw [decide_eq_true hn]
      refine zBlkR (M := mX5_readOperand) (nL := 2) (rt := (Option.some .boolean)) (blk := bX5_readOperand_63) (T := [(88, bX5_readOperand_88), (124, bX5_readOperand_124), (135, bX5_readOperand_135), (150, bX5_readOperand_150)]) 4 hX5_readOperand_63 (zChks_cons hX5_readOperand_88 (zChks_cons hX5_readOperand_124 (zChks_cons hX5_readOperand_135 (zChks_cons hX5_readOperand_150 zChks_nil)))) rfl rfl rfl (Nat.le_of_ble_eq_true rfl) (Nat.le_of_ble_eq_true rfl) ?_
      simp (implicitDefEqProofs := false) only [bX5_readOperand_63, bX5_readOperand_88, bX5_readOperand_124, bX5_readOperand_135, bX5_readOperand_150, zRun_cons, zRun_nil, zLk, zSto, zIns, zFil, zf0, zf1, zf2, zf3, List.filter_cons, List.filter_nil, Nat.reduceAdd, Nat.reduceEqDiff, Nat.reduceLT, Nat.reduceLeDiff, Nat.reduceBEq, Nat.reduceBNe, reduceIte, if_true, if_false, Bool.false_and, Bool.true_and, Bool.and_true, Bool.and_false, Bool.not_false, Bool.not_true, Bool.false_eq_true, beq_self_eq_true, BEq.rfl, zCat1, zCat2, zCat3, zKdI, zKdL, zKdR, true_and, and_true, zSI, zSL, zSR, zu_at, and_self, and_false, false_and, lv_args, zKdZ, zKdO, zB01, zB11, Option.toList_none, Option.toList_some, List.nil_append, List.cons_append, true_or, or_true, zRow_rd, zu_rd, zo_if_eq, zo_aload_n, zo_iload_n, zo_bipush, zo_icmp_ne, zo_iconst, zo_icmp_eq, zo_getfield, zo_icmp_lt, zo_dup, zo_iadd, zo_putfield, zo_putfield_2, zo_putfield_3, zb_46, zi_5, zi_1, zb_8, zi_2, zi_0, zKd_5_5, zTy_5_5, zcl_46, zcl_5, zcl_1, sh_4, zcl_8, zcl_2, zcl_0, zPutC, zKn_s, zKn_0, zFind, zb1_t, zN10, zN01, not_true_eq_false, not_false_eq_true, false_implies, true_implies, implies_true, eq_self, nI_1, nI_40, nI_7, vz0, vz1, zb1_e0, zb1_n0]
      refine z_cV0 (M' := mX5_countKnot) (R' := rX5_countKnot) (i := 4) [] [] eX5_countKnot k5_204 (by decide +kernel : decode cX5_readOperand 67 = .ok (.invokevirtual 204, 3)) (Nat.le_of_ble_eq_true rfl) ⟨Nat.le_of_ble_eq_true rfl, Nat.le_of_ble_eq_true rfl, Nat.le_of_ble_eq_true rfl, Nat.le_of_ble_eq_true rfl, Nat.le_of_ble_eq_true rfl⟩ rfl rfl rfl sh_4 ?_
      refine cl_countKnot hs o2 j4 (fun h => ?_) (fun h => ?_)
      · rw [if_pos h] at hg
        refine zBlkR (M := mX5_readOperand) (nL := 2) (rt := (Option.some .boolean)) (blk := bX5_readOperand_70) (T := [(86, bX5_readOperand_86)]) 1 hX5_readOperand_70 (zChks_cons hX5_readOperand_86 zChks_nil) rfl rfl rfl (Nat.le_of_ble_eq_true rfl) (Nat.le_of_ble_eq_true rfl) ?_
        simp (implicitDefEqProofs := false) only [bX5_readOperand_70, bX5_readOperand_86, zRun_cons, zRun_nil, zLk, zSto, zIns, zFil, zf0, zf1, zf2, zf3, List.filter_cons, List.filter_nil, Nat.reduceAdd, Nat.reduceEqDiff, Nat.reduceLT, Nat.reduceLeDiff, Nat.reduceBEq, Nat.reduceBNe, reduceIte, if_true, if_false, Bool.false_and, Bool.true_and, Bool.and_true, Bool.and_false, Bool.not_false, Bool.not_true, Bool.false_eq_true, beq_self_eq_true, BEq.rfl, zCat1, zCat2, zCat3, zKdI, zKdL, zKdR, true_and, and_true, zSI, zSL, zSR, zu_at, and_self, and_false, false_and, lv_args, zKdZ, zKdO, zB01, zB11, Option.toList_none, Option.toList_some, List.nil_append, List.cons_append, true_or, or_true, zRow_rd, zu_rd, zo_if_eq, zo_aload_n, zo_iload_n, zo_ineg, zo_iconst, zo_ireturn, zi_0, zcl_0, zRt, zKn_s, zKn_0, zFind, zN10, zN01, not_true_eq_false, not_false_eq_true, false_implies, true_implies, implies_true, eq_self, nI_1, nI_40, nI_7, vz0, vz1, zb1_e0, zb1_n0]
        exact hF _ _ hg (kF _ _) (by simp [zu_at]; rfl) (by simp [zu_at])
      · rw [if_neg (by omega)] at hg
        refine zBlkR (M := mX5_readOperand) (nL := 2) (rt := (Option.some .boolean)) (blk := bX5_readOperand_70) (T := [(86, bX5_readOperand_86)]) 1 hX5_readOperand_70 (zChks_cons hX5_readOperand_86 zChks_nil) rfl rfl rfl (Nat.le_of_ble_eq_true rfl) (Nat.le_of_ble_eq_true rfl) ?_
        simp (implicitDefEqProofs := false) only [bX5_readOperand_70, bX5_readOperand_86, zRun_cons, zRun_nil, zLk, zSto, zIns, zFil, zf0, zf1, zf2, zf3, List.filter_cons, List.filter_nil, Nat.reduceAdd, Nat.reduceEqDiff, Nat.reduceLT, Nat.reduceLeDiff, Nat.reduceBEq, Nat.reduceBNe, reduceIte, if_true, if_false, Bool.false_and, Bool.true_and, Bool.and_true, Bool.and_false, Bool.not_false, Bool.not_true, Bool.false_eq_true, beq_self_eq_true, BEq.rfl, zCat1, zCat2, zCat3, zKdI, zKdL, zKdR, true_and, and_true, zSI, zSL, zSR, zu_at, and_self, and_false, false_and, lv_args, zKdZ, zKdO, zB01, zB11, Option.toList_none, Option.toList_some, List.nil_append, List.cons_append, true_or, or_true, zRow_rd, zu_rd, zo_if_eq, zo_aload_n, zo_iload_n, zo_ineg, zo_iconst, zo_ireturn, zi_0, zcl_0, zRt, zKn_s, zKn_0, zFind, zN10, zN01, not_true_eq_false, not_false_eq_true, false_implies, true_implies, implies_true, eq_self, nI_1, nI_40, nI_7, vz0, vz1, zb1_e0, zb1_n0]
        refine z_cV0 (M' := mX5_write) (R' := rX5_write) (i := 4) [.int (-nI t.2.2.1)] [] eX5_write k5_207 (by decide +kernel : decode cX5_readOperand 76 = .ok (.invokevirtual 207, 3)) (Nat.le_of_ble_eq_true rfl) ⟨Nat.le_of_ble_eq_true rfl, Nat.le_of_ble_eq_true rfl, Nat.le_of_ble_eq_true rfl, Nat.le_of_ble_eq_true rfl, Nat.le_of_ble_eq_true rfl⟩ rfl rfl rfl sh_4 ?_
        refine cl_rdWrite hs (n := n) (by omega) (by rw [zu_at, if_neg (by omega)]; exact j3) ?_
        refine zBlkR (M := mX5_readOperand) (nL := 2) (rt := (Option.some .boolean)) (blk := bX5_readOperand_79) (T := [(86, bX5_readOperand_86), (87, bX5_readOperand_87)]) 1 hX5_readOperand_79 (zChks_cons hX5_readOperand_86 (zChks_cons hX5_readOperand_87 zChks_nil)) rfl rfl rfl (Nat.le_of_ble_eq_true rfl) (Nat.le_of_ble_eq_true rfl) ?_
        simp (implicitDefEqProofs := false) only [bX5_readOperand_79, bX5_readOperand_86, bX5_readOperand_87, zRun_cons, zRun_nil, zLk, zSto, zIns, zFil, zf0, zf1, zf2, zf3, List.filter_cons, List.filter_nil, Nat.reduceAdd, Nat.reduceEqDiff, Nat.reduceLT, Nat.reduceLeDiff, Nat.reduceBEq, Nat.reduceBNe, reduceIte, if_true, if_false, Bool.false_and, Bool.true_and, Bool.and_true, Bool.and_false, Bool.not_false, Bool.not_true, Bool.false_eq_true, beq_self_eq_true, BEq.rfl, zCat1, zCat2, zCat3, zKdI, zKdL, zKdR, true_and, and_true, zSI, zSL, zSR, zu_at, and_self, and_false, false_and, lv_args, zKdZ, zKdO, zB01, zB11, Option.toList_none, Option.toList_some, List.nil_append, List.cons_append, true_or, or_true, zRow_rd, zu_rd, zo_if_eq, zo_iconst, zo_goto, zo_ireturn, zi_1, zi_0, zcl_1, zcl_0, zRt, zKn_s, zKn_0, zFind, zN10, zN01, not_true_eq_false, not_false_eq_true, false_implies, true_implies, implies_true, eq_self, nI_1, nI_40, nI_7, vz0, vz1, zb1_e0, zb1_n0]
        exact hG _ _ _ hg (((zKpt_rfl.u (by unfold SFc; omega)).u (by unfold SFc; omega)).u (by unfold SFc; omega)) (zFc_leaf hs (jEnd_1 t.2.2.1 (by omega) (by omega)) hJ)
    · rw [decide_eq_false hn]
      -- a bracket, or nothing that fits
      have go124 : ¬ (tKd t = 46 ∧ rkN (ws.headD 0) ≤ 3) → zX w mX5_readOperand rX5_readOperand Q 0 0 124 [(0, Value.ref 4), (1, Value.int (nI t.2.2.1))] [] (SH, zTs J t, L, RF p s (some s)) := by
        intro hno
        by_cases h5 : t.2.2.1 = 5
        · have h5' : (t.2.2.1 = 5) = True := eq_true h5
          rw [if_pos h5] at hg
          have z8 : (nI (brk ws) < 8) = (brk ws < 8) := by rw [show (8 : Int32) = nI 8 from rfl, zlt_nat (by omega) (by omega)]
          by_cases hb : brk ws < 8
          · have hb' : (brk ws < 8) = True := eq_true hb
            rw [if_neg (by omega)] at hg
            refine zBlkR (M := mX5_readOperand) (nL := 2) (rt := (Option.some .boolean)) (blk := bX5_readOperand_124) (T := [(135, bX5_readOperand_135), (150, bX5_readOperand_150)]) 2 hX5_readOperand_124 (zChks_cons hX5_readOperand_135 (zChks_cons hX5_readOperand_150 zChks_nil)) rfl rfl rfl (Nat.le_of_ble_eq_true rfl) (Nat.le_of_ble_eq_true rfl) ?_
            simp (implicitDefEqProofs := false) only [bX5_readOperand_124, bX5_readOperand_135, bX5_readOperand_150, zRun_cons, zRun_nil, zLk, zSto, zIns, zFil, zf0, zf1, zf2, zf3, List.filter_cons, List.filter_nil, Nat.reduceAdd, Nat.reduceEqDiff, Nat.reduceLT, Nat.reduceLeDiff, Nat.reduceBEq, Nat.reduceBNe, reduceIte, if_true, if_false, Bool.false_and, Bool.true_and, Bool.and_true, Bool.and_false, Bool.not_false, Bool.not_true, Bool.false_eq_true, beq_self_eq_true, BEq.rfl, zCat1, zCat2, zCat3, zKdI, zKdL, zKdR, true_and, and_true, zSI, zSL, zSR, zu_at, and_self, and_false, false_and, lv_args, zKdZ, zKdO, zB01, zB11, Option.toList_none, Option.toList_some, List.nil_append, List.cons_append, true_or, or_true, zRow_rd, zu_rd, zo_iload_n, zo_iconst, zo_icmp_eq, zo_aload_n, zo_getfield, zo_bipush, zo_icmp_lt, zo_dup, zo_iadd, zo_putfield, zo_putfield_2, zo_putfield_3, zi_5, zi_1, zb_8, zi_2, zi_0, zKd_5_5, zTy_5_5, zcl_5, zcl_1, sh_4, zcl_8, zcl_2, zcl_0, zPutC, zKn_s, zKn_0, zFind, zTs_12, zTs_13, zTs_14, zTs_15, zTs_16, zTs_17, zTs_o, zTs_u, y5, h5', j2, z8, hb', nI_1, zN10, zN01, not_true_eq_false, not_false_eq_true, false_implies, true_implies, implies_true, eq_self, nI_1, nI_40, nI_7, vz0, vz1, zb1_e0, zb1_n0]
            refine z_cV0 (M' := mX5_push) (R' := rX5_push) (i := 4) [.int (nI t.2.2.1), .int 0] [] eX5_push k5_217 (by decide +kernel : decode cX5_readOperand 163 = .ok (.invokevirtual 217, 3)) (Nat.le_of_ble_eq_true rfl) ⟨Nat.le_of_ble_eq_true rfl, Nat.le_of_ble_eq_true rfl, Nat.le_of_ble_eq_true rfl, Nat.le_of_ble_eq_true rfl, Nat.le_of_ble_eq_true rfl⟩ rfl rfl rfl sh_4 ?_
            refine cl_push (n := ws.length) (by omega) (by simp [zu_at]; exact j1) ?_
            rw [h5]
            refine zBlkR (M := mX5_readOperand) (nL := 2) (rt := (Option.some .boolean)) (blk := bX5_readOperand_166) (T := []) 0 hX5_readOperand_166 zChks_nil rfl rfl rfl (Nat.le_of_ble_eq_true rfl) (Nat.le_of_ble_eq_true rfl) ?_
            simp (implicitDefEqProofs := false) only [bX5_readOperand_166, zRun_cons, zRun_nil, zLk, zSto, zIns, zFil, zf0, zf1, zf2, zf3, List.filter_cons, List.filter_nil, Nat.reduceAdd, Nat.reduceEqDiff, Nat.reduceLT, Nat.reduceLeDiff, Nat.reduceBEq, Nat.reduceBNe, reduceIte, if_true, if_false, Bool.false_and, Bool.true_and, Bool.and_true, Bool.and_false, Bool.not_false, Bool.not_true, Bool.false_eq_true, beq_self_eq_true, BEq.rfl, zCat1, zCat2, zCat3, zKdI, zKdL, zKdR, true_and, and_true, zSI, zSL, zSR, zu_at, and_self, and_false, false_and, lv_args, zKdZ, zKdO, zB01, zB11, Option.toList_none, Option.toList_some, List.nil_append, List.cons_append, true_or, or_true, zRow_rd, zu_rd, zo_ireturn, zRt, zKn_0, zN10, zN01, not_true_eq_false, not_false_eq_true, false_implies, true_implies, implies_true, eq_self, nI_1, nI_40, nI_7, vz0, vz1, zb1_e0, zb1_n0]
            exact hG _ _ _ hg ((((zKpt_rfl.u (by unfold SFc; omega)).u (by unfold SFc; omega)).u (by unfold SFc; omega)).u (by unfold SFc; omega)) (zFc_open hs hJ)
          · have hb' : (brk ws < 8) = False := eq_false hb
            rw [if_pos (by omega)] at hg
            refine zBlkR (M := mX5_readOperand) (nL := 2) (rt := (Option.some .boolean)) (blk := bX5_readOperand_124) (T := [(135, bX5_readOperand_135), (150, bX5_readOperand_150)]) 2 hX5_readOperand_124 (zChks_cons hX5_readOperand_135 (zChks_cons hX5_readOperand_150 zChks_nil)) rfl rfl rfl (Nat.le_of_ble_eq_true rfl) (Nat.le_of_ble_eq_true rfl) ?_
            simp (implicitDefEqProofs := false) only [bX5_readOperand_124, bX5_readOperand_135, bX5_readOperand_150, zRun_cons, zRun_nil, zLk, zSto, zIns, zFil, zf0, zf1, zf2, zf3, List.filter_cons, List.filter_nil, Nat.reduceAdd, Nat.reduceEqDiff, Nat.reduceLT, Nat.reduceLeDiff, Nat.reduceBEq, Nat.reduceBNe, reduceIte, if_true, if_false, Bool.false_and, Bool.true_and, Bool.and_true, Bool.and_false, Bool.not_false, Bool.not_true, Bool.false_eq_true, beq_self_eq_true, BEq.rfl, zCat1, zCat2, zCat3, zKdI, zKdL, zKdR, true_and, and_true, zSI, zSL, zSR, zu_at, and_self, and_false, false_and, lv_args, zKdZ, zKdO, zB01, zB11, Option.toList_none, Option.toList_some, List.nil_append, List.cons_append, true_or, or_true, zRow_rd, zu_rd, zo_iload_n, zo_iconst, zo_icmp_eq, zo_aload_n, zo_getfield, zo_bipush, zo_icmp_lt, zo_dup, zo_iadd, zo_putfield, zo_putfield_2, zo_putfield_3, zi_5, zi_1, zb_8, zi_2, zi_0, zKd_5_5, zTy_5_5, zcl_5, zcl_1, sh_4, zcl_8, zcl_2, zcl_0, zPutC, zKn_s, zKn_0, zFind, zTs_12, zTs_13, zTs_14, zTs_15, zTs_16, zTs_17, zTs_o, zTs_u, y5, h5', j2, z8, hb', zN10, zN01, not_true_eq_false, not_false_eq_true, false_implies, true_implies, implies_true, eq_self, nI_1, nI_40, nI_7, vz0, vz1, zb1_e0, zb1_n0]
            refine z_cV0 (M' := mX5_fail) (R' := rX5_fail) (i := 4) [.int 2] [] eX5_fail k5_78 (by decide +kernel : decode cX5_readOperand 146 = .ok (.invokevirtual 78, 3)) (Nat.le_of_ble_eq_true rfl) ⟨Nat.le_of_ble_eq_true rfl, Nat.le_of_ble_eq_true rfl, Nat.le_of_ble_eq_true rfl, Nat.le_of_ble_eq_true rfl, Nat.le_of_ble_eq_true rfl⟩ rfl rfl rfl sh_4 ?_
            refine cl_fail ?_
            refine zBlkR (M := mX5_readOperand) (nL := 2) (rt := (Option.some .boolean)) (blk := bX5_readOperand_149) (T := []) 0 hX5_readOperand_149 zChks_nil rfl rfl rfl (Nat.le_of_ble_eq_true rfl) (Nat.le_of_ble_eq_true rfl) ?_
            simp (implicitDefEqProofs := false) only [bX5_readOperand_149, zRun_cons, zRun_nil, zLk, zSto, zIns, zFil, zf0, zf1, zf2, zf3, List.filter_cons, List.filter_nil, Nat.reduceAdd, Nat.reduceEqDiff, Nat.reduceLT, Nat.reduceLeDiff, Nat.reduceBEq, Nat.reduceBNe, reduceIte, if_true, if_false, Bool.false_and, Bool.true_and, Bool.and_true, Bool.and_false, Bool.not_false, Bool.not_true, Bool.false_eq_true, beq_self_eq_true, BEq.rfl, zCat1, zCat2, zCat3, zKdI, zKdL, zKdR, true_and, and_true, zSI, zSL, zSR, zu_at, and_self, and_false, false_and, lv_args, zKdZ, zKdO, zB01, zB11, Option.toList_none, Option.toList_some, List.nil_append, List.cons_append, true_or, or_true, zRow_rd, zu_rd, zo_ireturn, zRt, zKn_0, zN10, zN01, not_true_eq_false, not_false_eq_true, false_implies, true_implies, implies_true, eq_self, nI_1, nI_40, nI_7, vz0, vz1, zb1_e0, zb1_n0]
            exact hF _ _ hg (kF _ _) (by simp [zu_at]; rfl) (by simp [zu_at])
        · have h5' : (t.2.2.1 = 5) = False := eq_false h5
          rw [if_neg h5, if_neg hno, if_neg h2, if_neg hn] at hg
          refine zBlkR (M := mX5_readOperand) (nL := 2) (rt := (Option.some .boolean)) (blk := bX5_readOperand_124) (T := [(135, bX5_readOperand_135), (150, bX5_readOperand_150)]) 2 hX5_readOperand_124 (zChks_cons hX5_readOperand_135 (zChks_cons hX5_readOperand_150 zChks_nil)) rfl rfl rfl (Nat.le_of_ble_eq_true rfl) (Nat.le_of_ble_eq_true rfl) ?_
          simp (implicitDefEqProofs := false) only [bX5_readOperand_124, bX5_readOperand_135, bX5_readOperand_150, zRun_cons, zRun_nil, zLk, zSto, zIns, zFil, zf0, zf1, zf2, zf3, List.filter_cons, List.filter_nil, Nat.reduceAdd, Nat.reduceEqDiff, Nat.reduceLT, Nat.reduceLeDiff, Nat.reduceBEq, Nat.reduceBNe, reduceIte, if_true, if_false, Bool.false_and, Bool.true_and, Bool.and_true, Bool.and_false, Bool.not_false, Bool.not_true, Bool.false_eq_true, beq_self_eq_true, BEq.rfl, zCat1, zCat2, zCat3, zKdI, zKdL, zKdR, true_and, and_true, zSI, zSL, zSR, zu_at, and_self, and_false, false_and, lv_args, zKdZ, zKdO, zB01, zB11, Option.toList_none, Option.toList_some, List.nil_append, List.cons_append, true_or, or_true, zRow_rd, zu_rd, zo_iload_n, zo_iconst, zo_icmp_eq, zo_aload_n, zo_getfield, zo_bipush, zo_icmp_lt, zo_dup, zo_iadd, zo_putfield, zo_putfield_2, zo_putfield_3, zi_5, zi_1, zb_8, zi_2, zi_0, zKd_5_5, zTy_5_5, zcl_5, zcl_1, sh_4, zcl_8, zcl_2, zcl_0, zPutC, zKn_s, zKn_0, zFind, zTs_12, zTs_13, zTs_14, zTs_15, zTs_16, zTs_17, zTs_o, zTs_u, y5, h5', zN10, zN01, not_true_eq_false, not_false_eq_true, false_implies, true_implies, implies_true, eq_self, nI_1, nI_40, nI_7, vz0, vz1, zb1_e0, zb1_n0]
          refine z_cV0 (M' := mX5_fail) (R' := rX5_fail) (i := 4) [.int 1] [] eX5_fail k5_78 (by decide +kernel : decode cX5_readOperand 131 = .ok (.invokevirtual 78, 3)) (Nat.le_of_ble_eq_true rfl) ⟨Nat.le_of_ble_eq_true rfl, Nat.le_of_ble_eq_true rfl, Nat.le_of_ble_eq_true rfl, Nat.le_of_ble_eq_true rfl, Nat.le_of_ble_eq_true rfl⟩ rfl rfl rfl sh_4 ?_
          refine cl_fail ?_
          refine zBlkR (M := mX5_readOperand) (nL := 2) (rt := (Option.some .boolean)) (blk := bX5_readOperand_134) (T := []) 0 hX5_readOperand_134 zChks_nil rfl rfl rfl (Nat.le_of_ble_eq_true rfl) (Nat.le_of_ble_eq_true rfl) ?_
          simp (implicitDefEqProofs := false) only [bX5_readOperand_134, zRun_cons, zRun_nil, zLk, zSto, zIns, zFil, zf0, zf1, zf2, zf3, List.filter_cons, List.filter_nil, Nat.reduceAdd, Nat.reduceEqDiff, Nat.reduceLT, Nat.reduceLeDiff, Nat.reduceBEq, Nat.reduceBNe, reduceIte, if_true, if_false, Bool.false_and, Bool.true_and, Bool.and_true, Bool.and_false, Bool.not_false, Bool.not_true, Bool.false_eq_true, beq_self_eq_true, BEq.rfl, zCat1, zCat2, zCat3, zKdI, zKdL, zKdR, true_and, and_true, zSI, zSL, zSR, zu_at, and_self, and_false, false_and, lv_args, zKdZ, zKdO, zB01, zB11, Option.toList_none, Option.toList_some, List.nil_append, List.cons_append, true_or, or_true, zRow_rd, zu_rd, zo_ireturn, zRt, zKn_0, zN10, zN01, not_true_eq_false, not_false_eq_true, false_implies, true_implies, implies_true, eq_self, nI_1, nI_40, nI_7, vz0, vz1, zb1_e0, zb1_n0]
          exact hF _ _ hg (kF _ _) (by simp [zu_at]; rfl) (by simp [zu_at])
      by_cases h46 : t.2.2.1 = 46
      · have h46' : (t.2.2.1 = 46) = True := eq_true h46
        refine zBlkR (M := mX5_readOperand) (nL := 2) (rt := (Option.some .boolean)) (blk := bX5_readOperand_63) (T := [(88, bX5_readOperand_88)]) 1 hX5_readOperand_63 (zChks_cons hX5_readOperand_88 zChks_nil) rfl rfl rfl (Nat.le_of_ble_eq_true rfl) (Nat.le_of_ble_eq_true rfl) ?_
        simp (implicitDefEqProofs := false) only [bX5_readOperand_63, bX5_readOperand_88, zRun_cons, zRun_nil, zLk, zSto, zIns, zFil, zf0, zf1, zf2, zf3, List.filter_cons, List.filter_nil, Nat.reduceAdd, Nat.reduceEqDiff, Nat.reduceLT, Nat.reduceLeDiff, Nat.reduceBEq, Nat.reduceBNe, reduceIte, if_true, if_false, Bool.false_and, Bool.true_and, Bool.and_true, Bool.and_false, Bool.not_false, Bool.not_true, Bool.false_eq_true, beq_self_eq_true, BEq.rfl, zCat1, zCat2, zCat3, zKdI, zKdL, zKdR, true_and, and_true, zSI, zSL, zSR, zu_at, and_self, and_false, false_and, lv_args, zKdZ, zKdO, zB01, zB11, Option.toList_none, Option.toList_some, List.nil_append, List.cons_append, true_or, or_true, zRow_rd, zu_rd, zo_if_eq, zo_aload_n, zo_iload_n, zo_bipush, zo_icmp_ne, zb_46, zcl_46, zKn_s, zKn_0, zFind, zb1_f, y46, h46', zN10, zN01, not_true_eq_false, not_false_eq_true, false_implies, true_implies, implies_true, eq_self, nI_1, nI_40, nI_7, vz0, vz1, zb1_e0, zb1_n0]
        refine z_cV0 (M' := mX5_topRank) (R' := rX5_topRank) (i := 4) [] [] eX5_topRank k5_213 (by decide +kernel : decode cX5_readOperand 95 = .ok (.invokevirtual 213, 3)) (Nat.le_of_ble_eq_true rfl) ⟨Nat.le_of_ble_eq_true rfl, Nat.le_of_ble_eq_true rfl, Nat.le_of_ble_eq_true rfl, Nat.le_of_ble_eq_true rfl, Nat.le_of_ble_eq_true rfl⟩ rfl rfl rfl sh_4 ?_
        refine cl_topRank j1 j5 l1 ?_
        have hr6 : rkN (ws.headD 0) ≤ 6 := by
          match ws, hS with
          | [], _ => show rkN 0 ≤ 6; decide
          | k :: ws, hS => exact rkN_lt (hS.2.2.2.2.2.2.1 k List.mem_cons_self).2
        have z3 : ((3 : Int32) < nI (rkN (ws.headD 0))) = (3 < rkN (ws.headD 0)) := by rw [show (3 : Int32) = nI 3 from rfl, zlt_nat (by omega) (by omega)]
        by_cases hr : 3 < rkN (ws.headD 0)
        · have hr' : (3 < rkN (ws.headD 0)) = True := eq_true hr
          have key := go124 (fun q => by omega)
          refine zBlkR (M := mX5_readOperand) (nL := 2) (rt := (Option.some .boolean)) (blk := bX5_readOperand_98) (T := []) 0 hX5_readOperand_98 zChks_nil rfl rfl rfl (Nat.le_of_ble_eq_true rfl) (Nat.le_of_ble_eq_true rfl) ?_
          simp (implicitDefEqProofs := false) only [bX5_readOperand_98, zRun_cons, zRun_nil, zLk, zSto, zIns, zFil, zf0, zf1, zf2, zf3, List.filter_cons, List.filter_nil, Nat.reduceAdd, Nat.reduceEqDiff, Nat.reduceLT, Nat.reduceLeDiff, Nat.reduceBEq, Nat.reduceBNe, reduceIte, if_true, if_false, Bool.false_and, Bool.true_and, Bool.and_true, Bool.and_false, Bool.not_false, Bool.not_true, Bool.false_eq_true, beq_self_eq_true, BEq.rfl, zCat1, zCat2, zCat3, zKdI, zKdL, zKdR, true_and, and_true, zSI, zSL, zSR, zu_at, and_self, and_false, false_and, lv_args, zKdZ, zKdO, zB01, zB11, Option.toList_none, Option.toList_some, List.nil_append, List.cons_append, true_or, or_true, zRow_rd, zu_rd, zo_iconst, zo_icmp_gt, zo_aload_n, zi_3, zcl_3, zKn_0, z3, hr', zN10, zN01, not_true_eq_false, not_false_eq_true, false_implies, true_implies, implies_true, eq_self, nI_1, nI_40, nI_7, vz0, vz1, zb1_e0, zb1_n0]
          exact key
        · have hr' : (3 < rkN (ws.headD 0)) = False := eq_false hr
          rw [if_neg (by show ¬ t.2.2.1 = 5; omega), if_pos ⟨h46, by omega⟩] at hg
          refine zBlkR (M := mX5_readOperand) (nL := 2) (rt := (Option.some .boolean)) (blk := bX5_readOperand_98) (T := []) 0 hX5_readOperand_98 zChks_nil rfl rfl rfl (Nat.le_of_ble_eq_true rfl) (Nat.le_of_ble_eq_true rfl) ?_
          simp (implicitDefEqProofs := false) only [bX5_readOperand_98, zRun_cons, zRun_nil, zLk, zSto, zIns, zFil, zf0, zf1, zf2, zf3, List.filter_cons, List.filter_nil, Nat.reduceAdd, Nat.reduceEqDiff, Nat.reduceLT, Nat.reduceLeDiff, Nat.reduceBEq, Nat.reduceBNe, reduceIte, if_true, if_false, Bool.false_and, Bool.true_and, Bool.and_true, Bool.and_false, Bool.not_false, Bool.not_true, Bool.false_eq_true, beq_self_eq_true, BEq.rfl, zCat1, zCat2, zCat3, zKdI, zKdL, zKdR, true_and, and_true, zSI, zSL, zSR, zu_at, and_self, and_false, false_and, lv_args, zKdZ, zKdO, zB01, zB11, Option.toList_none, Option.toList_some, List.nil_append, List.cons_append, true_or, or_true, zRow_rd, zu_rd, zo_iconst, zo_icmp_gt, zo_aload_n, zi_3, zcl_3, zKn_0, z3, hr', zN10, zN01, not_true_eq_false, not_false_eq_true, false_implies, true_implies, implies_true, eq_self, nI_1, nI_40, nI_7, vz0, vz1, zb1_e0, zb1_n0]
          refine z_cV0 (M' := mX5_countKnot) (R' := rX5_countKnot) (i := 4) [] [] eX5_countKnot k5_204 (by decide +kernel : decode cX5_readOperand 103 = .ok (.invokevirtual 204, 3)) (Nat.le_of_ble_eq_true rfl) ⟨Nat.le_of_ble_eq_true rfl, Nat.le_of_ble_eq_true rfl, Nat.le_of_ble_eq_true rfl, Nat.le_of_ble_eq_true rfl, Nat.le_of_ble_eq_true rfl⟩ rfl rfl rfl sh_4 ?_
          refine cl_countKnot hs o2 j4 (fun h => ?_) (fun h => ?_)
          · rw [if_pos h] at hg
            refine zBlkR (M := mX5_readOperand) (nL := 2) (rt := (Option.some .boolean)) (blk := bX5_readOperand_106) (T := [(122, bX5_readOperand_122)]) 1 hX5_readOperand_106 (zChks_cons hX5_readOperand_122 zChks_nil) rfl rfl rfl (Nat.le_of_ble_eq_true rfl) (Nat.le_of_ble_eq_true rfl) ?_
            simp (implicitDefEqProofs := false) only [bX5_readOperand_106, bX5_readOperand_122, zRun_cons, zRun_nil, zLk, zSto, zIns, zFil, zf0, zf1, zf2, zf3, List.filter_cons, List.filter_nil, Nat.reduceAdd, Nat.reduceEqDiff, Nat.reduceLT, Nat.reduceLeDiff, Nat.reduceBEq, Nat.reduceBNe, reduceIte, if_true, if_false, Bool.false_and, Bool.true_and, Bool.and_true, Bool.and_false, Bool.not_false, Bool.not_true, Bool.false_eq_true, beq_self_eq_true, BEq.rfl, zCat1, zCat2, zCat3, zKdI, zKdL, zKdR, true_and, and_true, zSI, zSL, zSR, zu_at, and_self, and_false, false_and, lv_args, zKdZ, zKdO, zB01, zB11, Option.toList_none, Option.toList_some, List.nil_append, List.cons_append, true_or, or_true, zRow_rd, zu_rd, zo_if_eq, zo_aload_n, zo_iload_n, zo_iconst, zo_ireturn, zi_3, zi_0, zcl_3, zcl_0, zRt, zKn_s, zKn_0, zFind, zN10, zN01, not_true_eq_false, not_false_eq_true, false_implies, true_implies, implies_true, eq_self, nI_1, nI_40, nI_7, vz0, vz1, zb1_e0, zb1_n0]
            exact hF _ _ hg (kF _ _) (by simp [zu_at]; rfl) (by simp [zu_at])
          · rw [if_neg (by omega)] at hg
            refine zBlkR (M := mX5_readOperand) (nL := 2) (rt := (Option.some .boolean)) (blk := bX5_readOperand_106) (T := [(122, bX5_readOperand_122)]) 1 hX5_readOperand_106 (zChks_cons hX5_readOperand_122 zChks_nil) rfl rfl rfl (Nat.le_of_ble_eq_true rfl) (Nat.le_of_ble_eq_true rfl) ?_
            simp (implicitDefEqProofs := false) only [bX5_readOperand_106, bX5_readOperand_122, zRun_cons, zRun_nil, zLk, zSto, zIns, zFil, zf0, zf1, zf2, zf3, List.filter_cons, List.filter_nil, Nat.reduceAdd, Nat.reduceEqDiff, Nat.reduceLT, Nat.reduceLeDiff, Nat.reduceBEq, Nat.reduceBNe, reduceIte, if_true, if_false, Bool.false_and, Bool.true_and, Bool.and_true, Bool.and_false, Bool.not_false, Bool.not_true, Bool.false_eq_true, beq_self_eq_true, BEq.rfl, zCat1, zCat2, zCat3, zKdI, zKdL, zKdR, true_and, and_true, zSI, zSL, zSR, zu_at, and_self, and_false, false_and, lv_args, zKdZ, zKdO, zB01, zB11, Option.toList_none, Option.toList_some, List.nil_append, List.cons_append, true_or, or_true, zRow_rd, zu_rd, zo_if_eq, zo_aload_n, zo_iload_n, zo_iconst, zo_ireturn, zi_3, zi_0, zcl_3, zcl_0, zRt, zKn_s, zKn_0, zFind, zN10, zN01, not_true_eq_false, not_false_eq_true, false_implies, true_implies, implies_true, eq_self, nI_1, nI_40, nI_7, vz0, vz1, zb1_e0, zb1_n0]
            refine z_cV0 (M' := mX5_push) (R' := rX5_push) (i := 4) [.int (nI t.2.2.1), .int 3] [] eX5_push k5_217 (by decide +kernel : decode cX5_readOperand 112 = .ok (.invokevirtual 217, 3)) (Nat.le_of_ble_eq_true rfl) ⟨Nat.le_of_ble_eq_true rfl, Nat.le_of_ble_eq_true rfl, Nat.le_of_ble_eq_true rfl, Nat.le_of_ble_eq_true rfl, Nat.le_of_ble_eq_true rfl⟩ rfl rfl rfl sh_4 ?_
            refine cl_push (n := ws.length) (by omega) (by rw [zu_at, if_neg (by omega)]; exact j1) ?_
            rw [h46]
            refine zBlkR (M := mX5_readOperand) (nL := 2) (rt := (Option.some .boolean)) (blk := bX5_readOperand_115) (T := [(122, bX5_readOperand_122), (123, bX5_readOperand_123)]) 1 hX5_readOperand_115 (zChks_cons hX5_readOperand_122 (zChks_cons hX5_readOperand_123 zChks_nil)) rfl rfl rfl (Nat.le_of_ble_eq_true rfl) (Nat.le_of_ble_eq_true rfl) ?_
            simp (implicitDefEqProofs := false) only [bX5_readOperand_115, bX5_readOperand_122, bX5_readOperand_123, zRun_cons, zRun_nil, zLk, zSto, zIns, zFil, zf0, zf1, zf2, zf3, List.filter_cons, List.filter_nil, Nat.reduceAdd, Nat.reduceEqDiff, Nat.reduceLT, Nat.reduceLeDiff, Nat.reduceBEq, Nat.reduceBNe, reduceIte, if_true, if_false, Bool.false_and, Bool.true_and, Bool.and_true, Bool.and_false, Bool.not_false, Bool.not_true, Bool.false_eq_true, beq_self_eq_true, BEq.rfl, zCat1, zCat2, zCat3, zKdI, zKdL, zKdR, true_and, and_true, zSI, zSL, zSR, zu_at, and_self, and_false, false_and, lv_args, zKdZ, zKdO, zB01, zB11, Option.toList_none, Option.toList_some, List.nil_append, List.cons_append, true_or, or_true, zRow_rd, zu_rd, zo_if_eq, zo_iconst, zo_goto, zo_ireturn, zi_1, zi_0, zcl_1, zcl_0, zRt, zKn_s, zKn_0, zFind, zN10, zN01, not_true_eq_false, not_false_eq_true, false_implies, true_implies, implies_true, eq_self, nI_1, nI_40, nI_7, vz0, vz1, zb1_e0, zb1_n0]
            exact hG _ _ _ hg ((((zKpt_rfl.u (by unfold SFc; omega)).u (by unfold SFc; omega)).u (by unfold SFc; omega)).u (by unfold SFc; omega)) (zFc_push (k := 2) hs (by omega) hJ)
      · have h46' : (t.2.2.1 = 46) = False := eq_false h46
        have key := go124 (fun q => h46 q.1)
        refine zBlkR (M := mX5_readOperand) (nL := 2) (rt := (Option.some .boolean)) (blk := bX5_readOperand_63) (T := [(88, bX5_readOperand_88)]) 1 hX5_readOperand_63 (zChks_cons hX5_readOperand_88 zChks_nil) rfl rfl rfl (Nat.le_of_ble_eq_true rfl) (Nat.le_of_ble_eq_true rfl) ?_
        simp (implicitDefEqProofs := false) only [bX5_readOperand_63, bX5_readOperand_88, zRun_cons, zRun_nil, zLk, zSto, zIns, zFil, zf0, zf1, zf2, zf3, List.filter_cons, List.filter_nil, Nat.reduceAdd, Nat.reduceEqDiff, Nat.reduceLT, Nat.reduceLeDiff, Nat.reduceBEq, Nat.reduceBNe, reduceIte, if_true, if_false, Bool.false_and, Bool.true_and, Bool.and_true, Bool.and_false, Bool.not_false, Bool.not_true, Bool.false_eq_true, beq_self_eq_true, BEq.rfl, zCat1, zCat2, zCat3, zKdI, zKdL, zKdR, true_and, and_true, zSI, zSL, zSR, zu_at, and_self, and_false, false_and, lv_args, zKdZ, zKdO, zB01, zB11, Option.toList_none, Option.toList_some, List.nil_append, List.cons_append, true_or, or_true, zRow_rd, zu_rd, zo_if_eq, zo_aload_n, zo_iload_n, zo_bipush, zo_icmp_ne, zb_46, zcl_46, zKn_s, zKn_0, zFind, zb1_f, y46, h46', zN10, zN01, not_true_eq_false, not_false_eq_true, false_implies, true_implies, implies_true, eq_self, nI_1, nI_40, nI_7, vz0, vz1, zb1_e0, zb1_n0]
        exact key
end ZN98za
end

section
/-! ===== TEXT: joints, formulas, laws in the class ===== -/
def dLaw (D : oDf) (h : Nat) (S : oFm) : oDf := (S.2.2.1, fun i => if i = h then true else dTold D i, fun i => if i = h then dNk D else dF D i, fun i => if i = h then S.2.2.2.1 else dT D i, dSt D, dNp D, dNc D, dNs D, dNb D, dNg D, S.2.2.2.2)
def gLaw (E : oEn) (D : oDf) (t : oTk) : oF ⊕ (oTk × oDf) :=
  if 41 ≤ tKd (tNx E t) ∧ tKd (tNx E t) ≤ 43 then
    if dTold D (tKd (tNx E t) - 41) = true then .inl (3, tAt (tNx E t)) else
    match fSum E 700 (tNx E (tNx E t)) ([], [], dR D, dNk D, dNk D) true with
    | .inl f => .inl f
    | .inr (t', S) => .inr (t', dLaw D (tKd (tNx E t) - 41) S)
  else .inl (1, tAt (tNx E t))
section ZN98zb
variable {w : zP} {Q : Option Value → zMem → Prop} {μ : zMem} {I J J' : Nat → Nat → Int32} {L K : Nat → Nat → Int64} {p s : Nat} {r : Option Nat} {a b c i j k n e m lo hi l F : Nat} {x y v : Int32} {E : oEn} {t u : oTk} {D : oDf} {ws hd hd' : List Nat} {R R0 : Nat → Nat → Int32} {X : oFx} {S S' : oFm} {f g f' g' : Nat → Int32} {w' : Bool}
set_option maxRecDepth 20000 in
theorem cl_wrJ (hs : zPc s) (hl : 1 ≤ l) (hl7 : l ≤ 7) {wb : Bool} (hS : FOk F R0 (ws, X) wb) (hJ : zFc J s (ws, X)) (hQ : ∀ J', zKpt (SFc s) J J' → zFc J' s (fBind l ws X) → Q none (SH, zTs J' t, L, RF p s (some s))) : zXM w mX5_writeJoints rX5_writeJoints [.ref 4, .int (nI (l - 1))] (SH, zTs J t, L, RF p s (some s)) Q := by
  unfold zXM
  obtain ⟨l1, l2, l3⟩ := FOk_len hS
  refine zBlkR (M := mX5_writeJoints) (nL := 3) (rt := (Option.none : Option Jvm.ClassFile.FieldType)) (blk := bX5_writeJoints_0) (T := []) 0 hX5_writeJoints_0 zChks_nil rfl rfl rfl (Nat.le_of_ble_eq_true rfl) (Nat.le_of_ble_eq_true rfl) ?_
  simp (implicitDefEqProofs := false) only [bX5_writeJoints_0, zRun_cons, zRun_nil, zLk, zSto, zIns, zFil, zf0, zf1, zf2, zf3, List.filter_cons, List.filter_nil, Nat.reduceAdd, Nat.reduceEqDiff, Nat.reduceLT, Nat.reduceLeDiff, Nat.reduceBEq, Nat.reduceBNe, reduceIte, if_true, if_false, Bool.false_and, Bool.true_and, Bool.and_true, Bool.and_false, Bool.not_false, Bool.not_true, Bool.false_eq_true, beq_self_eq_true, BEq.rfl, zCat1, zCat2, zCat3, zKdI, zKdL, zKdR, true_and, and_true, zSI, zSL, zSR, zu_at, and_self, and_false, false_and, lv_args, zKdZ, zKdO, zB01, zB11, Option.toList_none, Option.toList_some, List.nil_append, List.cons_append, true_or, or_true, zRow_rd, zu_rd, zo_iconst, zo_istore_n, zi_0, zcl_0, zKn_0, zN10, zN01, not_true_eq_false, not_false_eq_true, false_implies, true_implies, implies_true, eq_self, nI_1, nI_40, nI_7, vz0, vz1, zb1_e0, zb1_n0]
  exact cl_writeJoints hs hl hl7 ws X J 0 (by simpa using l1) l3 hS.2.2.2.2.2.2.1 hJ hQ
theorem cJt_op (h : opN k ≠ 0) : cJt (opN k) = k := by
  unfold opN at h ⊢
  by_cases h1 : k = 45
  · subst h1; rfl
  · rw [if_neg h1] at h ⊢
    by_cases h2 : k = 44
    · subst h2; rfl
    · rw [if_neg h2] at h ⊢
      by_cases h3 : 7 ≤ k ∧ k ≤ 16
      · rw [if_pos h3]; unfold cJt; rw [if_neg (by omega), if_neg (by omega), if_neg (by omega), if_neg (by omega)]; omega
      · rw [if_neg h3] at h; exact absurd rfl h
theorem fLeaf_w (h : fLeaf t S = .inr (S', w')) : w' = decide (tKd t = 46 ∨ tKd t = 5) := by
  unfold fLeaf at h
  by_cases h5 : tKd t = 5
  · rw [if_pos h5] at h
    split at h
    · cases h
    · cases h; simp [h5]
  · rw [if_neg h5] at h
    split at h
    · rename_i hc
      split at h
      · cases h
      · cases h; simp [hc.1]
    · rename_i hc
      split at h
      · rename_i h2
        repeat' split at h
        all_goals first | cases h | skip
        simp [h2]
      · split at h
        · rename_i hn
          split at h
          · cases h
          · cases h
            symm
            rw [decide_eq_false_iff_not]
            omega
        · cases h
theorem fSign_w (h : fSign t S = .inr (S', w')) : w' = !decide (tKd t = 6) := by
  unfold fSign at h
  split at h
  · rename_i hc
    cases h; simp [hc.1]
  · split at h
    · cases h
    · rename_i ho
      repeat' split at h
      all_goals first | cases h | skip
      have : ¬ tKd t = 6 := fun e => by rw [e] at ho; exact ho rfl
      simp [this]
/-- a bracket gone from the class's stack -/
theorem zFc_tail (hs : zPc s) (h : zFc J s (0 :: ws, X)) : zFc (zu (zu J 4 5 (nI (brk ws))) 4 4 (nI ws.length)) s (ws, X) := by
  have s8 : 8 < s := by rcases hs with rfl | rfl <;> omega
  obtain ⟨h1, h2, h3, h4, h5, h6⟩ := h
  refine ⟨by simp [zu_at], by simp [zu_at], by simp [zu_at]; exact h3, ?_, ?_, fun i hi => ?_⟩
  · rw [zu_at, if_neg (by omega), zu_at, if_neg (by omega)]; exact h4
  · refine zWs_c h5.2.2 (fun i hi => ?_)
    simp [zu_at]
  · rw [zu_at, if_neg (by omega), zu_at, if_neg (by omega)]; exact h6 i hi
set_option maxRecDepth 20000 in
theorem cl_readJoint (hok : zOk w) (hs : zPc s) (ht : tOk E t) (hJ : zFc J s (ws, X)) (hS : FOk F R0 (ws, X) false)
    (hF : ∀ f J', fSign t (ws, X) = .inl f → zKpt (SPs s) J J' → J' 4 10 = nI f.1 → J' 4 11 = nI f.2 → Q (some (.int 0)) (SH, zTs J' t, L, RF p s (some s)))
    (hG : ∀ S' w' J', fSign t (ws, X) = .inr (S', w') → zKpt (SFc s) J J' → zFc J' s S' → Q (some (.int 1)) (SH, zTs J' t, L, RF p s (some s))) : zXM w mX5_readJoint rX5_readJoint [.ref 4] (SH, zTs J t, L, RF p s (some s)) Q := by
  unfold zXM
  have s8 : 8 < s := by rcases hs with rfl | rfl <;> omega
  obtain ⟨l1, l2, l3⟩ := FOk_len hS
  simp only at l1 l2 l3
  obtain ⟨o1, o2, o3, -⟩ := id hS
  simp only at o1 o2 o3
  have hln := len_bn ws
  have hkd := ht.2.2.1
  have y6 : (nI t.2.2.1 = 6) = (t.2.2.1 = 6) := tK_eq (k := 6) ht (by omega)
  obtain ⟨j1, j2, j3, j4, j5, j6⟩ := id hJ
  simp only at j1 j2 j3 j4 j5 j6
  have hg : fSign t (ws, X) = fSign t (ws, X) := rfl
  conv at hg => rhs; unfold fSign
  simp only at hg
  have z0 : (nI (brk ws) ≤ 0) = (brk ws ≤ 0) := zle_nat (b := 0) (by omega) (by omega)
  -- a joint, or nothing that fits
  have go50 : ¬ (tKd t = 6 ∧ 0 < brk ws) → zX w mX5_readJoint rX5_readJoint Q 0 0 50 [(0, Value.ref 4)] [] (SH, zTs J t, L, RF p s (some s)) := by
    intro hno
    rw [if_neg hno] at hg
    refine zBlkR (M := mX5_readJoint) (nL := 2) (rt := (Option.some .boolean)) (blk := bX5_readJoint_50) (T := []) 0 hX5_readJoint_50 zChks_nil rfl rfl rfl (Nat.le_of_ble_eq_true rfl) (Nat.le_of_ble_eq_true rfl) ?_
    simp (implicitDefEqProofs := false) only [bX5_readJoint_50, zRun_cons, zRun_nil, zLk, zSto, zIns, zFil, zf0, zf1, zf2, zf3, List.filter_cons, List.filter_nil, Nat.reduceAdd, Nat.reduceEqDiff, Nat.reduceLT, Nat.reduceLeDiff, Nat.reduceBEq, Nat.reduceBNe, reduceIte, if_true, if_false, Bool.false_and, Bool.true_and, Bool.and_true, Bool.and_false, Bool.not_false, Bool.not_true, Bool.false_eq_true, beq_self_eq_true, BEq.rfl, zCat1, zCat2, zCat3, zKdI, zKdL, zKdR, true_and, and_true, zSI, zSL, zSR, zu_at, and_self, and_false, false_and, lv_args, zKdZ, zKdO, zB01, zB11, Option.toList_none, Option.toList_some, List.nil_append, List.cons_append, true_or, or_true, zRow_rd, zu_rd, zo_aload_n, zo_getfield, zKd_5_0, zKd_7_6, sh_4, rf_4_0, sh_1, zKn_0, zTs_12, zTs_13, zTs_14, zTs_15, zTs_16, zTs_17, zTs_o, zTs_u, zN10, zN01, not_true_eq_false, not_false_eq_true, false_implies, true_implies, implies_true, eq_self, nI_1, nI_40, nI_7, vz0, vz1, zb1_e0, zb1_n0]
    refine z_cS0 (M' := mX5_rankOf) (R' := rX5_rankOf) [.int (nI t.2.2.1)] [] eX5_rankOf k5_225 (by decide +kernel : decode cX5_readJoint 57 = .ok (.invokestatic 225, 3)) (Nat.le_of_ble_eq_true rfl) ⟨Nat.le_of_ble_eq_true rfl, Nat.le_of_ble_eq_true rfl, Nat.le_of_ble_eq_true rfl, Nat.le_of_ble_eq_true rfl, Nat.le_of_ble_eq_true rfl⟩ rfl rfl rfl ?_
    refine cl_rankOf hkd ?_
    by_cases ho : opN t.2.2.1 = 0
    · rw [if_pos ho] at hg
      rw [if_pos ho]
      refine zBlkR (M := mX5_readJoint) (nL := 2) (rt := (Option.some .boolean)) (blk := bX5_readJoint_60) (T := [(72, bX5_readJoint_72), (82, bX5_readJoint_82)]) 2 hX5_readJoint_60 (zChks_cons hX5_readJoint_72 (zChks_cons hX5_readJoint_82 zChks_nil)) rfl rfl rfl (Nat.le_of_ble_eq_true rfl) (Nat.le_of_ble_eq_true rfl) ?_
      simp (implicitDefEqProofs := false) only [bX5_readJoint_60, bX5_readJoint_72, bX5_readJoint_82, zRun_cons, zRun_nil, zLk, zSto, zIns, zFil, zf0, zf1, zf2, zf3, List.filter_cons, List.filter_nil, Nat.reduceAdd, Nat.reduceEqDiff, Nat.reduceLT, Nat.reduceLeDiff, Nat.reduceBEq, Nat.reduceBNe, reduceIte, if_true, if_false, Bool.false_and, Bool.true_and, Bool.and_true, Bool.and_false, Bool.not_false, Bool.not_true, Bool.false_eq_true, beq_self_eq_true, BEq.rfl, zCat1, zCat2, zCat3, zKdI, zKdL, zKdR, true_and, and_true, zSI, zSL, zSR, zu_at, and_self, and_false, false_and, lv_args, zKdZ, zKdO, zB01, zB11, Option.toList_none, Option.toList_some, List.nil_append, List.cons_append, true_or, or_true, zRow_rd, zu_rd, zo_istore_n, zo_iload_n, zo_iconst, zo_icmp_ne, zo_aload_n, zo_goto, zo_isub, zi_m1, zi_1, zi_4, zcl_1, zcl_4, zKn_s, zKn_0, zFind, zN10, zN01, not_true_eq_false, not_false_eq_true, false_implies, true_implies, implies_true, eq_self, nI_1, nI_40, nI_7, vz0, vz1, zb1_e0, zb1_n0]
      refine z_cV0 (M' := mX5_fail) (R' := rX5_fail) (i := 4) [.int 1] [] eX5_fail k5_78 (by decide +kernel : decode cX5_readJoint 68 = .ok (.invokevirtual 78, 3)) (Nat.le_of_ble_eq_true rfl) ⟨Nat.le_of_ble_eq_true rfl, Nat.le_of_ble_eq_true rfl, Nat.le_of_ble_eq_true rfl, Nat.le_of_ble_eq_true rfl, Nat.le_of_ble_eq_true rfl⟩ rfl rfl rfl sh_4 ?_
      refine cl_fail ?_
      refine zBlkR (M := mX5_readJoint) (nL := 2) (rt := (Option.some .boolean)) (blk := bX5_readJoint_71) (T := []) 0 hX5_readJoint_71 zChks_nil rfl rfl rfl (Nat.le_of_ble_eq_true rfl) (Nat.le_of_ble_eq_true rfl) ?_
      simp (implicitDefEqProofs := false) only [bX5_readJoint_71, zRun_cons, zRun_nil, zLk, zSto, zIns, zFil, zf0, zf1, zf2, zf3, List.filter_cons, List.filter_nil, Nat.reduceAdd, Nat.reduceEqDiff, Nat.reduceLT, Nat.reduceLeDiff, Nat.reduceBEq, Nat.reduceBNe, reduceIte, if_true, if_false, Bool.false_and, Bool.true_and, Bool.and_true, Bool.and_false, Bool.not_false, Bool.not_true, Bool.false_eq_true, beq_self_eq_true, BEq.rfl, zCat1, zCat2, zCat3, zKdI, zKdL, zKdR, true_and, and_true, zSI, zSL, zSR, zu_at, and_self, and_false, false_and, lv_args, zKdZ, zKdO, zB01, zB11, Option.toList_none, Option.toList_some, List.nil_append, List.cons_append, true_or, or_true, zRow_rd, zu_rd, zo_ireturn, zRt, zKn_0, zN10, zN01, not_true_eq_false, not_false_eq_true, false_implies, true_implies, implies_true, eq_self, nI_1, nI_40, nI_7, vz0, vz1, zb1_e0, zb1_n0]
      exact hF _ _ hg ((zKpt_rfl.u (by unfold SPs; omega)).u (by unfold SPs; omega)) (by simp [zu_at]; rfl) (by simp [zu_at])
    · rw [if_neg ho] at hg
      rw [if_neg ho]
      have ob := opN_b ho
      have hr6 := rkN_lt ob.2
      have hr0 : rkN (opN t.2.2.1) ≠ 0 := fun q => by have := rkN_0.mp q; omega
      have m1 : (nI (rkN (opN t.2.2.1)) = -1) = False := nI_neg1 (by omega)
      have z4 : (nI (rkN (opN t.2.2.1)) = 4) = (rkN (opN t.2.2.1) = 4) := zeq_nat (b := 4) (by omega) (by omega)
      have hf1 : 1 ≤ fLv (opN t.2.2.1) := fLv_1 ho
      have hf7 : fLv (opN t.2.2.1) ≤ 7 := by unfold fLv; split <;> omega
      have fin : zX w mX5_readJoint rX5_readJoint Q 0 0 85 [(0, Value.ref 4), (1, Value.int (nI (rkN (opN t.2.2.1))))] [Value.int (nI (fLv (opN t.2.2.1) - 1)), Value.ref 4] (SH, zTs J t, L, RF p s (some s)) := by
        refine z_cV0 (M' := mX5_writeJoints) (R' := rX5_writeJoints) (i := 4) [.int (nI (fLv (opN t.2.2.1) - 1))] [] eX5_writeJoints k5_198 (by decide +kernel : decode cX5_readJoint 85 = .ok (.invokevirtual 198, 3)) (Nat.le_of_ble_eq_true rfl) ⟨Nat.le_of_ble_eq_true rfl, Nat.le_of_ble_eq_true rfl, Nat.le_of_ble_eq_true rfl, Nat.le_of_ble_eq_true rfl, Nat.le_of_ble_eq_true rfl⟩ rfl rfl rfl sh_4 ?_
        refine cl_wrJ hs hf1 hf7 hS hJ (fun J1 k1 hJ1 => ?_)
        have hB := fBind_ok hf1 ws X hS
        have hcc := fBind_c (l := fLv (opN t.2.2.1)) ws X
        have htop := fBind_top hf1 ws X
        have hg' : fSign t (ws, X) = (if rkN (opN t.2.2.1) = 4 ∧ rkN ((fBind (fLv (opN t.2.2.1)) ws X).1.headD 0) = 4 then .inl (1, tAt t) else if X.2.2.2 = 64 then .inl (2, tAt t) else .inr ((opN t.2.2.1 :: (fBind (fLv (opN t.2.2.1)) ws X).1, (fBind (fLv (opN t.2.2.1)) ws X).2.1, (fBind (fLv (opN t.2.2.1)) ws X).2.2.1, (fBind (fLv (opN t.2.2.1)) ws X).2.2.2.1, X.2.2.2 + 1), true)) := hg
        clear hg
        generalize fBind (fLv (opN t.2.2.1)) ws X = B at hJ1 hB hcc htop hg'
        obtain ⟨v, hd, R, n, c⟩ := B
        obtain ⟨b1, b2, b3⟩ := FOk_len hB
        obtain ⟨q1, q2, q3, q4, q5, q6⟩ := id hJ1
        simp only at hcc htop b1 b2 b3 q1 q2 q3 q4 q5 q6 hg'
        refine zBlkR (M := mX5_readJoint) (nL := 2) (rt := (Option.some .boolean)) (blk := bX5_readJoint_88) (T := []) 0 hX5_readJoint_88 zChks_nil rfl rfl rfl (Nat.le_of_ble_eq_true rfl) (Nat.le_of_ble_eq_true rfl) ?_
        simp (implicitDefEqProofs := false) only [bX5_readJoint_88, zRun_cons, zRun_nil, zLk, zSto, zIns, zFil, zf0, zf1, zf2, zf3, List.filter_cons, List.filter_nil, Nat.reduceAdd, Nat.reduceEqDiff, Nat.reduceLT, Nat.reduceLeDiff, Nat.reduceBEq, Nat.reduceBNe, reduceIte, if_true, if_false, Bool.false_and, Bool.true_and, Bool.and_true, Bool.and_false, Bool.not_false, Bool.not_true, Bool.false_eq_true, beq_self_eq_true, BEq.rfl, zCat1, zCat2, zCat3, zKdI, zKdL, zKdR, true_and, and_true, zSI, zSL, zSR, zu_at, and_self, and_false, false_and, lv_args, zKdZ, zKdO, zB01, zB11, Option.toList_none, Option.toList_some, List.nil_append, List.cons_append, true_or, or_true, zRow_rd, zu_rd, zo_aload_n, zKn_0, zN10, zN01, not_true_eq_false, not_false_eq_true, false_implies, true_implies, implies_true, eq_self, nI_1, nI_40, nI_7, vz0, vz1, zb1_e0, zb1_n0]
        refine z_cV0 (M' := mX5_topRank) (R' := rX5_topRank) (i := 4) [] [] eX5_topRank k5_213 (by decide +kernel : decode cX5_readJoint 89 = .ok (.invokevirtual 213, 3)) (Nat.le_of_ble_eq_true rfl) ⟨Nat.le_of_ble_eq_true rfl, Nat.le_of_ble_eq_true rfl, Nat.le_of_ble_eq_true rfl, Nat.le_of_ble_eq_true rfl, Nat.le_of_ble_eq_true rfl⟩ rfl rfl rfl sh_4 ?_
        refine cl_topRank q1 q5 b1 ?_
        have zr : (nI (rkN (v.headD 0)) = nI (rkN (opN t.2.2.1))) = (rkN (v.headD 0) = rkN (opN t.2.2.1)) := zeq_nat (by omega) (by omega)
        by_cases he : rkN (v.headD 0) = rkN (opN t.2.2.1)
        · have he' : (rkN (v.headD 0) = rkN (opN t.2.2.1)) = True := eq_true he
          have r4 : rkN (opN t.2.2.1) = 4 := by
            by_cases q : rkN (opN t.2.2.1) = 4
            · exact q
            · exfalso; unfold fLv at htop; rw [if_neg q] at htop; omega
          rw [if_pos ⟨r4, by omega⟩] at hg'
          refine zBlkR (M := mX5_readJoint) (nL := 2) (rt := (Option.some .boolean)) (blk := bX5_readJoint_92) (T := [(102, bX5_readJoint_102)]) 1 hX5_readJoint_92 (zChks_cons hX5_readJoint_102 zChks_nil) rfl rfl rfl (Nat.le_of_ble_eq_true rfl) (Nat.le_of_ble_eq_true rfl) ?_
          simp (implicitDefEqProofs := false) only [bX5_readJoint_92, bX5_readJoint_102, zRun_cons, zRun_nil, zLk, zSto, zIns, zFil, zf0, zf1, zf2, zf3, List.filter_cons, List.filter_nil, Nat.reduceAdd, Nat.reduceEqDiff, Nat.reduceLT, Nat.reduceLeDiff, Nat.reduceBEq, Nat.reduceBNe, reduceIte, if_true, if_false, Bool.false_and, Bool.true_and, Bool.and_true, Bool.and_false, Bool.not_false, Bool.not_true, Bool.false_eq_true, beq_self_eq_true, BEq.rfl, zCat1, zCat2, zCat3, zKdI, zKdL, zKdR, true_and, and_true, zSI, zSL, zSR, zu_at, and_self, and_false, false_and, lv_args, zKdZ, zKdO, zB01, zB11, Option.toList_none, Option.toList_some, List.nil_append, List.cons_append, true_or, or_true, zRow_rd, zu_rd, zo_iload_n, zo_icmp_ne, zo_aload_n, zo_iconst, zi_1, zcl_1, zKn_s, zKn_0, zFind, zr, he', zN10, zN01, not_true_eq_false, not_false_eq_true, false_implies, true_implies, implies_true, eq_self, nI_1, nI_40, nI_7, vz0, vz1, zb1_e0, zb1_n0]
          refine z_cV0 (M' := mX5_fail) (R' := rX5_fail) (i := 4) [.int 1] [] eX5_fail k5_78 (by decide +kernel : decode cX5_readJoint 98 = .ok (.invokevirtual 78, 3)) (Nat.le_of_ble_eq_true rfl) ⟨Nat.le_of_ble_eq_true rfl, Nat.le_of_ble_eq_true rfl, Nat.le_of_ble_eq_true rfl, Nat.le_of_ble_eq_true rfl, Nat.le_of_ble_eq_true rfl⟩ rfl rfl rfl sh_4 ?_
          refine cl_fail ?_
          refine zBlkR (M := mX5_readJoint) (nL := 2) (rt := (Option.some .boolean)) (blk := bX5_readJoint_101) (T := []) 0 hX5_readJoint_101 zChks_nil rfl rfl rfl (Nat.le_of_ble_eq_true rfl) (Nat.le_of_ble_eq_true rfl) ?_
          simp (implicitDefEqProofs := false) only [bX5_readJoint_101, zRun_cons, zRun_nil, zLk, zSto, zIns, zFil, zf0, zf1, zf2, zf3, List.filter_cons, List.filter_nil, Nat.reduceAdd, Nat.reduceEqDiff, Nat.reduceLT, Nat.reduceLeDiff, Nat.reduceBEq, Nat.reduceBNe, reduceIte, if_true, if_false, Bool.false_and, Bool.true_and, Bool.and_true, Bool.and_false, Bool.not_false, Bool.not_true, Bool.false_eq_true, beq_self_eq_true, BEq.rfl, zCat1, zCat2, zCat3, zKdI, zKdL, zKdR, true_and, and_true, zSI, zSL, zSR, zu_at, and_self, and_false, false_and, lv_args, zKdZ, zKdO, zB01, zB11, Option.toList_none, Option.toList_some, List.nil_append, List.cons_append, true_or, or_true, zRow_rd, zu_rd, zo_ireturn, zRt, zKn_0, zN10, zN01, not_true_eq_false, not_false_eq_true, false_implies, true_implies, implies_true, eq_self, nI_1, nI_40, nI_7, vz0, vz1, zb1_e0, zb1_n0]
          exact hF _ _ hg' (((k1.mono (fun i k h => SFc_s h)).u (by unfold SPs; omega)).u (by unfold SPs; omega)) (by simp [zu_at]; rfl) (by simp [zu_at])
        · have he' : (rkN (v.headD 0) = rkN (opN t.2.2.1)) = False := eq_false he
          rw [if_neg (by omega)] at hg'
          refine zBlkR (M := mX5_readJoint) (nL := 2) (rt := (Option.some .boolean)) (blk := bX5_readJoint_92) (T := [(102, bX5_readJoint_102)]) 1 hX5_readJoint_92 (zChks_cons hX5_readJoint_102 zChks_nil) rfl rfl rfl (Nat.le_of_ble_eq_true rfl) (Nat.le_of_ble_eq_true rfl) ?_
          simp (implicitDefEqProofs := false) only [bX5_readJoint_92, bX5_readJoint_102, zRun_cons, zRun_nil, zLk, zSto, zIns, zFil, zf0, zf1, zf2, zf3, List.filter_cons, List.filter_nil, Nat.reduceAdd, Nat.reduceEqDiff, Nat.reduceLT, Nat.reduceLeDiff, Nat.reduceBEq, Nat.reduceBNe, reduceIte, if_true, if_false, Bool.false_and, Bool.true_and, Bool.and_true, Bool.and_false, Bool.not_false, Bool.not_true, Bool.false_eq_true, beq_self_eq_true, BEq.rfl, zCat1, zCat2, zCat3, zKdI, zKdL, zKdR, true_and, and_true, zSI, zSL, zSR, zu_at, and_self, and_false, false_and, lv_args, zKdZ, zKdO, zB01, zB11, Option.toList_none, Option.toList_some, List.nil_append, List.cons_append, true_or, or_true, zRow_rd, zu_rd, zo_iload_n, zo_icmp_ne, zo_aload_n, zo_iconst, zi_1, zcl_1, zKn_s, zKn_0, zFind, zr, he', zN10, zN01, not_true_eq_false, not_false_eq_true, false_implies, true_implies, implies_true, eq_self, nI_1, nI_40, nI_7, vz0, vz1, zb1_e0, zb1_n0]
          refine z_cV0 (M' := mX5_countKnot) (R' := rX5_countKnot) (i := 4) [] [] eX5_countKnot k5_204 (by decide +kernel : decode cX5_readJoint 103 = .ok (.invokevirtual 204, 3)) (Nat.le_of_ble_eq_true rfl) ⟨Nat.le_of_ble_eq_true rfl, Nat.le_of_ble_eq_true rfl, Nat.le_of_ble_eq_true rfl, Nat.le_of_ble_eq_true rfl, Nat.le_of_ble_eq_true rfl⟩ rfl rfl rfl sh_4 ?_
          refine cl_countKnot hs (n := c) (by omega) q4 (fun h => ?_) (fun h => ?_)
          · rw [if_pos (by omega)] at hg'
            refine zBlkR (M := mX5_readJoint) (nL := 2) (rt := (Option.some .boolean)) (blk := bX5_readJoint_106) (T := [(128, bX5_readJoint_128)]) 1 hX5_readJoint_106 (zChks_cons hX5_readJoint_128 zChks_nil) rfl rfl rfl (Nat.le_of_ble_eq_true rfl) (Nat.le_of_ble_eq_true rfl) ?_
            simp (implicitDefEqProofs := false) only [bX5_readJoint_106, bX5_readJoint_128, zRun_cons, zRun_nil, zLk, zSto, zIns, zFil, zf0, zf1, zf2, zf3, List.filter_cons, List.filter_nil, Nat.reduceAdd, Nat.reduceEqDiff, Nat.reduceLT, Nat.reduceLeDiff, Nat.reduceBEq, Nat.reduceBNe, reduceIte, if_true, if_false, Bool.false_and, Bool.true_and, Bool.and_true, Bool.and_false, Bool.not_false, Bool.not_true, Bool.false_eq_true, beq_self_eq_true, BEq.rfl, zCat1, zCat2, zCat3, zKdI, zKdL, zKdR, true_and, and_true, zSI, zSL, zSR, zu_at, and_self, and_false, false_and, lv_args, zKdZ, zKdO, zB01, zB11, Option.toList_none, Option.toList_some, List.nil_append, List.cons_append, true_or, or_true, zRow_rd, zu_rd, zo_if_eq, zo_aload_n, zo_getfield, zo_iload_n, zo_iconst, zo_ireturn, zi_0, zKd_5_0, zKd_7_6, sh_4, rf_4_0, sh_1, zcl_0, zRt, zKn_s, zKn_0, zFind, zN10, zN01, not_true_eq_false, not_false_eq_true, false_implies, true_implies, implies_true, eq_self, nI_1, nI_40, nI_7, vz0, vz1, zb1_e0, zb1_n0]
            exact hF _ _ hg' (((k1.mono (fun i k h => SFc_s h)).u (by unfold SPs; omega)).u (by unfold SPs; omega)) (by simp [zu_at]; rfl) (by simp [zu_at])
          · rw [if_neg (by omega)] at hg'
            refine zBlkR (M := mX5_readJoint) (nL := 2) (rt := (Option.some .boolean)) (blk := bX5_readJoint_106) (T := [(128, bX5_readJoint_128)]) 1 hX5_readJoint_106 (zChks_cons hX5_readJoint_128 zChks_nil) rfl rfl rfl (Nat.le_of_ble_eq_true rfl) (Nat.le_of_ble_eq_true rfl) ?_
            simp (implicitDefEqProofs := false) only [bX5_readJoint_106, bX5_readJoint_128, zRun_cons, zRun_nil, zLk, zSto, zIns, zFil, zf0, zf1, zf2, zf3, List.filter_cons, List.filter_nil, Nat.reduceAdd, Nat.reduceEqDiff, Nat.reduceLT, Nat.reduceLeDiff, Nat.reduceBEq, Nat.reduceBNe, reduceIte, if_true, if_false, Bool.false_and, Bool.true_and, Bool.and_true, Bool.and_false, Bool.not_false, Bool.not_true, Bool.false_eq_true, beq_self_eq_true, BEq.rfl, zCat1, zCat2, zCat3, zKdI, zKdL, zKdR, true_and, and_true, zSI, zSL, zSR, zu_at, and_self, and_false, false_and, lv_args, zKdZ, zKdO, zB01, zB11, Option.toList_none, Option.toList_some, List.nil_append, List.cons_append, true_or, or_true, zRow_rd, zu_rd, zo_if_eq, zo_aload_n, zo_getfield, zo_iload_n, zo_iconst, zo_ireturn, zi_0, zKd_5_0, zKd_7_6, sh_4, rf_4_0, sh_1, zcl_0, zRt, zKn_s, zKn_0, zFind, zTs_12, zTs_13, zTs_14, zTs_15, zTs_16, zTs_17, zTs_o, zTs_u, zN10, zN01, not_true_eq_false, not_false_eq_true, false_implies, true_implies, implies_true, eq_self, nI_1, nI_40, nI_7, vz0, vz1, zb1_e0, zb1_n0]
            refine z_cV0 (M' := mX5_push) (R' := rX5_push) (i := 4) [.int (nI t.2.2.1), .int (nI (rkN (opN t.2.2.1)))] [] eX5_push k5_217 (by decide +kernel : decode cX5_readJoint 118 = .ok (.invokevirtual 217, 3)) (Nat.le_of_ble_eq_true rfl) ⟨Nat.le_of_ble_eq_true rfl, Nat.le_of_ble_eq_true rfl, Nat.le_of_ble_eq_true rfl, Nat.le_of_ble_eq_true rfl, Nat.le_of_ble_eq_true rfl⟩ rfl rfl rfl sh_4 ?_
            have hlv := len_bn v
            have h3v := hB.2.2.1
            have h1v := hB.1
            simp only at h3v h1v
            refine cl_push (n := v.length) (by omega) (by rw [zu_at, if_neg (by omega)]; exact q1) ?_
            refine zBlkR (M := mX5_readJoint) (nL := 2) (rt := (Option.some .boolean)) (blk := bX5_readJoint_121) (T := [(128, bX5_readJoint_128), (129, bX5_readJoint_129)]) 1 hX5_readJoint_121 (zChks_cons hX5_readJoint_128 (zChks_cons hX5_readJoint_129 zChks_nil)) rfl rfl rfl (Nat.le_of_ble_eq_true rfl) (Nat.le_of_ble_eq_true rfl) ?_
            simp (implicitDefEqProofs := false) only [bX5_readJoint_121, bX5_readJoint_128, bX5_readJoint_129, zRun_cons, zRun_nil, zLk, zSto, zIns, zFil, zf0, zf1, zf2, zf3, List.filter_cons, List.filter_nil, Nat.reduceAdd, Nat.reduceEqDiff, Nat.reduceLT, Nat.reduceLeDiff, Nat.reduceBEq, Nat.reduceBNe, reduceIte, if_true, if_false, Bool.false_and, Bool.true_and, Bool.and_true, Bool.and_false, Bool.not_false, Bool.not_true, Bool.false_eq_true, beq_self_eq_true, BEq.rfl, zCat1, zCat2, zCat3, zKdI, zKdL, zKdR, true_and, and_true, zSI, zSL, zSR, zu_at, and_self, and_false, false_and, lv_args, zKdZ, zKdO, zB01, zB11, Option.toList_none, Option.toList_some, List.nil_append, List.cons_append, true_or, or_true, zRow_rd, zu_rd, zo_if_eq, zo_iconst, zo_goto, zo_ireturn, zi_1, zi_0, zcl_1, zcl_0, zRt, zKn_s, zKn_0, zFind, zN10, zN01, not_true_eq_false, not_false_eq_true, false_implies, true_implies, implies_true, eq_self, nI_1, nI_40, nI_7, vz0, vz1, zb1_e0, zb1_n0]
            have hp := zFc_push (k := opN t.2.2.1) (m := c + 1) hs (by omega) hJ1
            rw [cJt_op ho] at hp
            rw [← hcc] at hg'
            exact hG _ _ _ hg' ((((k1.u (by unfold SFc; omega)).u (by unfold SFc; omega)).u (by unfold SFc; omega)).u (by unfold SFc; omega)) hp
      by_cases r4 : rkN (opN t.2.2.1) = 4
      · have r4' : (rkN (opN t.2.2.1) = 4) = True := eq_true r4
        have ef : fLv (opN t.2.2.1) - 1 = rkN (opN t.2.2.1) := by unfold fLv; rw [if_pos r4]; omega
        rw [ef] at fin
        refine zBlkR (M := mX5_readJoint) (nL := 2) (rt := (Option.some .boolean)) (blk := bX5_readJoint_60) (T := [(72, bX5_readJoint_72), (82, bX5_readJoint_82)]) 2 hX5_readJoint_60 (zChks_cons hX5_readJoint_72 (zChks_cons hX5_readJoint_82 zChks_nil)) rfl rfl rfl (Nat.le_of_ble_eq_true rfl) (Nat.le_of_ble_eq_true rfl) ?_
        simp (implicitDefEqProofs := false) only [bX5_readJoint_60, bX5_readJoint_72, bX5_readJoint_82, zRun_cons, zRun_nil, zLk, zSto, zIns, zFil, zf0, zf1, zf2, zf3, List.filter_cons, List.filter_nil, Nat.reduceAdd, Nat.reduceEqDiff, Nat.reduceLT, Nat.reduceLeDiff, Nat.reduceBEq, Nat.reduceBNe, reduceIte, if_true, if_false, Bool.false_and, Bool.true_and, Bool.and_true, Bool.and_false, Bool.not_false, Bool.not_true, Bool.false_eq_true, beq_self_eq_true, BEq.rfl, zCat1, zCat2, zCat3, zKdI, zKdL, zKdR, true_and, and_true, zSI, zSL, zSR, zu_at, and_self, and_false, false_and, lv_args, zKdZ, zKdO, zB01, zB11, Option.toList_none, Option.toList_some, List.nil_append, List.cons_append, true_or, or_true, zRow_rd, zu_rd, zo_istore_n, zo_iload_n, zo_iconst, zo_icmp_ne, zo_aload_n, zo_goto, zo_isub, zi_m1, zi_1, zi_4, zcl_1, zcl_4, zKn_s, zKn_0, zFind, m1, z4, r4', zN10, zN01, not_true_eq_false, not_false_eq_true, false_implies, true_implies, implies_true, eq_self, nI_1, nI_40, nI_7, vz0, vz1, zb1_e0, zb1_n0]
        exact fin
      · have r4' : (rkN (opN t.2.2.1) = 4) = False := eq_false r4
        have ef : nI (rkN (opN t.2.2.1)) - 1 = nI (fLv (opN t.2.2.1) - 1) := by
          unfold fLv; rw [if_neg r4]
          obtain ⟨q, hq⟩ : ∃ q, rkN (opN t.2.2.1) = q + 1 := ⟨rkN (opN t.2.2.1) - 1, by omega⟩
          rw [hq, ← nI_1, Int32.add_sub_cancel]; congr 1
        refine zBlkR (M := mX5_readJoint) (nL := 2) (rt := (Option.some .boolean)) (blk := bX5_readJoint_60) (T := [(72, bX5_readJoint_72), (82, bX5_readJoint_82)]) 2 hX5_readJoint_60 (zChks_cons hX5_readJoint_72 (zChks_cons hX5_readJoint_82 zChks_nil)) rfl rfl rfl (Nat.le_of_ble_eq_true rfl) (Nat.le_of_ble_eq_true rfl) ?_
        simp (implicitDefEqProofs := false) only [bX5_readJoint_60, bX5_readJoint_72, bX5_readJoint_82, zRun_cons, zRun_nil, zLk, zSto, zIns, zFil, zf0, zf1, zf2, zf3, List.filter_cons, List.filter_nil, Nat.reduceAdd, Nat.reduceEqDiff, Nat.reduceLT, Nat.reduceLeDiff, Nat.reduceBEq, Nat.reduceBNe, reduceIte, if_true, if_false, Bool.false_and, Bool.true_and, Bool.and_true, Bool.and_false, Bool.not_false, Bool.not_true, Bool.false_eq_true, beq_self_eq_true, BEq.rfl, zCat1, zCat2, zCat3, zKdI, zKdL, zKdR, true_and, and_true, zSI, zSL, zSR, zu_at, and_self, and_false, false_and, lv_args, zKdZ, zKdO, zB01, zB11, Option.toList_none, Option.toList_some, List.nil_append, List.cons_append, true_or, or_true, zRow_rd, zu_rd, zo_istore_n, zo_iload_n, zo_iconst, zo_icmp_ne, zo_aload_n, zo_goto, zo_isub, zi_m1, zi_1, zi_4, zcl_1, zcl_4, zKn_s, zKn_0, zFind, m1, z4, r4', ef, zN10, zN01, not_true_eq_false, not_false_eq_true, false_implies, true_implies, implies_true, eq_self, nI_1, nI_40, nI_7, vz0, vz1, zb1_e0, zb1_n0]
        exact fin
  by_cases h6 : t.2.2.1 = 6
  · have h6' : (t.2.2.1 = 6) = True := eq_true h6
    by_cases hb : brk ws ≤ 0
    · have hb' : (brk ws ≤ 0) = True := eq_true hb
      have key := go50 (fun q => by omega)
      refine zBlkR (M := mX5_readJoint) (nL := 2) (rt := (Option.some .boolean)) (blk := bX5_readJoint_0) (T := []) 0 hX5_readJoint_0 zChks_nil rfl rfl rfl (Nat.le_of_ble_eq_true rfl) (Nat.le_of_ble_eq_true rfl) ?_
      simp (implicitDefEqProofs := false) only [bX5_readJoint_0, zRun_cons, zRun_nil, zLk, zSto, zIns, zFil, zf0, zf1, zf2, zf3, List.filter_cons, List.filter_nil, Nat.reduceAdd, Nat.reduceEqDiff, Nat.reduceLT, Nat.reduceLeDiff, Nat.reduceBEq, Nat.reduceBNe, reduceIte, if_true, if_false, Bool.false_and, Bool.true_and, Bool.and_true, Bool.and_false, Bool.not_false, Bool.not_true, Bool.false_eq_true, beq_self_eq_true, BEq.rfl, zCat1, zCat2, zCat3, zKdI, zKdL, zKdR, true_and, and_true, zSI, zSL, zSR, zu_at, and_self, and_false, false_and, lv_args, zKdZ, zKdO, zB01, zB11, Option.toList_none, Option.toList_some, List.nil_append, List.cons_append, true_or, or_true, zRow_rd, zu_rd, zo_aload_n, zo_getfield, zo_bipush, zo_icmp_ne, zo_if_le, zo_iconst, zb_6, zi_0, zKd_5_0, zKd_7_6, zKd_5_5, sh_4, rf_4_0, sh_1, zcl_6, zcl_0, zKn_0, zTs_12, zTs_13, zTs_14, zTs_15, zTs_16, zTs_17, zTs_o, zTs_u, y6, h6', j2, z0, hb', zN10, zN01, not_true_eq_false, not_false_eq_true, false_implies, true_implies, implies_true, eq_self, nI_1, nI_40, nI_7, vz0, vz1, zb1_e0, zb1_n0]
      exact key
    · have hb' : (brk ws ≤ 0) = False := eq_false hb
      clear go50
      rw [if_pos ⟨h6, by omega⟩] at hg
      refine zBlkR (M := mX5_readJoint) (nL := 2) (rt := (Option.some .boolean)) (blk := bX5_readJoint_0) (T := []) 0 hX5_readJoint_0 zChks_nil rfl rfl rfl (Nat.le_of_ble_eq_true rfl) (Nat.le_of_ble_eq_true rfl) ?_
      simp (implicitDefEqProofs := false) only [bX5_readJoint_0, zRun_cons, zRun_nil, zLk, zSto, zIns, zFil, zf0, zf1, zf2, zf3, List.filter_cons, List.filter_nil, Nat.reduceAdd, Nat.reduceEqDiff, Nat.reduceLT, Nat.reduceLeDiff, Nat.reduceBEq, Nat.reduceBNe, reduceIte, if_true, if_false, Bool.false_and, Bool.true_and, Bool.and_true, Bool.and_false, Bool.not_false, Bool.not_true, Bool.false_eq_true, beq_self_eq_true, BEq.rfl, zCat1, zCat2, zCat3, zKdI, zKdL, zKdR, true_and, and_true, zSI, zSL, zSR, zu_at, and_self, and_false, false_and, lv_args, zKdZ, zKdO, zB01, zB11, Option.toList_none, Option.toList_some, List.nil_append, List.cons_append, true_or, or_true, zRow_rd, zu_rd, zo_aload_n, zo_getfield, zo_bipush, zo_icmp_ne, zo_if_le, zo_iconst, zb_6, zi_0, zKd_5_0, zKd_7_6, zKd_5_5, sh_4, rf_4_0, sh_1, zcl_6, zcl_0, zKn_0, zTs_12, zTs_13, zTs_14, zTs_15, zTs_16, zTs_17, zTs_o, zTs_u, y6, h6', j2, z0, hb', zN10, zN01, not_true_eq_false, not_false_eq_true, false_implies, true_implies, implies_true, eq_self, nI_1, nI_40, nI_7, vz0, vz1, zb1_e0, zb1_n0]
      refine z_cV0 (M' := mX5_writeJoints) (R' := rX5_writeJoints) (i := 4) [.int (nI (1 - 1))] [] eX5_writeJoints k5_198 (by decide +kernel : decode cX5_readJoint 21 = .ok (.invokevirtual 198, 3)) (Nat.le_of_ble_eq_true rfl) ⟨Nat.le_of_ble_eq_true rfl, Nat.le_of_ble_eq_true rfl, Nat.le_of_ble_eq_true rfl, Nat.le_of_ble_eq_true rfl, Nat.le_of_ble_eq_true rfl⟩ rfl rfl rfl sh_4 ?_
      refine cl_wrJ (l := 1) hs (by omega) (by omega) hS hJ (fun J1 k1 hJ1 => ?_)
      obtain ⟨v, ev⟩ := fBind_br (X := X) (ws := ws) (by omega) hS.2.2.2.2.2.2.1
      have ebr := fBind_brk (l := 1) (by omega) ws X
      have hB := fBind_ok (l := 1) (by omega) ws X hS
      generalize fBind 1 ws X = B at hJ1 ev ebr hB hg
      obtain ⟨v0, Y⟩ := B
      simp only at ev
      subst ev
      simp only [brk, if_true] at ebr
      have q1 : J1 4 4 = nI (v.length + 1) := hJ1.1
      have q2 : J1 4 5 = nI (brk v + 1) := hJ1.2.1
      have e1 : nI (brk v + 1) - 1 = nI (brk v) := by rw [← nI_1, Int32.add_sub_cancel]
      have e2 : nI (v.length + 1) - 1 = nI v.length := by rw [← nI_1, Int32.add_sub_cancel]
      have lv := (FOk_len hB).1
      simp only [List.length_cons] at lv
      refine zBlkR (M := mX5_readJoint) (nL := 2) (rt := (Option.some .boolean)) (blk := bX5_readJoint_24) (T := []) 0 hX5_readJoint_24 zChks_nil rfl rfl rfl (Nat.le_of_ble_eq_true rfl) (Nat.le_of_ble_eq_true rfl) ?_
      simp (implicitDefEqProofs := false) only [bX5_readJoint_24, zRun_cons, zRun_nil, zLk, zSto, zIns, zFil, zf0, zf1, zf2, zf3, List.filter_cons, List.filter_nil, Nat.reduceAdd, Nat.reduceEqDiff, Nat.reduceLT, Nat.reduceLeDiff, Nat.reduceBEq, Nat.reduceBNe, reduceIte, if_true, if_false, Bool.false_and, Bool.true_and, Bool.and_true, Bool.and_false, Bool.not_false, Bool.not_true, Bool.false_eq_true, beq_self_eq_true, BEq.rfl, zCat1, zCat2, zCat3, zKdI, zKdL, zKdR, true_and, and_true, zSI, zSL, zSR, zu_at, and_self, and_false, false_and, lv_args, zKdZ, zKdO, zB01, zB11, Option.toList_none, Option.toList_some, List.nil_append, List.cons_append, true_or, or_true, zRow_rd, zu_rd, zo_aload_n, zo_dup, zo_getfield, zo_iconst, zo_isub, zo_putfield, zo_putfield_2, zo_putfield_3, zi_1, zi_0, zKd_5_5, zTy_5_5, zKd_5_4, sh_4, zcl_1, zcl_0, zPutC, zKn_0, zTs_12, zTs_13, zTs_14, zTs_15, zTs_16, zTs_17, zTs_o, zTs_u, q1, q2, e1, e2, zN10, zN01, not_true_eq_false, not_false_eq_true, false_implies, true_implies, implies_true, eq_self, nI_1, nI_40, nI_7, vz0, vz1, zb1_e0, zb1_n0]
      refine z_cS0 (M' := mJ9_max_7cf53) (R' := rJ9_max_7cf53) [.int 0, .int (nI v.length)] [.ref 4] eJ9_max_7cf53 k5_220 (by decide +kernel : decode cX5_readJoint 42 = .ok (.invokestatic 220, 3)) (Nat.le_of_ble_eq_true rfl) ⟨Nat.le_of_ble_eq_true rfl, Nat.le_of_ble_eq_true rfl, Nat.le_of_ble_eq_true rfl, Nat.le_of_ble_eq_true rfl, Nat.le_of_ble_eq_true rfl⟩ rfl rfl rfl ?_
      refine sp_max ?_
      have em : (if (0 : Int32) < nI v.length then nI v.length else 0) = nI v.length := by
        by_cases g : 0 < v.length
        · rw [if_pos (by rw [show (0 : Int32) = nI 0 from rfl, zlt_nat (by omega) (by omega)]; exact g)]
        · have g0 : v.length = 0 := by omega
          rw [g0]; rfl
      rw [em]
      refine zBlkR (M := mX5_readJoint) (nL := 2) (rt := (Option.some .boolean)) (blk := bX5_readJoint_45) (T := []) 0 hX5_readJoint_45 zChks_nil rfl rfl rfl (Nat.le_of_ble_eq_true rfl) (Nat.le_of_ble_eq_true rfl) ?_
      simp (implicitDefEqProofs := false) only [bX5_readJoint_45, zRun_cons, zRun_nil, zLk, zSto, zIns, zFil, zf0, zf1, zf2, zf3, List.filter_cons, List.filter_nil, Nat.reduceAdd, Nat.reduceEqDiff, Nat.reduceLT, Nat.reduceLeDiff, Nat.reduceBEq, Nat.reduceBNe, reduceIte, if_true, if_false, Bool.false_and, Bool.true_and, Bool.and_true, Bool.and_false, Bool.not_false, Bool.not_true, Bool.false_eq_true, beq_self_eq_true, BEq.rfl, zCat1, zCat2, zCat3, zKdI, zKdL, zKdR, true_and, and_true, zSI, zSL, zSR, zu_at, and_self, and_false, false_and, lv_args, zKdZ, zKdO, zB01, zB11, Option.toList_none, Option.toList_some, List.nil_append, List.cons_append, true_or, or_true, zRow_rd, zu_rd, zo_putfield, zo_putfield_2, zo_putfield_3, zo_iconst, zo_ireturn, zi_1, zKd_5_4, zTy_5_4, sh_4, zcl_1, zRt, zPutC, zKn_0, zTs_12, zTs_13, zTs_14, zTs_15, zTs_16, zTs_17, zTs_o, zTs_u, zN10, zN01, not_true_eq_false, not_false_eq_true, false_implies, true_implies, implies_true, eq_self, nI_1, nI_40, nI_7, vz0, vz1, zb1_e0, zb1_n0]
      exact hG _ _ _ hg ((k1.u (by unfold SFc; omega)).u (by unfold SFc; omega)) (zFc_tail hs hJ1)
  · have h6' : (t.2.2.1 = 6) = False := eq_false h6
    have key := go50 (fun q => h6 q.1)
    refine zBlkR (M := mX5_readJoint) (nL := 2) (rt := (Option.some .boolean)) (blk := bX5_readJoint_0) (T := []) 0 hX5_readJoint_0 zChks_nil rfl rfl rfl (Nat.le_of_ble_eq_true rfl) (Nat.le_of_ble_eq_true rfl) ?_
    simp (implicitDefEqProofs := false) only [bX5_readJoint_0, zRun_cons, zRun_nil, zLk, zSto, zIns, zFil, zf0, zf1, zf2, zf3, List.filter_cons, List.filter_nil, Nat.reduceAdd, Nat.reduceEqDiff, Nat.reduceLT, Nat.reduceLeDiff, Nat.reduceBEq, Nat.reduceBNe, reduceIte, if_true, if_false, Bool.false_and, Bool.true_and, Bool.and_true, Bool.and_false, Bool.not_false, Bool.not_true, Bool.false_eq_true, beq_self_eq_true, BEq.rfl, zCat1, zCat2, zCat3, zKdI, zKdL, zKdR, true_and, and_true, zSI, zSL, zSR, zu_at, and_self, and_false, false_and, lv_args, zKdZ, zKdO, zB01, zB11, Option.toList_none, Option.toList_some, List.nil_append, List.cons_append, true_or, or_true, zRow_rd, zu_rd, zo_aload_n, zo_getfield, zo_bipush, zo_icmp_ne, zo_if_le, zo_iconst, zb_6, zi_0, zKd_5_0, zKd_7_6, zKd_5_5, sh_4, rf_4_0, sh_1, zcl_6, zcl_0, zKn_0, zTs_12, zTs_13, zTs_14, zTs_15, zTs_16, zTs_17, zTs_o, zTs_u, y6, h6', zN10, zN01, not_true_eq_false, not_false_eq_true, false_implies, true_implies, implies_true, eq_self, nI_1, nI_40, nI_7, vz0, vz1, zb1_e0, zb1_n0]
    exact key
end ZN98zb
end
