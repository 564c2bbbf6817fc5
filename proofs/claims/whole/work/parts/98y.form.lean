/-! ===== TEXT: a formula, pure ===== -/
/-- held knots, rows, how many written, how many counted -/
abbrev oFx : Type := List Nat × (Nat → Nat → Int32) × Nat × Nat
abbrev oFm : Type := List Nat × oFx
def rkN (k : Nat) : Nat := if 13 ≤ k then 6 else if 11 ≤ k then 5 else if 5 ≤ k then 4 else if k = 2 then 3 else if k = 3 then 2 else if k = 4 then 1 else 0
def fGr (R : Nat → Nat → Int32) (n k : Nat) (a b : Int32) : Nat → Nat → Int32 := zu (zu (zu R 107 n (nI k)) 108 n a) 109 n b
def fPop (k : Nat) (X : oFx) : oFx := if k = 2 then (X.2.2.1 :: X.1.tail, fGr X.2.1 X.2.2.1 2 (nI (X.1.headD 0)) (-1), X.2.2.1 + 1, X.2.2.2) else (X.2.2.1 :: X.1.tail.tail, fGr X.2.1 X.2.2.1 k (nI (X.1.tail.headD 0)) (nI (X.1.headD 0)), X.2.2.1 + 1, X.2.2.2)
def fBind (l : Nat) : List Nat → oFx → oFm
  | [], X => ([], X)
  | k :: ws, X => if l ≤ rkN k then fBind l ws (fPop k X) else (k :: ws, X)
def brk : List Nat → Nat
  | [] => 0
  | k :: ws => brk ws + (if k = 0 then 1 else 0)
def nbk : List Nat → Nat
  | [] => 0
  | k :: ws => nbk ws + (if k = 0 then 0 else 1)
def bin : List Nat → Nat
  | [] => 0
  | k :: ws => bin ws + (if 3 ≤ k then 1 else 0)
def opN (k : Nat) : Nat := if k = 45 then 3 else if k = 44 then 4 else if 7 ≤ k ∧ k ≤ 16 then k - 2 else 0
def nmN (k : Nat) : Nat := if k = 27 then 6 else if k = 26 then 7 else k - 20
def cJt (k : Nat) : Nat := if k = 0 then 5 else if k = 2 then 46 else if k = 3 then 45 else if k = 4 then 44 else k + 2
def fLv (l : Nat) : Nat := if rkN l = 4 then 5 else rkN l
def fLeaf (t : oTk) (S : oFm) : oF ⊕ (oFm × Bool) :=
  if tKd t = 5 then (if brk S.1 = 8 then .inl (2, tAt t) else .inr ((0 :: S.1, S.2), true)) else
  if tKd t = 46 ∧ rkN (S.1.headD 0) ≤ 3 then (if S.2.2.2.2 = 64 then .inl (2, tAt t) else .inr ((2 :: S.1, S.2.1, S.2.2.1, S.2.2.2.1, S.2.2.2.2 + 1), true)) else
  if tKd t = 2 then (if 9999 < (tVl t).toNatClampNeg then .inl (2, tAt t) else if S.2.2.2.2 = 64 then .inl (2, tAt t) else .inr ((S.1, S.2.2.2.1 :: S.2.1, fGr S.2.2.1 S.2.2.2.1 0 (nI (tVl t).toNatClampNeg) 0, S.2.2.2.1 + 1, S.2.2.2.2 + 1), false)) else
  if 20 ≤ tKd t ∧ tKd t ≤ 27 then (if S.2.2.2.2 = 64 then .inl (2, tAt t) else .inr ((S.1, S.2.2.2.1 :: S.2.1, fGr S.2.2.1 S.2.2.2.1 1 (nI (nmN (tKd t))) 0, S.2.2.2.1 + 1, S.2.2.2.2 + 1), false)) else
  .inl (1, tAt t)
def fSign (t : oTk) (S : oFm) : oF ⊕ (oFm × Bool) :=
  if tKd t = 6 ∧ 0 < brk S.1 then .inr (((fBind 1 S.1 S.2).1.tail, (fBind 1 S.1 S.2).2), false) else
  if opN (tKd t) = 0 then .inl (1, tAt t) else
  if rkN (opN (tKd t)) = 4 ∧ rkN ((fBind (fLv (opN (tKd t))) S.1 S.2).1.headD 0) = 4 then .inl (1, tAt t) else
  if S.2.2.2.2 = 64 then .inl (2, tAt t) else
  .inr ((opN (tKd t) :: (fBind (fLv (opN (tKd t))) S.1 S.2).1, (fBind (fLv (opN (tKd t))) S.1 S.2).2.1, (fBind (fLv (opN (tKd t))) S.1 S.2).2.2.1, (fBind (fLv (opN (tKd t))) S.1 S.2).2.2.2.1, S.2.2.2.2 + 1), true)
def fSum (E : oEn) : Nat → oTk → oFm → Bool → oF ⊕ (oTk × oFm)
  | 0, t, _, _ => .inl (1, tAt t)
  | n + 1, t, S, w => if tKd t = 4 ∧ w = false ∧ brk S.1 = 0 then .inr (t, fBind 1 S.1 S.2) else
    match (if w = true then fLeaf t S else fSign t S) with
    | .inl f => .inl f
    | .inr (S', w') => fSum E n (tNx E t) S' w'
/-- what holds while a formula is read: F where its law begins, R0 the rows as they were -/
def FOk (F : Nat) (R0 : Nat → Nat → Int32) (S : oFm) (w : Bool) : Prop :=
  S.2.2.2.1 + nbk S.1 = S.2.2.2.2 ∧ S.2.2.2.2 ≤ 64 ∧ brk S.1 ≤ 8 ∧ F ≤ S.2.2.2.1 ∧
  jPos (S.2.2.1 107) (S.2.2.1 108) (S.2.2.1 109) F (S.2.2.2.1 - F) = some S.2.1 ∧
  S.2.1.length = bin S.1 + (if w = true then 0 else 1) ∧ (∀ k ∈ S.1, k ≠ 1 ∧ k ≤ 14) ∧
  (w = false → F < S.2.2.2.1 ∧ S.2.1.head? = some (S.2.2.2.1 - 1)) ∧
  (∀ i, F ≤ i → i < S.2.2.2.1 → ∃ k, k ≤ 14 ∧ S.2.2.1 107 i = nI k ∧ (k = 0 → ∃ n, n ≤ 9999 ∧ S.2.2.1 108 i = nI n) ∧ (k = 1 → ∃ n, n < 8 ∧ S.2.2.1 108 i = nI n)) ∧
  zKpt (fun i k => 107 ≤ i ∧ i ≤ 109 ∧ F ≤ k) R0 S.2.2.1
section ZN98y
variable {F n c k l : Nat} {R R0 : Nat → Nat → Int32} {ws hs : List Nat} {X : oFx} {S : oFm} {w : Bool} {a b : Int32} {t : oTk} {E : oEn}
theorem len_bn : ∀ ws : List Nat, ws.length = brk ws + nbk ws
  | [] => rfl
  | k :: ws => by
    have := len_bn ws
    unfold brk nbk
    rw [List.length_cons]
    split <;> omega
theorem bin_le : ∀ ws : List Nat, bin ws ≤ nbk ws
  | [] => Nat.le_refl _
  | k :: ws => by
    have := bin_le ws
    unfold bin nbk
    repeat' split
    all_goals omega
theorem rkN_lt (h : k ≤ 14) : rkN k ≤ 6 := by unfold rkN; (repeat' split) <;> omega
theorem rkN_0 : rkN k = 0 ↔ k = 0 ∨ k = 1 := by unfold rkN; (repeat' split) <;> omega
theorem jPos_ext {K K' A A' O O' : Nat → Int32} (h : ∀ i, i < F + n → K i = K' i ∧ A i = A' i ∧ O i = O' i) : jPos K A O F n = jPos K' A' O' F n := by
  induction n with
  | zero => rfl
  | succ n ih =>
    rw [jPos, jPos, ih (fun i hi => h i (by omega))]
    obtain ⟨h1, h2, h3⟩ := h (F + n) (by omega)
    rw [h1, h2, h3]
theorem fGr_107 : fGr R n k a b 107 = fun i => if i = n then nI k else R 107 i := by funext i; simp [fGr, zu_at]
theorem fGr_108 : fGr R n k a b 108 = fun i => if i = n then a else R 108 i := by funext i; simp [fGr, zu_at]
theorem fGr_109 : fGr R n k a b 109 = fun i => if i = n then b else R 109 i := by funext i; simp [fGr, zu_at]
theorem fGr_pos (hF : F ≤ n) (h : jPos (R 107) (R 108) (R 109) F (n - F) = some hs) : jPos (fGr R n k a b 107) (fGr R n k a b 108) (fGr R n k a b 109) F (n + 1 - F) = jPosS n (nI k) a b hs := by
  rw [show n + 1 - F = (n - F) + 1 by omega, jPos, fGr_107, fGr_108, fGr_109]
  rw [jPos_ext (K' := R 107) (A' := R 108) (O' := R 109) (fun i hi => by
    have : ¬ i = n := by omega
    simp [this]), h, Option.bind_some, show F + (n - F) = n by omega]
  simp
theorem fGr_kpt (hF : F ≤ n) (h : zKpt (fun i k => 107 ≤ i ∧ i ≤ 109 ∧ F ≤ k) R0 R) : zKpt (fun i k => 107 ≤ i ∧ i ≤ 109 ∧ F ≤ k) R0 (fGr R n k a b) := ((h.u (by omega)).u (by omega)).u (by omega)
/-- one knot more among those that are right -/
theorem fGr_kinds (hk : k ≤ 14) (h0 : k = 0 → ∃ n, n ≤ 9999 ∧ a = nI n) (h1 : k = 1 → ∃ n, n < 8 ∧ a = nI n) (h : ∀ i, F ≤ i → i < n → ∃ k, k ≤ 14 ∧ R 107 i = nI k ∧ (k = 0 → ∃ n, n ≤ 9999 ∧ R 108 i = nI n) ∧ (k = 1 → ∃ n, n < 8 ∧ R 108 i = nI n)) : ∀ i, F ≤ i → i < n + 1 → ∃ q, q ≤ 14 ∧ fGr R n k a b 107 i = nI q ∧ (q = 0 → ∃ n', n' ≤ 9999 ∧ fGr R n k a b 108 i = nI n') ∧ (q = 1 → ∃ n', n' < 8 ∧ fGr R n k a b 108 i = nI n') := by
  intro i h2 h3
  rw [fGr_107, fGr_108]
  by_cases e : i = n
  · subst e
    exact ⟨k, hk, by simp, by simpa using h0, by simpa using h1⟩
  · simp only [e, if_false]
    exact h i h2 (by omega)
/-- one waiting sign bound -/
theorem fPop_ok (hk0 : k ≠ 0) (h : FOk F R0 (k :: ws, X) false) : FOk F R0 (ws, fPop k X) false := by
  obtain ⟨hs, R, n, c⟩ := X
  obtain ⟨h1, h2, h3, h4, h5, h6, h7, h8, h9, h10⟩ := h
  simp only [brk, nbk, bin, hk0, if_false, Bool.false_eq_true] at h1 h2 h3 h4 h5 h6 h8
  have hk := h7 k List.mem_cons_self
  have h7' : ∀ q ∈ ws, q ≠ 1 ∧ q ≤ 14 := fun q hq => h7 q (List.mem_cons_of_mem _ hq)
  unfold fPop
  by_cases k2 : k = 2
  · rw [if_pos k2]
    subst k2
    have h6' : hs.length = bin ws + 1 := by simpa using h6
    match hs, h5, h6', h8 with
    | y :: s1, h5, h6', h8 =>
      refine ⟨by simp only; omega, h2, by simp only; omega, by simp only; omega, ?_, by simpa using h6', h7', fun _ => ⟨by simp only; omega, by simp⟩, fGr_kinds (b := -1) (by omega) (fun e => by omega) (fun e => by omega) h9, fGr_kpt h4 h10⟩
      simp only [List.headD_cons, List.tail_cons]
      rw [fGr_pos h4 h5]
      unfold jPosS
      rw [if_neg (by decide)]
      simp only
      rw [if_pos (by decide)]
      simp
  · rw [if_neg k2]
    have k3 : 3 ≤ k := by omega
    have h6' : hs.length = bin ws + 2 := by simpa [k3] using h6
    match hs, h5, h6', h8 with
    | y :: z :: s1, h5, h6', h8 =>
      have n0 : ¬ nI k = 0 := fun q => by have := (nI_eq (b := 0) (by omega) (by omega)).mp q; omega
      have n1 : ¬ nI k = 1 := fun q => by have := (nI_eq (b := 1) (by omega) (by omega)).mp q; omega
      have n2 : ¬ nI k = 2 := fun q => by have := (nI_eq (b := 2) (by omega) (by omega)).mp q; omega
      refine ⟨by simp only; omega, h2, by simp only; omega, by simp only; omega, ?_, by simp at h6' ⊢; omega, h7', fun _ => ⟨by simp only; omega, by simp⟩, fGr_kinds (b := nI y) hk.2 (fun e => by omega) (fun e => by omega) h9, fGr_kpt h4 h10⟩
      simp only [List.headD_cons, List.tail_cons]
      rw [fGr_pos h4 h5]
      unfold jPosS
      simp [n0, n1, n2]
theorem fBind_ok (hl : 1 ≤ l) : ∀ (ws : List Nat) (X : oFx), FOk F R0 (ws, X) false → FOk F R0 (fBind l ws X) false
  | [], X, h => h
  | k :: ws, X, h => by
    unfold fBind
    split
    · rename_i hk
      exact fBind_ok hl ws _ (fPop_ok (fun e => by subst e; have : rkN 0 = 0 := rfl; omega) h)
    · exact h
theorem fPop_c : (fPop k X).2.2.2 = X.2.2.2 := by unfold fPop; split <;> rfl
theorem fBind_c : ∀ (ws : List Nat) (X : oFx), (fBind l ws X).2.2.2.2 = X.2.2.2
  | [], X => rfl
  | k :: ws, X => by
    unfold fBind
    split
    · rw [fBind_c ws _, fPop_c]
    · rfl
theorem fBind_brk (hl : 1 ≤ l) : ∀ (ws : List Nat) (X : oFx), brk (fBind l ws X).1 = brk ws
  | [], X => rfl
  | k :: ws, X => by
    unfold fBind
    split
    · rename_i hk
      have : ¬ k = 0 := fun e => by subst e; have : rkN 0 = 0 := rfl; omega
      rw [fBind_brk hl ws _]
      show brk ws = brk ws + (if k = 0 then 1 else 0)
      rw [if_neg this]; rfl
    · rfl
theorem fBind_top (hl : 1 ≤ l) : ∀ (ws : List Nat) (X : oFx), rkN ((fBind l ws X).1.headD 0) < l
  | [], X => by show rkN 0 < l; have : rkN 0 = 0 := rfl; omega
  | k :: ws, X => by
    unfold fBind
    split
    · exact fBind_top hl ws _
    · rename_i hk; show rkN k < l; omega
theorem fBind_mem : ∀ (ws : List Nat) (X : oFx), ∀ q ∈ (fBind l ws X).1, q ∈ ws
  | [], X => fun q hq => hq
  | k :: ws, X => by
    unfold fBind
    split
    · exact fun q hq => List.mem_cons_of_mem _ (fBind_mem ws _ q hq)
    · exact fun q hq => hq
/-- behind a bracket that closes stands its own -/
theorem fBind_br (hb : 0 < brk ws) (h7 : ∀ k ∈ ws, k ≠ 1 ∧ k ≤ 14) : ∃ ws', (fBind 1 ws X).1 = 0 :: ws' := by
  have h1 := fBind_brk (l := 1) (by omega) ws X
  have h2 := fBind_top (l := 1) (by omega) ws X
  have h3 := fBind_mem (l := 1) ws X
  generalize (fBind 1 ws X).1 = v at h1 h2 h3
  match v, h1, h2, h3 with
  | [], h1, _, _ => rw [← h1] at hb; exact absurd hb (by show ¬ 0 < 0; omega)
  | k :: v, _, h2, h3 =>
    have h2' : rkN k < 1 := h2
    have h4 := h7 k (h3 k List.mem_cons_self)
    have : k = 0 ∨ k = 1 := rkN_0.mp (by omega)
    have : k = 0 := by omega
    subst this
    exact ⟨v, rfl⟩
theorem opN_b (h : opN k ≠ 0) : 3 ≤ opN k ∧ opN k ≤ 14 := by unfold opN at h ⊢; (repeat' split) <;> simp_all <;> omega
theorem nmN_b (h : 20 ≤ k ∧ k ≤ 27) : nmN k < 8 := by unfold nmN; (repeat' split) <;> omega
theorem fLeaf_ok {S' : oFm} {w' : Bool} (hS : FOk F R0 S true) (h : fLeaf t S = .inr (S', w')) : FOk F R0 S' w' := by
  obtain ⟨ws, hs, R, n, c⟩ := S
  obtain ⟨h1, h2, h3, h4, h5, h6, h7, h8, h9, h10⟩ := hS
  simp only [if_true] at h1 h2 h3 h4 h5 h6 h9 h10
  unfold fLeaf at h
  split at h
  · split at h
    · cases h
    · rename_i hb
      cases h
      refine ⟨?_, h2, ?_, h4, h5, ?_, ?_, (fun q => by cases q), h9, h10⟩
      · simp only [nbk, if_true]; exact h1
      · simp only [brk, if_true]; simp only at hb; omega
      · simp only [bin, if_true]; rw [if_neg (by omega)]; exact h6
      · intro q hq
        rcases List.mem_cons.mp hq with rfl | hq
        · exact ⟨by omega, by omega⟩
        · exact h7 q hq
  · split at h
    · split at h
      · cases h
      · rename_i hc
        cases h
        simp only at hc
        refine ⟨?_, ?_, ?_, h4, h5, ?_, ?_, (fun q => by cases q), h9, h10⟩
        · simp only [nbk]; rw [if_neg (by omega)]; omega
        · simp only; omega
        · simp only [brk]; rw [if_neg (by omega)]; exact h3
        · simp only [bin, if_true]; rw [if_neg (by omega)]; exact h6
        · intro q hq
          rcases List.mem_cons.mp hq with rfl | hq
          · exact ⟨by omega, by omega⟩
          · exact h7 q hq
    · split at h
      · split at h
        · cases h
        · split at h
          · cases h
          · rename_i hv hc
            cases h
            simp only at hc
            refine ⟨by simp only; omega, by simp only; omega, h3, by simp only; omega, ?_, ?_, h7, fun _ => ⟨by simp only; omega, by simp⟩, fGr_kinds (b := 0) (by omega) (fun _ => ⟨_, by omega, rfl⟩) (fun e => by omega) h9, fGr_kpt h4 h10⟩
            · simp only
              rw [fGr_pos h4 h5]; unfold jPosS; rw [if_pos (by decide)]
            · simp only [List.length_cons, Bool.false_eq_true, if_false]; omega
      · split at h
        · rename_i hn
          split at h
          · cases h
          · rename_i hc
            cases h
            simp only at hc
            refine ⟨by simp only; omega, by simp only; omega, h3, by simp only; omega, ?_, ?_, h7, fun _ => ⟨by simp only; omega, by simp⟩, fGr_kinds (b := 0) (by omega) (fun e => by omega) (fun _ => ⟨_, nmN_b hn, rfl⟩) h9, fGr_kpt h4 h10⟩
            · simp only
              rw [fGr_pos h4 h5]; unfold jPosS; rw [if_pos (by decide)]
            · simp only [List.length_cons, Bool.false_eq_true, if_false]; omega
        · cases h
theorem fLv_1 (h : opN k ≠ 0) : 1 ≤ fLv (opN k) := by
  have := opN_b h
  unfold fLv
  split
  · omega
  · have : ¬ rkN (opN k) = 0 := fun q => by have := rkN_0.mp q; omega
    omega
theorem fSign_ok {S' : oFm} {w' : Bool} (hS : FOk F R0 S false) (h : fSign t S = .inr (S', w')) : FOk F R0 S' w' := by
  obtain ⟨ws, X⟩ := S
  unfold fSign at h
  split at h
  · rename_i hb
    cases h
    obtain ⟨ws', e⟩ := fBind_br (X := X) hb.2 hS.2.2.2.2.2.2.1
    have hB := fBind_ok (l := 1) (by omega) ws X hS
    simp only
    generalize fBind 1 ws X = B at e hB ⊢
    obtain ⟨v, Y⟩ := B
    simp only at e
    subst e
    obtain ⟨h1, h2, h3, h4, h5, h6, h7, h8, h9, h10⟩ := hB
    simp only [brk, nbk, bin, if_true] at h1 h3 h6
    refine ⟨h1, h2, ?_, h4, h5, ?_, fun q hq => h7 q (List.mem_cons_of_mem _ hq), h8, h9, h10⟩
    · simp only [List.tail_cons]; omega
    · simp only [List.tail_cons]; rw [h6]; simp
  · split at h
    · cases h
    · rename_i ho
      split at h
      · cases h
      · split at h
        · cases h
        · rename_i hc
          cases h
          have hB := fBind_ok (fLv_1 ho) ws X hS
          have hcc := fBind_c (l := fLv (opN (tKd t))) ws X
          simp only at hc ⊢
          generalize fBind (fLv (opN (tKd t))) ws X = B at hB hcc ⊢
          obtain ⟨v, Y⟩ := B
          have ob := opN_b ho
          obtain ⟨h1, h2, h3, h4, h5, h6, h7, h8, h9, h10⟩ := hB
          simp only at hcc
          refine ⟨?_, ?_, ?_, h4, h5, ?_, ?_, (fun q => by cases q), h9, h10⟩
          · simp only [nbk] at h1 ⊢; rw [if_neg (by omega)]; omega
          · simp only at h2 ⊢; omega
          · simp only [brk]; rw [if_neg (by omega)]; exact h3
          · simp only [bin, if_true]; rw [if_pos ob.1]; simp only [Bool.false_eq_true, if_false] at h6; omega
          · intro q hq
            rcases List.mem_cons.mp hq with rfl | hq
            · exact ⟨by omega, by omega⟩
            · exact h7 q hq
/-- all bound, where no bracket is open -/
theorem fBind_all (hb : brk ws = 0) (h7 : ∀ k ∈ ws, k ≠ 1 ∧ k ≤ 14) : (fBind 1 ws X).1 = [] := by
  have h1 := fBind_brk (l := 1) (by omega) ws X
  have h2 := fBind_top (l := 1) (by omega) ws X
  have h3 := fBind_mem (l := 1) ws X
  generalize (fBind 1 ws X).1 = v at h1 h2 h3
  match v, h1, h2, h3 with
  | [], _, _, _ => rfl
  | k :: v, h1, h2, h3 =>
    have h2' : rkN k < 1 := h2
    have h4 := h7 k (h3 k List.mem_cons_self)
    have : k = 0 ∨ k = 1 := rkN_0.mp (by omega)
    have : k = 0 := by omega
    subst this
    rw [hb] at h1
    exact absurd h1 (by show ¬ brk v + (if 0 = 0 then 1 else 0) = 0; rw [if_pos rfl]; omega)
end ZN98y
