-- needs: 45
/-! ===== LAWS: a row of knots ===== -/
def jPosS (i : Nat) (k a o : Int32) (s : List Nat) : Option (List Nat) := if k = 0 ∨ k = 1 then some (i :: s) else match s with
  | [] => none
  | y :: s1 => if k = 2 then (if a = nI y then some (i :: s1) else none) else match s1 with
    | [] => none
    | x :: s2 => if a = nI x ∧ o = nI y then some (i :: s2) else none
/-- which knots are held behind n knots from F on; none: they don't fit -/
def jPos (k a o : Nat → Int32) (F : Nat) : Nat → Option (List Nat)
  | 0 => some []
  | n + 1 => (jPos k a o F n).bind (jPosS (F + n) (k (F + n)) (a (F + n)) (o (F + n)))
def jRunS (nm : Nat → Int64) (k a : Int32) (s : List Int64) : Option (List Int64) := if k = 0 then some (a.toInt64 :: s) else if k = 1 then some (nm a.toNatClampNeg :: s) else match s with
  | [] => none
  | y :: s1 => if k = 2 then some ((if y = 0 then 1 else 0) :: s1) else match s1 with
    | [] => none
    | x :: s2 => (jBin k x y).map (· :: s2)
def jRun (nm : Nat → Int64) (k a : Nat → Int32) (F : Nat) : Nat → Option (List Int64)
  | 0 => some []
  | n + 1 => (jRun nm k a F n).bind (jRunS nm (k (F + n)) (a (F + n)))
/-- a law's value; none: an error -/
def jLaw (nm : Nat → Int64) (k a : Nat → Int32) (F T : Nat) : Option Int64 := (jRun nm k a F (T - F)).bind List.head?
section ZJ
variable {nm nm' v v' : Nat → Int64} {k a o : Nat → Int32} {F n T : Nat} {S : List Nat}
theorem jRun_congr (h : ∀ i, F ≤ i → i < F + n → k i = 1 → nm (a i).toNatClampNeg = nm' (a i).toNatClampNeg) : jRun nm k a F n = jRun nm' k a F n := by
  induction n with
  | zero => rfl
  | succ n ih =>
    rw [jRun, jRun, ih (fun i h1 h2 => h i h1 (by omega))]
    congr 1
    funext s
    unfold jRunS
    by_cases h1 : k (F + n) = 1
    · rw [h (F + n) (by omega) (by omega) h1]
    · simp only [h1, if_false]
theorem jPos_lt : ∀ {n : Nat} {S : List Nat}, jPos k a o F n = some S → ∀ x ∈ S, F ≤ x ∧ x < F + n
  | 0, S, h => by cases h; intro x hx; cases hx
  | n + 1, S, h => by
    rw [jPos] at h
    cases hp : jPos k a o F n with
    | none => rw [hp] at h; cases h
    | some s =>
      rw [hp] at h
      have ih := jPos_lt hp
      simp only [Option.bind_some, jPosS] at h
      intro x hx
      split at h
      · cases h
        rcases List.mem_cons.mp hx with rfl | hx
        · omega
        · have := ih x hx; omega
      · split at h
        · cases h
        · rename_i y s1
          split at h
          · split at h
            · cases h
              rcases List.mem_cons.mp hx with rfl | hx
              · omega
              · have := ih x (List.mem_cons_of_mem _ hx); omega
            · cases h
          · split at h
            · cases h
            · split at h
              · cases h
                rcases List.mem_cons.mp hx with rfl | hx
                · omega
                · have := ih x (List.mem_cons_of_mem _ (List.mem_cons_of_mem _ hx)); omega
              · cases h
/-- what stands in the values behind n knots -/
def jInv (nm v : Nat → Int64) (k a o : Nat → Int32) (F n : Nat) (e : Bool) : Prop := ∃ S, jPos k a o F n = some S ∧ (e = false → jRun nm k a F n = some (S.map v)) ∧ (e = true → jRun nm k a F n = none)
theorem jInv_0 : jInv nm v k a o F 0 false := ⟨[], rfl, fun _ => rfl, fun h => by cases h⟩
theorem jMap_same {S : List Nat} {i : Nat} {x : Int64} (h : ∀ y ∈ S, y < i) : S.map (fun b => if b = i then x else v b) = S.map v := by
  apply List.map_congr_left
  intro y hy
  have := h y hy
  rw [if_neg (by omega)]
/-- one knot more -/
theorem jInv_s {e e' : Bool} {x : Int64} (hF : F + n < 64) (hP : jPos k a o F (n + 1) = some S) (h : jInv nm v k a o F n e) (h1 : e = true → e' = true) (h2 : e = false → ∀ z, jVal nm v (k (F + n)) (a (F + n)) (o (F + n)) = some z → e' = false ∧ x = z) (h3 : e = false → jVal nm v (k (F + n)) (a (F + n)) (o (F + n)) = none → e' = true) : jInv nm (fun b => if b = F + n then x else v b) k a o F (n + 1) e' := by
  obtain ⟨s, hs, g1, g2⟩ := h
  refine ⟨S, hP, ?_⟩
  rw [jPos, hs, Option.bind_some] at hP
  have hlt := jPos_lt hs
  rw [jRun]
  cases e with
  | true =>
    rw [h1 rfl, g2 rfl]
    exact ⟨fun h => (by cases h), fun _ => rfl⟩
  | false =>
    rw [g1 rfl, Option.bind_some]
    have h2 := h2 rfl
    have h3 := h3 rfl
    simp only [jPosS] at hP
    unfold jRunS
    unfold jVal at h2 h3
    by_cases k0 : k (F + n) = 0
    · rw [if_pos (Or.inl k0)] at hP
      cases hP
      rw [if_pos k0] at h2 h3 ⊢
      obtain ⟨rfl, rfl⟩ := h2 _ rfl
      refine ⟨fun _ => ?_, fun h => by cases h⟩
      rw [List.map_cons, jMap_same (fun y hy => (hlt y hy).2), if_pos rfl]
    · rw [if_neg k0] at h2 h3 ⊢
      by_cases k1 : k (F + n) = 1
      · rw [if_pos (Or.inr k1)] at hP
        cases hP
        rw [if_pos k1] at h2 h3 ⊢
        obtain ⟨rfl, rfl⟩ := h2 _ rfl
        refine ⟨fun _ => ?_, fun h => by cases h⟩
        rw [List.map_cons, jMap_same (fun y hy => (hlt y hy).2), if_pos rfl]
      · rw [if_neg (fun q => q.elim k0 k1)] at hP
        rw [if_neg k1] at h2 h3 ⊢
        match s, hP, hlt with
        | [], hP, _ => cases hP
        | y :: s1, hP, hlt =>
          simp only [List.map_cons] at hP ⊢
          have hy := hlt y List.mem_cons_self
          by_cases k2 : k (F + n) = 2
          · rw [if_pos k2] at hP h2 h3
            simp only [k2, if_true]
            split at hP
            · rename_i ea
              cases hP
              rw [ea, nI_clamp (by omega)] at h2 h3
              obtain ⟨rfl, rfl⟩ := h2 _ rfl
              refine ⟨fun _ => ?_, fun h => by cases h⟩
              rw [List.map_cons, jMap_same (fun z hz => (hlt z (List.mem_cons_of_mem _ hz)).2), if_pos rfl]
            · cases hP
          · rw [if_neg k2] at hP h2 h3
            simp only [k2, if_false]
            match s1, hP, hlt with
            | [], hP, _ => cases hP
            | z :: s2, hP, hlt =>
              simp only [List.map_cons] at hP ⊢
              have hz := hlt z (List.mem_cons_of_mem _ List.mem_cons_self)
              split at hP
              · rename_i ea
                cases hP
                rw [ea.1, ea.2, nI_clamp (by omega), nI_clamp (by omega)] at h2 h3
                cases hb : jBin (k (F + n)) (v z) (v y) with
                | none =>
                  rw [h3 hb]
                  exact ⟨fun h => (by cases h), fun _ => rfl⟩
                | some u =>
                  obtain ⟨rfl, rfl⟩ := h2 u hb
                  refine ⟨fun _ => ?_, fun h => by cases h⟩
                  rw [List.map_cons, jMap_same (fun q hq => (hlt q (List.mem_cons_of_mem _ (List.mem_cons_of_mem _ hq))).2), if_pos rfl]
                  rfl
              · cases hP
/-- where the parts of a knot lie -/
theorem jPos_in (hP : jPos k a o F (n + 1) = some S) (hF : F + n < 64) : (¬ k (F + n) = 0 → ¬ k (F + n) = 1 → vp_in (a (F + n)) 64) ∧ (¬ k (F + n) = 0 → ¬ k (F + n) = 1 → ¬ k (F + n) = 2 → vp_in (o (F + n)) 64) := by
  rw [jPos] at hP
  cases hs : jPos k a o F n with
  | none => rw [hs] at hP; cases hP
  | some s =>
    rw [hs, Option.bind_some] at hP
    have hlt := jPos_lt hs
    unfold jPosS at hP
    refine ⟨fun k0 k1 => ?_, fun k0 k1 k2 => ?_⟩
    · rw [if_neg (fun q => q.elim k0 k1)] at hP
      match s, hP, hlt with
      | [], hP, _ => cases hP
      | y :: s1, hP, hlt =>
        have hy := hlt y List.mem_cons_self
        simp only at hP
        split at hP
        · split at hP
          · rename_i ea; rw [ea]; exact zvn (by omega) (by omega)
          · cases hP
        · match s1, hP, hlt with
          | [], hP, _ => cases hP
          | z :: s2, hP, hlt =>
            have hz := hlt z (List.mem_cons_of_mem _ List.mem_cons_self)
            simp only at hP
            split at hP
            · rename_i ea; rw [ea.1]; exact zvn (by omega) (by omega)
            · cases hP
    · rw [if_neg (fun q => q.elim k0 k1)] at hP
      match s, hP, hlt with
      | [], hP, _ => cases hP
      | y :: s1, hP, hlt =>
        have hy := hlt y List.mem_cons_self
        simp only [k2, if_false] at hP
        match s1, hP, hlt with
        | [], hP, _ => cases hP
        | z :: s2, hP, hlt =>
          simp only at hP
          split at hP
          · rename_i ea; rw [ea.2]; exact zvn (by omega) (by omega)
          · cases hP
theorem jPos_part (h : jPos k a o F n = some S) {m : Nat} (hm : m ≤ n) : ∃ S', jPos k a o F m = some S' := by
  induction n generalizing S with
  | zero => have : m = 0 := by omega
            subst this; exact ⟨_, h⟩
  | succ n ih =>
    by_cases e : m = n + 1
    · subst e; exact ⟨_, h⟩
    · rw [jPos] at h
      cases hp : jPos k a o F n with
      | none => rw [hp] at h; cases h
      | some s => exact ih hp (by omega)
end ZJ
