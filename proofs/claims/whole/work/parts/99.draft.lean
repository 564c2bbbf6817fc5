section
/-! ===== TEXT: the token laid over the memory, both sides ===== -/
abbrev oTk : Type := Nat × Nat × Nat × Int32
abbrev tAt (t : oTk) : Nat := t.1
abbrev tKd (t : oTk) : Nat := t.2.2.1
abbrev tVl (t : oTk) : Int32 := t.2.2.2
/-- where a text is read: its words, its bytes, its end -/
abbrev oEn : Type := (Nat → Int32) × (Nat → Nat) × Nat
def tNx (E : oEn) (t : oTk) : oTk := oTc E.1 E.2.1 E.2.2 t.2.1
def zTs (J : Nat → Nat → Int32) (t : oTk) : Nat → Nat → Int32 := fun i k => if i = 1 then (if k = 4 then nI t.2.1 else if k = 5 then nI t.1 else if k = 6 then nI t.2.2.1 else if k = 7 then t.2.2.2 else J 1 k) else J i k
def zTq (J : Nat → Nat → Int32) (t : oTk) (kd wh : Int32) : Nat → Nat → Int32 := fun i k => if i = 87 then (if k = 7 then nI t.2.1 else if k = 10 then nI t.1 else if k = 8 then kd else if k = 9 then wh else J 87 k) else J i k
def zEc (J : Nat → Nat → Int32) (E : oEn) : Prop := J 1 3 = nI E.2.2 ∧ J 3 = E.1 ∧ E.2.2 ≤ 700 ∧ ∀ k, k < E.2.2 → J 2 k = oSb (E.2.1 k) ∧ E.2.1 k < 256
def zEr (J : Nat → Nat → Int32) (E : oEn) : Prop := J 87 6 = nI E.2.2 ∧ (∀ k, k < 136 → J 89 k = nI (mWa k)) ∧ (∀ i, i < 27 → E.1 i = nI (cWp i)) ∧ E.2.2 ≤ 700 ∧ ∀ k, k < E.2.2 → J 88 k = nI (E.2.1 k) ∧ E.2.1 k < 256
def tOk (E : oEn) (t : oTk) : Prop := t.1 ≤ E.2.2 ∧ t.2.1 ≤ E.2.2 ∧ t.2.2.1 < 47 ∧ (t.2.2.1 = 2 → ∃ n, n ≤ 1000000 ∧ t.2.2.2 = nI n)
section ZN98q
variable {w : zP} {Q : Option Value → zMem → Prop} {μ : zMem} {I J : Nat → Nat → Int32} {L K : Nat → Nat → Int64} {p s : Nat} {r : Option Nat} {a b c i j k n e m sp : Nat} {x y v kd wh : Int32} {T : Nat → Nat} {W : Nat → Int32} {E : oEn} {t u : oTk}
theorem zTs_14 : zTs J t 1 4 = nI t.2.1 := by simp [zTs]
theorem zTs_15 : zTs J t 1 5 = nI t.1 := by simp [zTs]
theorem zTs_16 : zTs J t 1 6 = nI t.2.2.1 := by simp [zTs]
theorem zTs_17 : zTs J t 1 7 = t.2.2.2 := by simp [zTs]
theorem zTs_13 : zTs J t 1 3 = J 1 3 := by simp [zTs]
theorem zTs_12 : zTs J t 1 2 = J 1 2 := by simp [zTs]
theorem zTs_o (h : (i = 1) = False) : zTs J t i = J i := by
  funext k; unfold zTs; rw [if_neg (fun q => by rw [h] at q; exact q)]
theorem zTs_u (h : (i = 1) = False) : zu (zTs J t) i k v = zTs (zu J i k v) t := by
  have h1 : ¬ i = 1 := fun q => by rw [h] at q; exact q
  funext a b
  unfold zTs
  by_cases g : a = 1
  · subst g
    have h2 : ¬ 1 = i := fun q => h1 q.symm
    simp only [zu_at, h2, false_and, if_false]
  · simp only [zu_at, g, if_false]
theorem zTs_row (h : (i = 1) = False) {f : Nat → Int32} : zRow (zTs J t) i f = zTs (zRow J i f) t := by
  have h1 : ¬ i = 1 := fun q => by rw [h] at q; exact q
  funext a
  by_cases g : a = 1
  · subst g
    rw [zRow_rd, if_neg (fun q => h1 q.symm)]
    funext b
    have h2 : ¬ 1 = i := fun q => h1 q.symm
    simp only [zTs, zRow_rd, h2, if_false, if_true]
  · funext b
    unfold zTs
    rw [zRow_rd]
    by_cases g2 : a = i
    · rw [if_pos g2, if_neg g, zRow_rd, if_pos g2]
    · rw [if_neg g2, if_neg g, if_neg g, zRow_rd, if_neg g2]
theorem zTs_ts : zTs (zTs J t) u = zTs J u := by
  funext a b; unfold zTs
  by_cases g : a = 1
  · simp only [g, if_true]
    repeat' split
    all_goals rfl
  · simp only [g, if_false]
theorem zTs_eq (h : zKpt STj (zTs J t) I) (h5 : I 1 5 = nI u.1) (h4 : I 1 4 = nI u.2.1) (h6 : I 1 6 = nI u.2.2.1) (h7 : I 1 7 = u.2.2.2) : I = zTs J u := by
  funext a b
  unfold zTs
  by_cases g : a = 1
  · subst g
    rw [if_pos rfl]
    by_cases q4 : b = 4
    · rw [if_pos q4, q4, h4]
    · rw [if_neg q4]
      by_cases q5 : b = 5
      · rw [if_pos q5, q5, h5]
      · rw [if_neg q5]
        by_cases q6 : b = 6
        · rw [if_pos q6, q6, h6]
        · rw [if_neg q6]
          by_cases q7 : b = 7
          · rw [if_pos q7, q7, h7]
          · rw [if_neg q7, h 1 b (by unfold STj; omega)]
            unfold zTs
            rw [if_pos rfl, if_neg q4, if_neg q5, if_neg q6, if_neg q7]
  · rw [if_neg g, h a b (by unfold STj; omega)]
    unfold zTs
    rw [if_neg g]
theorem zTq_7 : zTq J t kd wh 87 7 = nI t.2.1 := by simp [zTq]
theorem zTq_10 : zTq J t kd wh 87 10 = nI t.1 := by simp [zTq]
theorem zTq_8 : zTq J t kd wh 87 8 = kd := by simp [zTq]
theorem zTq_9 : zTq J t kd wh 87 9 = wh := by simp [zTq]
theorem zTq_o (h : (i = 87) = False) : zTq J t kd wh i = J i := by
  funext k; unfold zTq; rw [if_neg (fun q => by rw [h] at q; exact q)]
theorem zTq_k (h : (k = 7) = False) (h2 : (k = 8) = False) (h3 : (k = 9) = False) (h4 : (k = 10) = False) : zTq J t kd wh 87 k = J 87 k := by
  unfold zTq; simp only [h, h2, h3, h4, if_true, if_false]
theorem zTq_u (h : (i = 87) = False) : zu (zTq J t kd wh) i k v = zTq (zu J i k v) t kd wh := by
  have h1 : ¬ i = 87 := fun q => by rw [h] at q; exact q
  funext a b
  unfold zTq
  by_cases g : a = 87
  · subst g
    have h2 : ¬ 87 = i := fun q => h1 q.symm
    simp only [zu_at, h2, false_and, if_false]
  · simp only [zu_at, g, if_false]
theorem zTq_uk (h : (k = 7) = False) (h2 : (k = 8) = False) (h3 : (k = 9) = False) (h4 : (k = 10) = False) : zu (zTq J t kd wh) 87 k v = zTq (zu J 87 k v) t kd wh := by
  have g1 : ¬ 7 = k := fun q => by rw [← h]; exact q.symm
  have g2 : ¬ 8 = k := fun q => by rw [← h2]; exact q.symm
  have g3 : ¬ 9 = k := fun q => by rw [← h3]; exact q.symm
  have g4 : ¬ 10 = k := fun q => by rw [← h4]; exact q.symm
  funext a b
  unfold zTq
  by_cases g : a = 87
  · subst g
    simp only [zu_at, if_true, true_and]
    by_cases q : b = k
    · subst q; simp only [h, h2, h3, h4, if_true, if_false]
    · simp only [q, if_false]
  · simp only [zu_at, g, if_false, false_and]
theorem zTq_eq (h : zKpt SRj (zTq J t kd wh) I) (h10 : I 87 10 = nI u.1) (h7 : I 87 7 = nI u.2.1) : I = zTq J u (I 87 8) (I 87 9) := by
  funext a b
  unfold zTq
  by_cases g : a = 87
  · subst g
    rw [if_pos rfl]
    by_cases q4 : b = 7
    · rw [if_pos q4, q4, h7]
    · rw [if_neg q4]
      by_cases q5 : b = 10
      · rw [if_pos q5, q5, h10]
      · rw [if_neg q5]
        by_cases q6 : b = 8
        · rw [if_pos q6, q6]
        · rw [if_neg q6]
          by_cases q7 : b = 9
          · rw [if_pos q7, q7]
          · rw [if_neg q7, h 87 b (by unfold SRj; omega)]
            unfold zTq
            rw [if_pos rfl, if_neg q4, if_neg q5, if_neg q6, if_neg q7]
  · rw [if_neg g, h a b (by unfold SRj; omega)]
    unfold zTq
    rw [if_neg g]
theorem oWk_lt : oWk W v < 47 := by unfold oWk; split <;> omega
theorem oWk_3 : 3 ≤ oWk W v := by unfold oWk; split <;> omega
theorem oNm_b {T : Nat → Nat} : ∀ n i v, v ≤ 1000000 → (oNm T n i v).2 ≤ 1000000 ∧ i ≤ (oNm T n i v).1 ∧ (oNm T n i v).1 ≤ i + n
  | 0, i, v, h => ⟨h, Nat.le_refl _, Nat.le_refl _⟩
  | n + 1, i, v, h => by
    unfold oNm
    split
    · have := oNm_b (T := T) n (i + 1) (min 1000000 (v * 10 + T i - 48)) (by omega)
      omega
    · exact ⟨h, Nat.le_refl _, by show i ≤ i + (n + 1); omega⟩
theorem oSk_ge {T : Nat → Nat} : ∀ n i, i ≤ oSk T n i
  | 0, i => Nat.le_refl _
  | n + 1, i => by
    unfold oSk
    split
    · have := oSk_ge (T := T) n (i + 1); omega
    · omega
theorem oMk_b : oMk b < 47 ∧ 0 < oMk b ∧ oMk b ≠ 2 := by unfold oMk; (repeat' split) <;> omega
theorem oCp_b : oCp a b < 13 ∧ 7 ≤ oCp a b := by unfold oCp; (repeat' split) <;> omega
/-- what is known of a token -/
theorem oTc_ok (hi : i ≤ e) : (oTc W T e i).1 ≤ e ∧ (oTc W T e i).2.1 ≤ e ∧ i ≤ (oTc W T e i).2.1 ∧ ((oTc W T e i).2.2.1 ≠ 0 → i < (oTc W T e i).2.1) ∧ (oTc W T e i).2.2.1 < 47 ∧ ((oTc W T e i).2.2.1 = 2 → ∃ n, n ≤ 1000000 ∧ (oTc W T e i).2.2.2 = nI n) := by
  have h1 := oSk_ge (T := T) (e - i) i
  have h2 := oSk_le (T := T) (e - i) i
  rw [oTc_d]
  generalize oSk T (e - i) i = q at h1 h2 ⊢
  unfold oTd
  by_cases g : e ≤ q
  · rw [if_pos g]
    exact ⟨by show q ≤ e; omega, by show q ≤ e; omega, h1, fun h => absurd rfl h, by show 0 < 47; omega, fun h => absurd h (by show ¬ 0 = 2; omega)⟩
  · rw [if_neg g]
    by_cases gl : oLet (T q) = true
    · rw [if_pos gl]
      obtain ⟨w1, w2⟩ := oWr_1 (T := T) (e - q) q 0 0
      have w3 := oLn_le (T := T) (e - q) q
      have w4 : 0 < oLn T (e - q) q := by
        obtain ⟨d, hd⟩ : ∃ d, e - q = d + 1 := ⟨e - q - 1, by omega⟩
        rw [hd]; unfold oLn; rw [if_pos gl]; omega
      refine ⟨by show q ≤ e; omega, by show (oWr T (e - q) q 0 0).1 ≤ e; omega, by show i ≤ (oWr T (e - q) q 0 0).1; omega, fun _ => by show i < (oWr T (e - q) q 0 0).1; omega, ?_, ?_⟩
      · show (if _ then _ else _) < 47
        split
        · exact oWk_lt
        · omega
      · show (if _ then _ else _) = 2 → _
        split
        · intro h; have := oWk_3 (W := W) (v := (oWr T (e - q) q 0 0).2.2); omega
        · intro h; omega
    · rw [if_neg gl]
      by_cases gd : oDig (T q) = true
      · rw [if_pos gd]
        have w1 := oNm_b (T := T) (e - q) q 0 (by omega)
        have w4 : q < (oNm T (e - q) q 0).1 := by
          obtain ⟨d, hd⟩ : ∃ d, e - q = d + 1 := ⟨e - q - 1, by omega⟩
          rw [hd]; unfold oNm; rw [if_pos gd]
          have := oNm_b (T := T) d (q + 1) (min 1000000 (0 * 10 + T q - 48)) (by omega)
          omega
        exact ⟨by show q ≤ e; omega, by show (oNm T (e - q) q 0).1 ≤ e; omega, by show i ≤ (oNm T (e - q) q 0).1; omega, fun _ => by show i < (oNm T (e - q) q 0).1; omega, by show 2 < 47; omega, fun _ => ⟨_, w1.1, rfl⟩⟩
      · rw [if_neg gd]
        have w1 : q < (oMr T e q).1 ∧ (oMr T e q).1 ≤ e ∧ (oMr T e q).2 < 47 ∧ (oMr T e q).2 ≠ 2 := by
          unfold oMr
          split
          · by_cases gn : q + 1 < e
            · rw [if_pos gn]
              have hb := oCp_b (a := T q) (b := T (q + 1))
              simp only
              split
              · exact ⟨by show q < q + 1; omega, by show q + 1 ≤ e; omega, by show _ < 47; omega, by show ¬ _ = 2; omega⟩
              · exact ⟨by show q < q + 2; omega, by show q + 2 ≤ e; omega, by show _ < 47; omega, by show ¬ _ = 2; omega⟩
            · rw [if_neg gn]
              have hb : oCp (T q) 32 = 7 ∨ oCp (T q) 32 = 12 := by unfold oCp; by_cases q62 : T q = 62 <;> simp [q62]
              simp only
              rw [if_pos hb]
              exact ⟨by show q < q + 1; omega, by show q + 1 ≤ e; omega, by show _ < 47; omega, by show ¬ _ = 2; omega⟩
          · have := oMk_b (b := T q)
            exact ⟨by show q < q + 1; omega, by show q + 1 ≤ e; omega, this.1, this.2.2⟩
        exact ⟨by show q ≤ e; omega, w1.2.1, by show i ≤ (oMr T e q).1; omega, fun _ => by show i < (oMr T e q).1; omega, w1.2.2.1, fun h => absurd h w1.2.2.2⟩
theorem tOk_nx (h : tOk E t) : tOk E (tNx E t) := by
  obtain ⟨h1, h2, h3, h4, h5, h6⟩ := oTc_ok (W := E.1) (T := E.2.1) (e := E.2.2) h.2.1
  exact ⟨h1, h2, h5, h6⟩
theorem tNx_end (h : tOk E t) : t.2.1 ≤ (tNx E t).2.1 ∧ (tKd (tNx E t) ≠ 0 → t.2.1 < (tNx E t).2.1) := by
  obtain ⟨h1, h2, h3, h4, h5, h6⟩ := oTc_ok (W := E.1) (T := E.2.1) (e := E.2.2) h.2.1
  exact ⟨h3, h4⟩
set_option maxRecDepth 20000 in
theorem cl_adv (hE : zEc J E) (ht : tOk E t) (hQ : Q none (SH, zTs J (tNx E t), L, RF p s r)) : zXM w mX7_advance rX7_advance [.ref 1] (SH, zTs J t, L, RF p s r) Q := by
  obtain ⟨e1, e2, e3, e4⟩ := hE
  obtain ⟨d, hd⟩ : ∃ d, E.2.2 = t.2.1 + d := ⟨E.2.2 - t.2.1, by have := ht.2.1; omega⟩
  refine cl_tkAdvance (W := E.1) (T := E.2.1) d t.2.1 (zTs J t) (by rw [zTs_o (by simp)]; exact e2) (by rw [zTs_13, e1, hd]) zTs_14 (by omega) (fun k hk => by rw [zTs_o (by simp)]; exact e4 k (by omega)) (fun I' k' g5 g4 g6 g7 => ?_)
  rw [← hd] at g5 g4 g6 g7
  rw [zTs_eq (u := tNx E t) k' g5 g4 g6 g7]
  exact hQ
set_option maxRecDepth 20000 in
theorem mo_tok (hE : zEr J E) (ht : tOk E t) (hQ : ∀ kd' wh', tRel (tKd (tNx E t)) (tVl (tNx E t)) kd' wh' → Q none (SH, zTq J (tNx E t) kd' wh', L, RF p s r)) : zXM w mX10_token rX10_token [.ref 87] (SH, zTq J t kd wh, L, RF p s r) Q := by
  obtain ⟨e1, e2, e3, e4, e5⟩ := hE
  obtain ⟨d, hd⟩ : ∃ d, E.2.2 = t.2.1 + d := ⟨E.2.2 - t.2.1, by have := ht.2.1; omega⟩
  refine mo_token (W := E.1) (T := E.2.1) d t.2.1 (zTq J t kd wh) (fun k hk => by rw [zTq_o (by simp)]; exact e2 k hk) e3 (by rw [zTq_k (by simp) (by simp) (by simp) (by simp), e1, hd]) zTq_7 (by omega) (fun k hk => by rw [zTq_o (by simp)]; exact e5 k (by omega)) (fun I' k' g10 g7 gr => ?_)
  rw [← hd] at g10 g7 gr
  rw [zTq_eq (u := tNx E t) k' g10 g7]
  exact hQ _ _ gr
end ZN98q
end

section
/-! ===== TEXT: a draft of a plan; lines as pure functions; the class's helpers ===== -/
abbrev oF : Type := Nat × Nat
/-- rows, laws told, from, to, sets told, how many places, comes, skies, bands, signs, knots -/
abbrev oDf : Type := (Nat → Nat → Int32) × (Nat → Bool) × (Nat → Nat) × (Nat → Nat) × (Nat → Bool) × Nat × Nat × Nat × Nat × Nat × Nat
abbrev dR (D : oDf) : Nat → Nat → Int32 := D.1
abbrev dTold (D : oDf) : Nat → Bool := D.2.1
abbrev dF (D : oDf) : Nat → Nat := D.2.2.1
abbrev dT (D : oDf) : Nat → Nat := D.2.2.2.1
abbrev dSt (D : oDf) : Nat → Bool := D.2.2.2.2.1
abbrev dNp (D : oDf) : Nat := D.2.2.2.2.2.1
abbrev dNc (D : oDf) : Nat := D.2.2.2.2.2.2.1
abbrev dNs (D : oDf) : Nat := D.2.2.2.2.2.2.2.1
abbrev dNb (D : oDf) : Nat := D.2.2.2.2.2.2.2.2.1
abbrev dNg (D : oDf) : Nat := D.2.2.2.2.2.2.2.2.2.1
abbrev dNk (D : oDf) : Nat := D.2.2.2.2.2.2.2.2.2.2
/-- where the reference keeps the class's sets -/
def sIx (j : Nat) : Nat := ([5, 1, 6, 7, 8, 9, 10] : List Nat).getD j 0
def sLo (j : Nat) : Nat := ([0, 0, 0, 1, 1, 0, 0] : List Nat).getD j 0
def sHi (j : Nat) : Nat := ([99, 40, 99, 40, 9, 99, 99999] : List Nat).getD j 0
/-- the sky that is told for a tick; -1: none -/
def oSkD (tk kd : Nat → Int32) : Nat → Nat → Int32
  | 0, _ => -1
  | n + 1, k => if tk n = nI k then kd n else oSkD tk kd n k
def dPlace (D : oDf) (nm : Int32) (v f : Nat) (td : Int32) : oDf := (zu (zu (zu (zu (dR D) 90 (dNp D) nm) 91 (dNp D) (nI v)) 92 (dNp D) (nI f)) 93 (dNp D) td, dTold D, dF D, dT D, dSt D, dNp D + 1, dNc D, dNs D, dNb D, dNg D, dNk D)
def dCome (D : oDf) (x y : Nat) : oDf := (zu (zu (dR D) 94 (dNc D) (nI x)) 95 (dNc D) (nI y), dTold D, dF D, dT D, dSt D, dNp D, dNc D + 1, dNs D, dNb D, dNg D, dNk D)
def dSky (D : oDf) (x y : Nat) : oDf := (zu (zu (dR D) 96 (dNs D) (nI x)) 97 (dNs D) (nI y), dTold D, dF D, dT D, dSt D, dNp D, dNc D, dNs D + 1, dNb D, dNg D, dNk D)
def dBand (D : oDf) (q x y : Nat) : oDf := (zu (zu (zu (dR D) 98 (dNb D) (nI q)) 99 (dNb D) (nI x)) 100 (dNb D) (nI y), dTold D, dF D, dT D, dSt D, dNp D, dNc D, dNs D, dNb D + 1, dNg D, dNk D)
def dSign (D : oDf) (nm : Int32) : oDf := (zu (dR D) 101 (dNg D) nm, dTold D, dF D, dT D, dSt D, dNp D, dNc D, dNs D, dNb D, dNg D + 1, dNk D)
def dSet (D : oDf) (j v : Nat) : oDf := (zu (dR D) 102 (sIx j) (nI v), dTold D, dF D, dT D, fun i => if i = j then true else dSt D i, dNp D, dNc D, dNs D, dNb D, dNg D, dNk D)
def gN (lo hi : Nat) (t : oTk) : oF ⊕ Nat := if tKd t = 2 then (if lo ≤ (tVl t).toNatClampNeg ∧ (tVl t).toNatClampNeg ≤ hi then .inr (tVl t).toNatClampNeg else .inl (2, tAt t)) else .inl (1, tAt t)
def gPlace (E : oEn) (D : oDf) (t : oTk) : oF ⊕ (oTk × oDf) :=
  if dNp D = 5 then .inl (2, tAt t) else
  if tKd (tNx E t) = 3 then
    if oFnd (dR D 90) (dNp D) (tVl (tNx E t)) = -1 then
      match gN 0 99 (tNx E (tNx E t)) with
      | .inl f => .inl f
      | .inr v => match gN 0 99 (tNx E (tNx E (tNx E t))) with
        | .inl f => .inl f
        | .inr x => if tKd (tNx E (tNx E (tNx E (tNx E t)))) = 35 then
            match gN 0 95 (tNx E (tNx E (tNx E (tNx E (tNx E t))))) with
            | .inl f => .inl f
            | .inr y => .inr (tNx E (tNx E (tNx E (tNx E (tNx E (tNx E t))))), dPlace D (tVl (tNx E t)) v x (nI y))
          else .inr (tNx E (tNx E (tNx E (tNx E t))), dPlace D (tVl (tNx E t)) v x (-1))
    else .inl (3, tAt (tNx E t))
  else .inl (1, tAt (tNx E t))
def gCome (E : oEn) (D : oDf) (t : oTk) : oF ⊕ (oTk × oDf) :=
  if dNc D = 16 then .inl (2, tAt t) else
  match gN 0 95 (tNx E t) with
  | .inl f => .inl f
  | .inr x => match gN 1 20 (tNx E (tNx E t)) with
    | .inl f => .inl f
    | .inr y => .inr (tNx E (tNx E (tNx E t)), dCome D x y)
def gSky (E : oEn) (D : oDf) (t : oTk) : oF ⊕ (oTk × oDf) :=
  if dNs D = 12 then .inl (2, tAt t) else
  match gN 0 95 (tNx E t) with
  | .inl f => .inl f
  | .inr x => if oSkD (dR D 96) (dR D 97) (dNs D) x = -1 then
      match gN 0 2 (tNx E (tNx E t)) with
      | .inl f => .inl f
      | .inr y => .inr (tNx E (tNx E (tNx E t)), dSky D x y)
    else .inl (3, tAt (tNx E t))
def gBand (E : oEn) (D : oDf) (t : oTk) : oF ⊕ (oTk × oDf) :=
  if dNb D = 2 then .inl (2, tAt t) else
  if tKd (tNx E t) = 3 then
    if oFnd (dR D 90) (dNp D) (tVl (tNx E t)) = -1 then .inl (4, tAt (tNx E t)) else
    match gN 0 95 (tNx E (tNx E t)) with
    | .inl f => .inl f
    | .inr x => match gN x 95 (tNx E (tNx E (tNx E t))) with
      | .inl f => .inl f
      | .inr y => .inr (tNx E (tNx E (tNx E (tNx E t))), dBand D (oFnd (dR D 90) (dNp D) (tVl (tNx E t))).toNatClampNeg x y)
  else .inl (1, tAt (tNx E t))
def gSign (E : oEn) (D : oDf) (t : oTk) : oF ⊕ (oTk × oDf) :=
  if dNg D = 4 then .inl (2, tAt t) else
  if tKd (tNx E t) = 3 then
    if oFnd (dR D 101) (dNg D) (tVl (tNx E t)) = -1 then .inr (tNx E (tNx E t), dSign D (tVl (tNx E t)))
    else .inl (3, tAt (tNx E t))
  else .inl (1, tAt (tNx E t))
def gSet (E : oEn) (D : oDf) (j : Nat) (t : oTk) : oF ⊕ (oTk × oDf) :=
  if dSt D j = true then .inl (3, tAt t) else
  match gN (sLo j) (sHi j) (tNx E t) with
  | .inl f => .inl f
  | .inr v => .inr (tNx E (tNx E t), dSet D j v)
/-- what the reading of a text may change in the class, tokens aside -/
def SPs (s i k : Nat) : Prop := (i = 4 ∧ 4 ≤ k) ∨ (5 ≤ i ∧ i ≤ 7) ∨ (s ≤ i ∧ i ≤ s + 15)
/-- the class's draft -/
def zDc (J : Nat → Nat → Int32) (s : Nat) (D : oDf) : Prop :=
  (J s 0 = nI (dNp D) ∧ J s 5 = nI (dNc D) ∧ J s 9 = nI (dNb D) ∧ J s 14 = nI (dNg D) ∧ J s 16 = nI (dNk D) ∧ J 4 6 = nI (dNk D) ∧ J 4 7 = nI (dNs D)) ∧
  (∀ k, k < dNp D → J (s + 1) k = dR D 90 k ∧ J (s + 2) k = dR D 91 k ∧ J (s + 3) k = dR D 92 k ∧ J (s + 4) k = dR D 93 k) ∧
  (∀ k, k < dNc D → J (s + 5) k = dR D 94 k ∧ J (s + 6) k = dR D 95 k) ∧
  (∀ k, k < 96 → J (s + 7) k = oSkD (dR D 96) (dR D 97) (dNs D) k) ∧
  (∀ k, k < dNb D → J (s + 8) k = dR D 98 k ∧ J (s + 9) k = dR D 99 k ∧ J (s + 10) k = dR D 100 k) ∧
  (∀ j, j < 7 → J (s + 11) j = dR D 102 (sIx j)) ∧
  (∀ k, k < dNg D → J (s + 12) k = dR D 101 k) ∧
  (∀ i, i < dNk D → J (s + 13) i = jEnc (dR D 107 i) (dR D 108 i)) ∧
  (∀ h, h < 3 → J (s + 14) h = (if dTold D h = true then nI (dF D h) else -1) ∧ (dTold D h = true → J (s + 15) h = nI (dT D h))) ∧
  (∀ j, j < 7 → J 5 j = zb1 (dSt D j))
/-- a draft's bounds -/
def DOk (D : oDf) : Prop := (dNp D ≤ 5 ∧ dNc D ≤ 16 ∧ dNs D ≤ 12 ∧ dNb D ≤ 2 ∧ dNg D ≤ 4 ∧ dNk D ≤ 64) ∧
  (∀ k, k < dNp D → dR D 93 k = -1 ∨ ∃ n, n < 96 ∧ dR D 93 k = nI n) ∧
  (∀ k, k < dNc D → ∃ n, n ≤ 20 ∧ dR D 95 k = nI n) ∧
  (∀ k, k < dNs D → (∃ n x, n < 96 ∧ x ≤ 2 ∧ dR D 96 k = nI n ∧ dR D 97 k = nI x) ∧ ∀ j, j < k → ¬ dR D 96 j = dR D 96 k) ∧
  (∀ j, j < 7 → ∃ v, sLo j ≤ v ∧ v ≤ sHi j ∧ dR D 102 (sIx j) = nI v) ∧
  (∀ h, h < 3 → dTold D h = true → dF D h < dT D h ∧ dT D h ≤ dNk D ∧ jPos (dR D 107) (dR D 108) (dR D 109) (dF D h) (dT D h - dF D h) = some [dT D h - 1] ∧ ∀ i, dF D h ≤ i → i < dT D h → ∃ k, k ≤ 14 ∧ dR D 107 i = nI k ∧ (k = 0 → ∃ n, n ≤ 9999 ∧ dR D 108 i = nI n) ∧ (k = 1 → ∃ n, n < 8 ∧ dR D 108 i = nI n))
section ZN98r
variable {w : zP} {Q : Option Value → zMem → Prop} {μ : zMem} {I J : Nat → Nat → Int32} {L K : Nat → Nat → Int64} {p s : Nat} {r : Option Nat} {a b c i j k n e m lo hi : Nat} {x y v : Int32} {E : oEn} {t u : oTk} {D : oDf}
theorem zpn_0 (h : zPc s) : (s = 0) = False := by rcases h with rfl | rfl <;> simp
theorem zpn_1 (h : zPc s) : (s = 1) = False := by rcases h with rfl | rfl <;> simp
theorem zpn_2 (h : zPc s) : (s = 2) = False := by rcases h with rfl | rfl <;> simp
theorem zpn_3 (h : zPc s) : (s = 3) = False := by rcases h with rfl | rfl <;> simp
theorem zpn_4 (h : zPc s) : (s = 4) = False := by rcases h with rfl | rfl <;> simp
theorem zpn_5 (h : zPc s) : (s = 5) = False := by rcases h with rfl | rfl <;> simp
theorem zpn_6 (h : zPc s) : (s = 6) = False := by rcases h with rfl | rfl <;> simp
theorem zpn_7 (h : zPc s) : (s = 7) = False := by rcases h with rfl | rfl <;> simp
theorem zEc_k (hs : zPc s) (h : zKpt (SPs s) J I) (hE : zEc J E) : zEc I E := by
  obtain ⟨e1, e2, e3, e4⟩ := hE
  have hn : ∀ i k, i < 4 → ¬ SPs s i k := fun i k hi => by
    unfold SPs; rcases hs with rfl | rfl <;> omega
  refine ⟨by rw [h 1 3 (hn _ _ (by omega))]; exact e1, ?_, e3, fun k hk => by rw [h 2 k (hn _ _ (by omega))]; exact e4 k hk⟩
  rw [← e2]; funext k; exact h 3 k (hn _ _ (by omega))
theorem gN_inr (ht : tOk E t) (h : gN lo hi t = .inr n) : lo ≤ n ∧ n ≤ hi ∧ tVl t = nI n ∧ tKd t = 2 ∧ n ≤ 1000000 := by
  unfold gN at h
  split at h
  · rename_i h2
    obtain ⟨m, hm, e⟩ := ht.2.2.2 h2
    split at h
    · rename_i h3
      cases h
      have e2 : (tVl t).toNatClampNeg = m := by show t.2.2.2.toNatClampNeg = m; rw [e, nI_clamp (by omega)]
      exact ⟨h3.1, h3.2, by show t.2.2.2 = _; rw [e2, e], h2, by omega⟩
    · cases h
  · cases h
set_option maxRecDepth 20000 in
theorem cl_fail (hQ : Q (some (.int 0)) (SH, zTs (zu (zu J 4 10 x) 4 11 (nI (tAt t))) t, L, RF p s r)) : zXM w mX5_fail rX5_fail [.ref 4, .int x] (SH, zTs J t, L, RF p s r) Q := by
  unfold zXM
  refine zBlkR (M := mX5_fail) (nL := 2) (rt := (Option.some .boolean)) (blk := bX5_fail_0) (T := []) 0 hX5_fail_0 zChks_nil rfl rfl rfl (Nat.le_of_ble_eq_true rfl) (Nat.le_of_ble_eq_true rfl) ?_
  simp (implicitDefEqProofs := false) only [bX5_fail_0, zRun_cons, zRun_nil, zLk, zSto, zIns, zFil, zf0, zf1, zf2, zf3, List.filter_cons, List.filter_nil, Nat.reduceAdd, Nat.reduceEqDiff, Nat.reduceLT, Nat.reduceLeDiff, Nat.reduceBEq, Nat.reduceBNe, reduceIte, if_true, if_false, Bool.false_and, Bool.true_and, Bool.and_true, Bool.and_false, Bool.not_false, Bool.not_true, Bool.false_eq_true, beq_self_eq_true, BEq.rfl, zCat1, zCat2, zCat3, zKdI, zKdL, zKdR, true_and, and_true, zSI, zSL, zSR, zu_at, and_self, and_false, false_and, lv_args, zKdZ, zKdO, zB01, zB11, Option.toList_none, Option.toList_some, List.nil_append, List.cons_append, true_or, or_true, zRow_rd, zu_rd, zo_aload_n, zo_iload_n, zo_putfield, zo_putfield_2, zo_putfield_3, zo_getfield, zo_iconst, zo_ireturn, zi_0, zKd_5_10, zTy_5_10, zKd_5_0, zKd_7_5, zKd_5_11, zTy_5_11, sh_4, rf_4_0, sh_1, zcl_0, zRt, zPutC, zKn_0, zTs_12, zTs_13, zTs_14, zTs_15, zTs_16, zTs_17, zTs_o, zTs_u, zN10, zN01, not_true_eq_false, not_false_eq_true, false_implies, true_implies, implies_true, eq_self, nI_1, nI_40, nI_7, vz0, vz1, zb1_e0, zb1_n0]
  exact hQ
set_option maxRecDepth 20000 in
theorem cl_pass (hE : zEc J E) (ht : tOk E t) (hk : k < 47) (h1 : tKd t ≠ k → Q (some (.int 0)) (SH, zTs (zu (zu J 4 10 1) 4 11 (nI (tAt t))) t, L, RF p s r)) (h2 : tKd t = k → Q (some (.int 1)) (SH, zTs J (tNx E t), L, RF p s r)) : zXM w mX5_pass rX5_pass [.ref 4, .int (nI k)] (SH, zTs J t, L, RF p s r) Q := by
  unfold zXM
  have hkd := ht.2.2.1
  have hx : (nI t.2.2.1 = nI k) = (t.2.2.1 = k) := zeq_nat (by omega) (by omega)
  by_cases h : t.2.2.1 = k
  · have hx2 : (t.2.2.1 = k) = True := eq_true h
    refine zBlkR (M := mX5_pass) (nL := 2) (rt := (Option.some .boolean)) (blk := bX5_pass_0) (T := [(17, bX5_pass_17)]) 1 hX5_pass_0 (zChks_cons hX5_pass_17 zChks_nil) rfl rfl rfl (Nat.le_of_ble_eq_true rfl) (Nat.le_of_ble_eq_true rfl) ?_
    simp (implicitDefEqProofs := false) only [bX5_pass_0, bX5_pass_17, zRun_cons, zRun_nil, zLk, zSto, zIns, zFil, zf0, zf1, zf2, zf3, List.filter_cons, List.filter_nil, Nat.reduceAdd, Nat.reduceEqDiff, Nat.reduceLT, Nat.reduceLeDiff, Nat.reduceBEq, Nat.reduceBNe, reduceIte, if_true, if_false, Bool.false_and, Bool.true_and, Bool.and_true, Bool.and_false, Bool.not_false, Bool.not_true, Bool.false_eq_true, beq_self_eq_true, BEq.rfl, zCat1, zCat2, zCat3, zKdI, zKdL, zKdR, true_and, and_true, zSI, zSL, zSR, zu_at, and_self, and_false, false_and, lv_args, zKdZ, zKdO, zB01, zB11, Option.toList_none, Option.toList_some, List.nil_append, List.cons_append, true_or, or_true, zRow_rd, zu_rd, zo_aload_n, zo_getfield, zo_iload_n, zo_icmp_eq, zo_iconst, zi_1, zKd_5_0, zKd_7_6, sh_4, rf_4_0, sh_1, zcl_1, zKn_s, zKn_0, zFind, zTs_12, zTs_13, zTs_14, zTs_15, zTs_16, zTs_17, zTs_o, zTs_u, hx, hx2, zN10, zN01, not_true_eq_false, not_false_eq_true, false_implies, true_implies, implies_true, eq_self, nI_1, nI_40, nI_7, vz0, vz1, zb1_e0, zb1_n0]
    refine z_cV0 (M' := mX7_advance) (R' := rX7_advance) (i := 1) [] [] eX7_advance k5_81 (by decide +kernel : decode cX5_pass 21 = .ok (.invokevirtual 81, 3)) (Nat.le_of_ble_eq_true rfl) ⟨Nat.le_of_ble_eq_true rfl, Nat.le_of_ble_eq_true rfl, Nat.le_of_ble_eq_true rfl, Nat.le_of_ble_eq_true rfl, Nat.le_of_ble_eq_true rfl⟩ rfl rfl rfl sh_1 ?_
    refine cl_adv hE ht ?_
    refine zBlkR (M := mX5_pass) (nL := 2) (rt := (Option.some .boolean)) (blk := bX5_pass_24) (T := []) 0 hX5_pass_24 zChks_nil rfl rfl rfl (Nat.le_of_ble_eq_true rfl) (Nat.le_of_ble_eq_true rfl) ?_
    simp (implicitDefEqProofs := false) only [bX5_pass_24, zRun_cons, zRun_nil, zLk, zSto, zIns, zFil, zf0, zf1, zf2, zf3, List.filter_cons, List.filter_nil, Nat.reduceAdd, Nat.reduceEqDiff, Nat.reduceLT, Nat.reduceLeDiff, Nat.reduceBEq, Nat.reduceBNe, reduceIte, if_true, if_false, Bool.false_and, Bool.true_and, Bool.and_true, Bool.and_false, Bool.not_false, Bool.not_true, Bool.false_eq_true, beq_self_eq_true, BEq.rfl, zCat1, zCat2, zCat3, zKdI, zKdL, zKdR, true_and, and_true, zSI, zSL, zSR, zu_at, and_self, and_false, false_and, lv_args, zKdZ, zKdO, zB01, zB11, Option.toList_none, Option.toList_some, List.nil_append, List.cons_append, true_or, or_true, zRow_rd, zu_rd, zo_iconst, zo_ireturn, zi_1, zcl_1, zRt, zKn_0, zN10, zN01, not_true_eq_false, not_false_eq_true, false_implies, true_implies, implies_true, eq_self, nI_1, nI_40, nI_7, vz0, vz1, zb1_e0, zb1_n0]
    exact h2 h
  · have hx2 : (t.2.2.1 = k) = False := eq_false h
    refine zBlkR (M := mX5_pass) (nL := 2) (rt := (Option.some .boolean)) (blk := bX5_pass_0) (T := [(17, bX5_pass_17)]) 1 hX5_pass_0 (zChks_cons hX5_pass_17 zChks_nil) rfl rfl rfl (Nat.le_of_ble_eq_true rfl) (Nat.le_of_ble_eq_true rfl) ?_
    simp (implicitDefEqProofs := false) only [bX5_pass_0, bX5_pass_17, zRun_cons, zRun_nil, zLk, zSto, zIns, zFil, zf0, zf1, zf2, zf3, List.filter_cons, List.filter_nil, Nat.reduceAdd, Nat.reduceEqDiff, Nat.reduceLT, Nat.reduceLeDiff, Nat.reduceBEq, Nat.reduceBNe, reduceIte, if_true, if_false, Bool.false_and, Bool.true_and, Bool.and_true, Bool.and_false, Bool.not_false, Bool.not_true, Bool.false_eq_true, beq_self_eq_true, BEq.rfl, zCat1, zCat2, zCat3, zKdI, zKdL, zKdR, true_and, and_true, zSI, zSL, zSR, zu_at, and_self, and_false, false_and, lv_args, zKdZ, zKdO, zB01, zB11, Option.toList_none, Option.toList_some, List.nil_append, List.cons_append, true_or, or_true, zRow_rd, zu_rd, zo_aload_n, zo_getfield, zo_iload_n, zo_icmp_eq, zo_iconst, zi_1, zKd_5_0, zKd_7_6, sh_4, rf_4_0, sh_1, zcl_1, zKn_s, zKn_0, zFind, zTs_12, zTs_13, zTs_14, zTs_15, zTs_16, zTs_17, zTs_o, zTs_u, hx, hx2, zN10, zN01, not_true_eq_false, not_false_eq_true, false_implies, true_implies, implies_true, eq_self, nI_1, nI_40, nI_7, vz0, vz1, zb1_e0, zb1_n0]
    refine z_cV0 (M' := mX5_fail) (R' := rX5_fail) (i := 4) [.int 1] [] eX5_fail k5_78 (by decide +kernel : decode cX5_pass 13 = .ok (.invokevirtual 78, 3)) (Nat.le_of_ble_eq_true rfl) ⟨Nat.le_of_ble_eq_true rfl, Nat.le_of_ble_eq_true rfl, Nat.le_of_ble_eq_true rfl, Nat.le_of_ble_eq_true rfl, Nat.le_of_ble_eq_true rfl⟩ rfl rfl rfl sh_4 ?_
    refine cl_fail ?_
    refine zBlkR (M := mX5_pass) (nL := 2) (rt := (Option.some .boolean)) (blk := bX5_pass_16) (T := []) 0 hX5_pass_16 zChks_nil rfl rfl rfl (Nat.le_of_ble_eq_true rfl) (Nat.le_of_ble_eq_true rfl) ?_
    simp (implicitDefEqProofs := false) only [bX5_pass_16, zRun_cons, zRun_nil, zLk, zSto, zIns, zFil, zf0, zf1, zf2, zf3, List.filter_cons, List.filter_nil, Nat.reduceAdd, Nat.reduceEqDiff, Nat.reduceLT, Nat.reduceLeDiff, Nat.reduceBEq, Nat.reduceBNe, reduceIte, if_true, if_false, Bool.false_and, Bool.true_and, Bool.and_true, Bool.and_false, Bool.not_false, Bool.not_true, Bool.false_eq_true, beq_self_eq_true, BEq.rfl, zCat1, zCat2, zCat3, zKdI, zKdL, zKdR, true_and, and_true, zSI, zSL, zSR, zu_at, and_self, and_false, false_and, lv_args, zKdZ, zKdO, zB01, zB11, Option.toList_none, Option.toList_some, List.nil_append, List.cons_append, true_or, or_true, zRow_rd, zu_rd, zo_ireturn, zRt, zKn_0, zN10, zN01, not_true_eq_false, not_false_eq_true, false_implies, true_implies, implies_true, eq_self, nI_1, nI_40, nI_7, vz0, vz1, zb1_e0, zb1_n0]
    exact h1 h
set_option maxRecDepth 20000 in
theorem cl_passWord (hE : zEc J E) (ht : tOk E t) (hn : n < 2 ^ 31) (hm : m < 2 ^ 31) (h1 : m ≤ n → Q (some (.int 0)) (SH, zTs (zu (zu J 4 10 2) 4 11 (nI (tAt t))) t, L, RF p s r)) (h2 : n < m → Q (some (.int 1)) (SH, zTs J (tNx E t), L, RF p s r)) : zXM w mX5_passWord rX5_passWord [.ref 4, .int (nI n), .int (nI m)] (SH, zTs J t, L, RF p s r) Q := by
  unfold zXM
  have hx : (nI n < nI m) = (n < m) := zlt_nat hn hm
  by_cases h : n < m
  · have hx2 : (n < m) = True := eq_true h
    refine zBlkR (M := mX5_passWord) (nL := 3) (rt := (Option.some .boolean)) (blk := bX5_passWord_0) (T := [(11, bX5_passWord_11)]) 1 hX5_passWord_0 (zChks_cons hX5_passWord_11 zChks_nil) rfl rfl rfl (Nat.le_of_ble_eq_true rfl) (Nat.le_of_ble_eq_true rfl) ?_
    simp (implicitDefEqProofs := false) only [bX5_passWord_0, bX5_passWord_11, zRun_cons, zRun_nil, zLk, zSto, zIns, zFil, zf0, zf1, zf2, zf3, List.filter_cons, List.filter_nil, Nat.reduceAdd, Nat.reduceEqDiff, Nat.reduceLT, Nat.reduceLeDiff, Nat.reduceBEq, Nat.reduceBNe, reduceIte, if_true, if_false, Bool.false_and, Bool.true_and, Bool.and_true, Bool.and_false, Bool.not_false, Bool.not_true, Bool.false_eq_true, beq_self_eq_true, BEq.rfl, zCat1, zCat2, zCat3, zKdI, zKdL, zKdR, true_and, and_true, zSI, zSL, zSR, zu_at, and_self, and_false, false_and, lv_args, zKdZ, zKdO, zB01, zB11, Option.toList_none, Option.toList_some, List.nil_append, List.cons_append, true_or, or_true, zRow_rd, zu_rd, zo_iload_n, zo_icmp_lt, zo_aload_n, zo_iconst, zo_getfield, zi_2, zKd_5_0, zcl_2, sh_4, rf_4_0, sh_1, zKn_s, zKn_0, zFind, zTs_12, zTs_13, zTs_14, zTs_15, zTs_16, zTs_17, zTs_o, zTs_u, hx, hx2, zN10, zN01, not_true_eq_false, not_false_eq_true, false_implies, true_implies, implies_true, eq_self, nI_1, nI_40, nI_7, vz0, vz1, zb1_e0, zb1_n0]
    refine z_cV0 (M' := mX7_advance) (R' := rX7_advance) (i := 1) [] [] eX7_advance k5_81 (by decide +kernel : decode cX5_passWord 15 = .ok (.invokevirtual 81, 3)) (Nat.le_of_ble_eq_true rfl) ⟨Nat.le_of_ble_eq_true rfl, Nat.le_of_ble_eq_true rfl, Nat.le_of_ble_eq_true rfl, Nat.le_of_ble_eq_true rfl, Nat.le_of_ble_eq_true rfl⟩ rfl rfl rfl sh_1 ?_
    refine cl_adv hE ht ?_
    refine zBlkR (M := mX5_passWord) (nL := 3) (rt := (Option.some .boolean)) (blk := bX5_passWord_18) (T := []) 0 hX5_passWord_18 zChks_nil rfl rfl rfl (Nat.le_of_ble_eq_true rfl) (Nat.le_of_ble_eq_true rfl) ?_
    simp (implicitDefEqProofs := false) only [bX5_passWord_18, zRun_cons, zRun_nil, zLk, zSto, zIns, zFil, zf0, zf1, zf2, zf3, List.filter_cons, List.filter_nil, Nat.reduceAdd, Nat.reduceEqDiff, Nat.reduceLT, Nat.reduceLeDiff, Nat.reduceBEq, Nat.reduceBNe, reduceIte, if_true, if_false, Bool.false_and, Bool.true_and, Bool.and_true, Bool.and_false, Bool.not_false, Bool.not_true, Bool.false_eq_true, beq_self_eq_true, BEq.rfl, zCat1, zCat2, zCat3, zKdI, zKdL, zKdR, true_and, and_true, zSI, zSL, zSR, zu_at, and_self, and_false, false_and, lv_args, zKdZ, zKdO, zB01, zB11, Option.toList_none, Option.toList_some, List.nil_append, List.cons_append, true_or, or_true, zRow_rd, zu_rd, zo_iconst, zo_ireturn, zi_1, zcl_1, zRt, zKn_0, zN10, zN01, not_true_eq_false, not_false_eq_true, false_implies, true_implies, implies_true, eq_self, nI_1, nI_40, nI_7, vz0, vz1, zb1_e0, zb1_n0]
    exact h2 h
  · have hx2 : (n < m) = False := eq_false h
    refine zBlkR (M := mX5_passWord) (nL := 3) (rt := (Option.some .boolean)) (blk := bX5_passWord_0) (T := [(11, bX5_passWord_11)]) 1 hX5_passWord_0 (zChks_cons hX5_passWord_11 zChks_nil) rfl rfl rfl (Nat.le_of_ble_eq_true rfl) (Nat.le_of_ble_eq_true rfl) ?_
    simp (implicitDefEqProofs := false) only [bX5_passWord_0, bX5_passWord_11, zRun_cons, zRun_nil, zLk, zSto, zIns, zFil, zf0, zf1, zf2, zf3, List.filter_cons, List.filter_nil, Nat.reduceAdd, Nat.reduceEqDiff, Nat.reduceLT, Nat.reduceLeDiff, Nat.reduceBEq, Nat.reduceBNe, reduceIte, if_true, if_false, Bool.false_and, Bool.true_and, Bool.and_true, Bool.and_false, Bool.not_false, Bool.not_true, Bool.false_eq_true, beq_self_eq_true, BEq.rfl, zCat1, zCat2, zCat3, zKdI, zKdL, zKdR, true_and, and_true, zSI, zSL, zSR, zu_at, and_self, and_false, false_and, lv_args, zKdZ, zKdO, zB01, zB11, Option.toList_none, Option.toList_some, List.nil_append, List.cons_append, true_or, or_true, zRow_rd, zu_rd, zo_iload_n, zo_icmp_lt, zo_aload_n, zo_iconst, zo_getfield, zi_2, zKd_5_0, zcl_2, sh_4, rf_4_0, sh_1, zKn_s, zKn_0, zFind, zTs_12, zTs_13, zTs_14, zTs_15, zTs_16, zTs_17, zTs_o, zTs_u, hx, hx2, zN10, zN01, not_true_eq_false, not_false_eq_true, false_implies, true_implies, implies_true, eq_self, nI_1, nI_40, nI_7, vz0, vz1, zb1_e0, zb1_n0]
    refine z_cV0 (M' := mX5_fail) (R' := rX5_fail) (i := 4) [.int 2] [] eX5_fail k5_78 (by decide +kernel : decode cX5_passWord 7 = .ok (.invokevirtual 78, 3)) (Nat.le_of_ble_eq_true rfl) ⟨Nat.le_of_ble_eq_true rfl, Nat.le_of_ble_eq_true rfl, Nat.le_of_ble_eq_true rfl, Nat.le_of_ble_eq_true rfl, Nat.le_of_ble_eq_true rfl⟩ rfl rfl rfl sh_4 ?_
    refine cl_fail ?_
    refine zBlkR (M := mX5_passWord) (nL := 3) (rt := (Option.some .boolean)) (blk := bX5_passWord_10) (T := []) 0 hX5_passWord_10 zChks_nil rfl rfl rfl (Nat.le_of_ble_eq_true rfl) (Nat.le_of_ble_eq_true rfl) ?_
    simp (implicitDefEqProofs := false) only [bX5_passWord_10, zRun_cons, zRun_nil, zLk, zSto, zIns, zFil, zf0, zf1, zf2, zf3, List.filter_cons, List.filter_nil, Nat.reduceAdd, Nat.reduceEqDiff, Nat.reduceLT, Nat.reduceLeDiff, Nat.reduceBEq, Nat.reduceBNe, reduceIte, if_true, if_false, Bool.false_and, Bool.true_and, Bool.and_true, Bool.and_false, Bool.not_false, Bool.not_true, Bool.false_eq_true, beq_self_eq_true, BEq.rfl, zCat1, zCat2, zCat3, zKdI, zKdL, zKdR, true_and, and_true, zSI, zSL, zSR, zu_at, and_self, and_false, false_and, lv_args, zKdZ, zKdO, zB01, zB11, Option.toList_none, Option.toList_some, List.nil_append, List.cons_append, true_or, or_true, zRow_rd, zu_rd, zo_ireturn, zRt, zKn_0, zN10, zN01, not_true_eq_false, not_false_eq_true, false_implies, true_implies, implies_true, eq_self, nI_1, nI_40, nI_7, vz0, vz1, zb1_e0, zb1_n0]
    exact h1 (by omega)
set_option maxRecDepth 20000 in
theorem cl_number (hE : zEc J E) (ht : tOk E t) (hlo : lo < 2 ^ 31) (hhi : hi < 2 ^ 31) (h1 : ∀ f, gN lo hi t = .inl f → Q (some (.int (-1))) (SH, zTs (zu (zu J 4 10 (nI f.1)) 4 11 (nI f.2)) t, L, RF p s r)) (h2 : ∀ v, gN lo hi t = .inr v → Q (some (.int (nI v))) (SH, zTs J (tNx E t), L, RF p s r)) : zXM w mX5_number rX5_number [.ref 4, .int (nI lo), .int (nI hi)] (SH, zTs J t, L, RF p s r) Q := by
  unfold zXM
  have hkd := ht.2.2.1
  have hx : (nI t.2.2.1 = 2) = (t.2.2.1 = 2) := zeq_nat (b := 2) (by omega) (by omega)
  by_cases h : t.2.2.1 = 2
  · have hx2 : (t.2.2.1 = 2) = True := eq_true h
    obtain ⟨n, hn, e⟩ := ht.2.2.2 h
    have e2 : (tVl t).toNatClampNeg = n := by show t.2.2.2.toNatClampNeg = n; rw [e, nI_clamp (by omega)]
    have hg : gN lo hi t = if lo ≤ n ∧ n ≤ hi then .inr n else .inl (2, tAt t) := by unfold gN; rw [if_pos h, e2]
    have y1 : (nI n < nI lo) = (n < lo) := zlt_nat (by omega) hlo
    have y2 : (nI n ≤ nI hi) = (n ≤ hi) := zle_nat (by omega) hhi
    by_cases g1 : n < lo
    · have y3 : (n < lo) = True := eq_true g1
      rw [if_neg (by omega)] at hg
      refine zBlkR (M := mX5_number) (nL := 4) (rt := (Option.some .int)) (blk := bX5_number_0) (T := [(19, bX5_number_19), (41, bX5_number_41), (49, bX5_number_49)]) 2 hX5_number_0 (zChks_cons hX5_number_19 (zChks_cons hX5_number_41 (zChks_cons hX5_number_49 zChks_nil))) rfl rfl rfl (Nat.le_of_ble_eq_true rfl) (Nat.le_of_ble_eq_true rfl) ?_
      simp (implicitDefEqProofs := false) only [bX5_number_0, bX5_number_19, bX5_number_41, bX5_number_49, zRun_cons, zRun_nil, zLk, zSto, zIns, zFil, zf0, zf1, zf2, zf3, List.filter_cons, List.filter_nil, Nat.reduceAdd, Nat.reduceEqDiff, Nat.reduceLT, Nat.reduceLeDiff, Nat.reduceBEq, Nat.reduceBNe, reduceIte, if_true, if_false, Bool.false_and, Bool.true_and, Bool.and_true, Bool.and_false, Bool.not_false, Bool.not_true, Bool.false_eq_true, beq_self_eq_true, BEq.rfl, zCat1, zCat2, zCat3, zKdI, zKdL, zKdR, true_and, and_true, zSI, zSL, zSR, zu_at, and_self, and_false, false_and, lv_args, zKdZ, zKdO, zB01, zB11, Option.toList_none, Option.toList_some, List.nil_append, List.cons_append, true_or, or_true, zRow_rd, zu_rd, zo_aload_n, zo_getfield, zo_iconst, zo_icmp_eq, zo_iload_n, zo_icmp_lt, zo_icmp_le, zo_istore_n, zi_2, zi_1, zKd_5_0, zKd_7_6, zKd_7_7, sh_4, rf_4_0, sh_1, zcl_2, zcl_1, zKn_s, zKn_0, zFind, zTs_12, zTs_13, zTs_14, zTs_15, zTs_16, zTs_17, zTs_o, zTs_u, hx, hx2, e, y1, y3, zN10, zN01, not_true_eq_false, not_false_eq_true, false_implies, true_implies, implies_true, eq_self, nI_1, nI_40, nI_7, vz0, vz1, zb1_e0, zb1_n0]
      refine z_cV0 (M' := mX5_fail) (R' := rX5_fail) (i := 4) [.int 2] [] eX5_fail k5_78 (by decide +kernel : decode cX5_number 43 = .ok (.invokevirtual 78, 3)) (Nat.le_of_ble_eq_true rfl) ⟨Nat.le_of_ble_eq_true rfl, Nat.le_of_ble_eq_true rfl, Nat.le_of_ble_eq_true rfl, Nat.le_of_ble_eq_true rfl, Nat.le_of_ble_eq_true rfl⟩ rfl rfl rfl sh_4 ?_
      refine cl_fail ?_
      refine zBlkR (M := mX5_number) (nL := 4) (rt := (Option.some .int)) (blk := bX5_number_46) (T := []) 0 hX5_number_46 zChks_nil rfl rfl rfl (Nat.le_of_ble_eq_true rfl) (Nat.le_of_ble_eq_true rfl) ?_
      simp (implicitDefEqProofs := false) only [bX5_number_46, zRun_cons, zRun_nil, zLk, zSto, zIns, zFil, zf0, zf1, zf2, zf3, List.filter_cons, List.filter_nil, Nat.reduceAdd, Nat.reduceEqDiff, Nat.reduceLT, Nat.reduceLeDiff, Nat.reduceBEq, Nat.reduceBNe, reduceIte, if_true, if_false, Bool.false_and, Bool.true_and, Bool.and_true, Bool.and_false, Bool.not_false, Bool.not_true, Bool.false_eq_true, beq_self_eq_true, BEq.rfl, zCat1, zCat2, zCat3, zKdI, zKdL, zKdR, true_and, and_true, zSI, zSL, zSR, zu_at, and_self, and_false, false_and, lv_args, zKdZ, zKdO, zB01, zB11, Option.toList_none, Option.toList_some, List.nil_append, List.cons_append, true_or, or_true, zRow_rd, zu_rd, zo_pop, zo_iconst, zo_ireturn, zi_m1, zRt, zKn_0, zN10, zN01, not_true_eq_false, not_false_eq_true, false_implies, true_implies, implies_true, eq_self, nI_1, nI_40, nI_7, vz0, vz1, zb1_e0, zb1_n0]
      exact h1 _ hg
    · have y3 : (n < lo) = False := eq_false g1
      by_cases g2 : n ≤ hi
      · have y4 : (n ≤ hi) = True := eq_true g2
        rw [if_pos ⟨by omega, g2⟩] at hg
        refine zBlkR (M := mX5_number) (nL := 4) (rt := (Option.some .int)) (blk := bX5_number_0) (T := [(19, bX5_number_19), (41, bX5_number_41), (49, bX5_number_49)]) 2 hX5_number_0 (zChks_cons hX5_number_19 (zChks_cons hX5_number_41 (zChks_cons hX5_number_49 zChks_nil))) rfl rfl rfl (Nat.le_of_ble_eq_true rfl) (Nat.le_of_ble_eq_true rfl) ?_
        simp (implicitDefEqProofs := false) only [bX5_number_0, bX5_number_19, bX5_number_41, bX5_number_49, zRun_cons, zRun_nil, zLk, zSto, zIns, zFil, zf0, zf1, zf2, zf3, List.filter_cons, List.filter_nil, Nat.reduceAdd, Nat.reduceEqDiff, Nat.reduceLT, Nat.reduceLeDiff, Nat.reduceBEq, Nat.reduceBNe, reduceIte, if_true, if_false, Bool.false_and, Bool.true_and, Bool.and_true, Bool.and_false, Bool.not_false, Bool.not_true, Bool.false_eq_true, beq_self_eq_true, BEq.rfl, zCat1, zCat2, zCat3, zKdI, zKdL, zKdR, true_and, and_true, zSI, zSL, zSR, zu_at, and_self, and_false, false_and, lv_args, zKdZ, zKdO, zB01, zB11, Option.toList_none, Option.toList_some, List.nil_append, List.cons_append, true_or, or_true, zRow_rd, zu_rd, zo_aload_n, zo_getfield, zo_iconst, zo_icmp_eq, zo_iload_n, zo_icmp_lt, zo_icmp_le, zo_istore_n, zi_2, zi_1, zKd_5_0, zKd_7_6, zKd_7_7, sh_4, rf_4_0, sh_1, zcl_2, zcl_1, zKn_s, zKn_0, zFind, zTs_12, zTs_13, zTs_14, zTs_15, zTs_16, zTs_17, zTs_o, zTs_u, hx, hx2, e, y1, y3, y2, y4, zN10, zN01, not_true_eq_false, not_false_eq_true, false_implies, true_implies, implies_true, eq_self, nI_1, nI_40, nI_7, vz0, vz1, zb1_e0, zb1_n0]
        refine z_cV0 (M' := mX7_advance) (R' := rX7_advance) (i := 1) [] [] eX7_advance k5_81 (by decide +kernel : decode cX5_number 61 = .ok (.invokevirtual 81, 3)) (Nat.le_of_ble_eq_true rfl) ⟨Nat.le_of_ble_eq_true rfl, Nat.le_of_ble_eq_true rfl, Nat.le_of_ble_eq_true rfl, Nat.le_of_ble_eq_true rfl, Nat.le_of_ble_eq_true rfl⟩ rfl rfl rfl sh_1 ?_
        refine cl_adv hE ht ?_
        refine zBlkR (M := mX5_number) (nL := 4) (rt := (Option.some .int)) (blk := bX5_number_64) (T := []) 0 hX5_number_64 zChks_nil rfl rfl rfl (Nat.le_of_ble_eq_true rfl) (Nat.le_of_ble_eq_true rfl) ?_
        simp (implicitDefEqProofs := false) only [bX5_number_64, zRun_cons, zRun_nil, zLk, zSto, zIns, zFil, zf0, zf1, zf2, zf3, List.filter_cons, List.filter_nil, Nat.reduceAdd, Nat.reduceEqDiff, Nat.reduceLT, Nat.reduceLeDiff, Nat.reduceBEq, Nat.reduceBNe, reduceIte, if_true, if_false, Bool.false_and, Bool.true_and, Bool.and_true, Bool.and_false, Bool.not_false, Bool.not_true, Bool.false_eq_true, beq_self_eq_true, BEq.rfl, zCat1, zCat2, zCat3, zKdI, zKdL, zKdR, true_and, and_true, zSI, zSL, zSR, zu_at, and_self, and_false, false_and, lv_args, zKdZ, zKdO, zB01, zB11, Option.toList_none, Option.toList_some, List.nil_append, List.cons_append, true_or, or_true, zRow_rd, zu_rd, zo_iload_n, zo_ireturn, zRt, zKn_0, zN10, zN01, not_true_eq_false, not_false_eq_true, false_implies, true_implies, implies_true, eq_self, nI_1, nI_40, nI_7, vz0, vz1, zb1_e0, zb1_n0]
        exact h2 _ hg
      · have y4 : (n ≤ hi) = False := eq_false g2
        rw [if_neg (by omega)] at hg
        refine zBlkR (M := mX5_number) (nL := 4) (rt := (Option.some .int)) (blk := bX5_number_0) (T := [(19, bX5_number_19), (41, bX5_number_41), (49, bX5_number_49)]) 2 hX5_number_0 (zChks_cons hX5_number_19 (zChks_cons hX5_number_41 (zChks_cons hX5_number_49 zChks_nil))) rfl rfl rfl (Nat.le_of_ble_eq_true rfl) (Nat.le_of_ble_eq_true rfl) ?_
        simp (implicitDefEqProofs := false) only [bX5_number_0, bX5_number_19, bX5_number_41, bX5_number_49, zRun_cons, zRun_nil, zLk, zSto, zIns, zFil, zf0, zf1, zf2, zf3, List.filter_cons, List.filter_nil, Nat.reduceAdd, Nat.reduceEqDiff, Nat.reduceLT, Nat.reduceLeDiff, Nat.reduceBEq, Nat.reduceBNe, reduceIte, if_true, if_false, Bool.false_and, Bool.true_and, Bool.and_true, Bool.and_false, Bool.not_false, Bool.not_true, Bool.false_eq_true, beq_self_eq_true, BEq.rfl, zCat1, zCat2, zCat3, zKdI, zKdL, zKdR, true_and, and_true, zSI, zSL, zSR, zu_at, and_self, and_false, false_and, lv_args, zKdZ, zKdO, zB01, zB11, Option.toList_none, Option.toList_some, List.nil_append, List.cons_append, true_or, or_true, zRow_rd, zu_rd, zo_aload_n, zo_getfield, zo_iconst, zo_icmp_eq, zo_iload_n, zo_icmp_lt, zo_icmp_le, zo_istore_n, zi_2, zi_1, zKd_5_0, zKd_7_6, zKd_7_7, sh_4, rf_4_0, sh_1, zcl_2, zcl_1, zKn_s, zKn_0, zFind, zTs_12, zTs_13, zTs_14, zTs_15, zTs_16, zTs_17, zTs_o, zTs_u, hx, hx2, e, y1, y3, y2, y4, zN10, zN01, not_true_eq_false, not_false_eq_true, false_implies, true_implies, implies_true, eq_self, nI_1, nI_40, nI_7, vz0, vz1, zb1_e0, zb1_n0]
        refine z_cV0 (M' := mX5_fail) (R' := rX5_fail) (i := 4) [.int 2] [] eX5_fail k5_78 (by decide +kernel : decode cX5_number 43 = .ok (.invokevirtual 78, 3)) (Nat.le_of_ble_eq_true rfl) ⟨Nat.le_of_ble_eq_true rfl, Nat.le_of_ble_eq_true rfl, Nat.le_of_ble_eq_true rfl, Nat.le_of_ble_eq_true rfl, Nat.le_of_ble_eq_true rfl⟩ rfl rfl rfl sh_4 ?_
        refine cl_fail ?_
        refine zBlkR (M := mX5_number) (nL := 4) (rt := (Option.some .int)) (blk := bX5_number_46) (T := []) 0 hX5_number_46 zChks_nil rfl rfl rfl (Nat.le_of_ble_eq_true rfl) (Nat.le_of_ble_eq_true rfl) ?_
        simp (implicitDefEqProofs := false) only [bX5_number_46, zRun_cons, zRun_nil, zLk, zSto, zIns, zFil, zf0, zf1, zf2, zf3, List.filter_cons, List.filter_nil, Nat.reduceAdd, Nat.reduceEqDiff, Nat.reduceLT, Nat.reduceLeDiff, Nat.reduceBEq, Nat.reduceBNe, reduceIte, if_true, if_false, Bool.false_and, Bool.true_and, Bool.and_true, Bool.and_false, Bool.not_false, Bool.not_true, Bool.false_eq_true, beq_self_eq_true, BEq.rfl, zCat1, zCat2, zCat3, zKdI, zKdL, zKdR, true_and, and_true, zSI, zSL, zSR, zu_at, and_self, and_false, false_and, lv_args, zKdZ, zKdO, zB01, zB11, Option.toList_none, Option.toList_some, List.nil_append, List.cons_append, true_or, or_true, zRow_rd, zu_rd, zo_pop, zo_iconst, zo_ireturn, zi_m1, zRt, zKn_0, zN10, zN01, not_true_eq_false, not_false_eq_true, false_implies, true_implies, implies_true, eq_self, nI_1, nI_40, nI_7, vz0, vz1, zb1_e0, zb1_n0]
        exact h1 _ hg
  · have hx2 : (t.2.2.1 = 2) = False := eq_false h
    have hg : gN lo hi t = .inl (1, tAt t) := by unfold gN; rw [if_neg h]
    refine zBlkR (M := mX5_number) (nL := 4) (rt := (Option.some .int)) (blk := bX5_number_0) (T := [(19, bX5_number_19), (41, bX5_number_41), (49, bX5_number_49)]) 2 hX5_number_0 (zChks_cons hX5_number_19 (zChks_cons hX5_number_41 (zChks_cons hX5_number_49 zChks_nil))) rfl rfl rfl (Nat.le_of_ble_eq_true rfl) (Nat.le_of_ble_eq_true rfl) ?_
    simp (implicitDefEqProofs := false) only [bX5_number_0, bX5_number_19, bX5_number_41, bX5_number_49, zRun_cons, zRun_nil, zLk, zSto, zIns, zFil, zf0, zf1, zf2, zf3, List.filter_cons, List.filter_nil, Nat.reduceAdd, Nat.reduceEqDiff, Nat.reduceLT, Nat.reduceLeDiff, Nat.reduceBEq, Nat.reduceBNe, reduceIte, if_true, if_false, Bool.false_and, Bool.true_and, Bool.and_true, Bool.and_false, Bool.not_false, Bool.not_true, Bool.false_eq_true, beq_self_eq_true, BEq.rfl, zCat1, zCat2, zCat3, zKdI, zKdL, zKdR, true_and, and_true, zSI, zSL, zSR, zu_at, and_self, and_false, false_and, lv_args, zKdZ, zKdO, zB01, zB11, Option.toList_none, Option.toList_some, List.nil_append, List.cons_append, true_or, or_true, zRow_rd, zu_rd, zo_aload_n, zo_getfield, zo_iconst, zo_icmp_eq, zo_iload_n, zo_icmp_lt, zo_icmp_le, zo_istore_n, zi_2, zi_1, zKd_5_0, zKd_7_6, zKd_7_7, sh_4, rf_4_0, sh_1, zcl_2, zcl_1, zKn_s, zKn_0, zFind, zTs_12, zTs_13, zTs_14, zTs_15, zTs_16, zTs_17, zTs_o, zTs_u, hx, hx2, zN10, zN01, not_true_eq_false, not_false_eq_true, false_implies, true_implies, implies_true, eq_self, nI_1, nI_40, nI_7, vz0, vz1, zb1_e0, zb1_n0]
    refine z_cV0 (M' := mX5_fail) (R' := rX5_fail) (i := 4) [.int 1] [] eX5_fail k5_78 (by decide +kernel : decode cX5_number 13 = .ok (.invokevirtual 78, 3)) (Nat.le_of_ble_eq_true rfl) ⟨Nat.le_of_ble_eq_true rfl, Nat.le_of_ble_eq_true rfl, Nat.le_of_ble_eq_true rfl, Nat.le_of_ble_eq_true rfl, Nat.le_of_ble_eq_true rfl⟩ rfl rfl rfl sh_4 ?_
    refine cl_fail ?_
    refine zBlkR (M := mX5_number) (nL := 4) (rt := (Option.some .int)) (blk := bX5_number_16) (T := []) 0 hX5_number_16 zChks_nil rfl rfl rfl (Nat.le_of_ble_eq_true rfl) (Nat.le_of_ble_eq_true rfl) ?_
    simp (implicitDefEqProofs := false) only [bX5_number_16, zRun_cons, zRun_nil, zLk, zSto, zIns, zFil, zf0, zf1, zf2, zf3, List.filter_cons, List.filter_nil, Nat.reduceAdd, Nat.reduceEqDiff, Nat.reduceLT, Nat.reduceLeDiff, Nat.reduceBEq, Nat.reduceBNe, reduceIte, if_true, if_false, Bool.false_and, Bool.true_and, Bool.and_true, Bool.and_false, Bool.not_false, Bool.not_true, Bool.false_eq_true, beq_self_eq_true, BEq.rfl, zCat1, zCat2, zCat3, zKdI, zKdL, zKdR, true_and, and_true, zSI, zSL, zSR, zu_at, and_self, and_false, false_and, lv_args, zKdZ, zKdO, zB01, zB11, Option.toList_none, Option.toList_some, List.nil_append, List.cons_append, true_or, or_true, zRow_rd, zu_rd, zo_pop, zo_iconst, zo_ireturn, zi_m1, zRt, zKn_0, zN10, zN01, not_true_eq_false, not_false_eq_true, false_implies, true_implies, implies_true, eq_self, nI_1, nI_40, nI_7, vz0, vz1, zb1_e0, zb1_n0]
    exact h1 _ hg
end ZN98r
end

section
/-! ===== TEXT: what a line changes in a draft, both sides ===== -/
/-- the reference's draft -/
def zDr (J : Nat → Nat → Int32) (D : oDf) : Prop :=
  (J 87 18 = nI (dNp D) ∧ J 87 19 = nI (dNc D) ∧ J 87 20 = nI (dNs D) ∧ J 87 21 = nI (dNb D) ∧ J 87 22 = nI (dNg D) ∧ J 87 23 = nI (dNk D) ∧ J 87 49 = nI (dNk D)) ∧
  (∀ k, k < dNp D → J 90 (5 + k) = dR D 90 k ∧ J 91 (5 + k) = dR D 91 k ∧ J 92 (5 + k) = dR D 92 k ∧ J 93 (5 + k) = dR D 93 k) ∧
  (∀ k, k < dNc D → J 94 (16 + k) = dR D 94 k ∧ J 95 (16 + k) = dR D 95 k) ∧
  (∀ k, k < dNs D → J 96 (12 + k) = dR D 96 k ∧ J 97 (12 + k) = dR D 97 k) ∧
  (∀ k, k < dNb D → J 98 (2 + k) = dR D 98 k ∧ J 99 (2 + k) = dR D 99 k ∧ J 100 (2 + k) = dR D 100 k) ∧
  (∀ j, j < 7 → J 102 (16 + sIx j) = dR D 102 (sIx j)) ∧
  (∀ k, k < dNg D → J 101 (4 + k) = dR D 101 k) ∧
  (∀ i, i < dNk D → J 107 (64 + i) = dR D 107 i ∧ J 108 (64 + i) = dR D 108 i ∧ J 109 (64 + i) = dR D 109 i) ∧
  (∀ h, h < 3 → J 104 (3 + h) = zb1 (dTold D h) ∧ (dTold D h = true → J 105 (3 + h) = nI (dF D h) ∧ J 106 (3 + h) = nI (dT D h))) ∧
  (∀ j, j < 7 → J 103 (sIx j) = zb1 (dSt D j)) ∧ (∀ b, J 104 b = 0 ∨ J 104 b = 1)
/-- what the reading of a text may change in the reference, tokens aside: the halves ahead -/
def SPr (i k : Nat) : Prop := (i = 87 ∧ (k = 4 ∨ k = 5 ∨ k = 11 ∨ (18 ≤ k ∧ k ≤ 23) ∨ (46 ≤ k ∧ k ≤ 51))) ∨ (90 ≤ i ∧ i ≤ 93 ∧ 5 ≤ k) ∨ ((i = 94 ∨ i = 95) ∧ 16 ≤ k) ∨ ((i = 96 ∨ i = 97) ∧ 12 ≤ k) ∨ (98 ≤ i ∧ i ≤ 100 ∧ 2 ≤ k) ∨ (i = 101 ∧ 4 ≤ k) ∨ (i = 102 ∧ 16 ≤ k) ∨ i = 103 ∨ (104 ≤ i ∧ i ≤ 106 ∧ 3 ≤ k) ∨ (107 ≤ i ∧ i ≤ 109 ∧ 64 ≤ k) ∨ i = 110 ∨ i = 111
section ZN98s
variable {I J J' : Nat → Nat → Int32} {s a b c i j k n m v x y q : Nat} {nm td : Int32} {E : oEn} {t : oTk} {D : oDf}
theorem dR_mk {a : Nat → Nat → Int32} {b : (Nat → Bool) × (Nat → Nat) × (Nat → Nat) × (Nat → Bool) × Nat × Nat × Nat × Nat × Nat × Nat} : dR (a, b) = a := rfl
theorem dSt_mk {a : Nat → Nat → Int32} {b : Nat → Bool} {c d : Nat → Nat} {e : Nat → Bool} {f : Nat × Nat × Nat × Nat × Nat × Nat} : dSt (a, b, c, d, e, f) = e := rfl
theorem sIx_r : ∀ j, j < 7 → sIx j < 16 := by decide
theorem sIx_inj : ∀ i, i < 7 → ∀ j, j < 7 → sIx i = sIx j → i = j := by decide
theorem zEr_k (h : zKpt SPr J J') (hE : zEr J E) : zEr J' E := by
  obtain ⟨e1, e2, e3, e4, e5⟩ := hE
  exact ⟨by rw [h 87 6 (by unfold SPr; omega)]; exact e1, fun k hk => by rw [h 89 k (by unfold SPr; omega)]; exact e2 k hk, e3, e4, fun k hk => by rw [h 88 k (by unfold SPr; omega)]; exact e5 k hk⟩
/-- an unrelated change in the class -/
theorem zDc_k {S : Nat → Nat → Prop} (hD : zDc J s D) (hK : zKpt S J J') (h1 : ∀ k, ¬ S s k) (h2 : ¬ S 4 6 ∧ ¬ S 4 7) (h3 : ∀ j k, 1 ≤ j → j ≤ 15 → ¬ S (s + j) k) (h4 : ∀ k, ¬ S 5 k) : zDc J' s D := by
  have e0 : ∀ k, J' s k = J s k := fun k => hK _ _ (h1 k)
  have ej : ∀ j k, 1 ≤ j → j ≤ 15 → J' (s + j) k = J (s + j) k := fun j k g1 g2 => hK _ _ (h3 j k g1 g2)
  have e5 : ∀ k, J' 5 k = J 5 k := fun k => hK _ _ (h4 k)
  obtain ⟨⟨d0, d5, d9, d14, d16, d46, d47⟩, dp, dc, dsk, dbd, dst, dsg, dcd, dlw, dto⟩ := hD
  refine ⟨⟨by rw [e0]; exact d0, by rw [e0]; exact d5, by rw [e0]; exact d9, by rw [e0]; exact d14, by rw [e0]; exact d16, by rw [hK 4 6 h2.1]; exact d46, by rw [hK 4 7 h2.2]; exact d47⟩, fun k hk => ?_, fun k hk => ?_, fun k hk => ?_, fun k hk => ?_, fun k hk => ?_, fun k hk => ?_, fun k hk => ?_, fun k hk => ?_, fun k hk => ?_⟩
  · rw [ej 1 k (by omega) (by omega), ej 2 k (by omega) (by omega), ej 3 k (by omega) (by omega), ej 4 k (by omega) (by omega)]; exact dp k hk
  · rw [ej 5 k (by omega) (by omega), ej 6 k (by omega) (by omega)]; exact dc k hk
  · rw [ej 7 k (by omega) (by omega)]; exact dsk k hk
  · rw [ej 8 k (by omega) (by omega), ej 9 k (by omega) (by omega), ej 10 k (by omega) (by omega)]; exact dbd k hk
  · rw [ej 11 k (by omega) (by omega)]; exact dst k hk
  · rw [ej 12 k (by omega) (by omega)]; exact dsg k hk
  · rw [ej 13 k (by omega) (by omega)]; exact dcd k hk
  · rw [ej 14 k (by omega) (by omega), ej 15 k (by omega) (by omega)]; exact dlw k hk
  · rw [e5]; exact dto k hk
theorem zDc_place (hs : zPc s) (hD : zDc J s D) (hK : zKpt (fun i k => (i = s ∧ k = 0) ∨ (s + 1 ≤ i ∧ i ≤ s + 4 ∧ k = dNp D)) J J') (h0 : J' s 0 = nI (dNp D + 1)) (h1 : J' (s + 1) (dNp D) = nm) (h2 : J' (s + 2) (dNp D) = nI v) (h3 : J' (s + 3) (dNp D) = nI x) (h4 : J' (s + 4) (dNp D) = td) : zDc J' s (dPlace D nm v x td) := by
  obtain ⟨⟨d0, d5, d9, d14, d16, d46, d47⟩, dp, dc, dsk, dbd, dst, dsg, dcd, dlw, dto⟩ := hD
  have s4 : 8 < s := by rcases hs with rfl | rfl <;> omega
  have ej : ∀ j k, 5 ≤ j → J' (s + j) k = J (s + j) k := fun j k g1 => hK _ _ (by omega)
  refine ⟨⟨h0, by rw [hK _ _ (by omega)]; exact d5, by rw [hK _ _ (by omega)]; exact d9, by rw [hK _ _ (by omega)]; exact d14, by rw [hK _ _ (by omega)]; exact d16, by rw [hK _ _ (by omega)]; exact d46, by rw [hK _ _ (by omega)]; exact d47⟩, fun k hk => ?_, fun k hk => ?_, fun k hk => ?_, fun k hk => ?_, fun k hk => ?_, fun k hk => ?_, fun k hk => ?_, fun k hk => ?_, fun k hk => ?_⟩
  · have hk : k < dNp D + 1 := hk
    by_cases e : k = dNp D
    · subst e; simp [dPlace, dR_mk, dSt_mk, zu_at, h1, h2, h3, h4]
    · have := dp k (by omega)
      rw [hK _ _ (by omega), hK _ _ (by omega), hK _ _ (by omega), hK _ _ (by omega)]
      simp [dPlace, dR_mk, dSt_mk, zu_at, e]; exact this
  · rw [ej 5 k (by omega), ej 6 k (by omega)]; simp [dPlace, dR_mk, dSt_mk, zu_at]; exact dc k hk
  · rw [ej 7 k (by omega)]; exact dsk k hk
  · rw [ej 8 k (by omega), ej 9 k (by omega), ej 10 k (by omega)]; simp [dPlace, dR_mk, dSt_mk, zu_at]; exact dbd k hk
  · rw [ej 11 k (by omega)]; simp [dPlace, dR_mk, dSt_mk, zu_at]; exact dst k hk
  · rw [ej 12 k (by omega)]; simp [dPlace, dR_mk, dSt_mk, zu_at]; exact dsg k hk
  · rw [ej 13 k (by omega)]; simp [dPlace, dR_mk, dSt_mk, zu_at]; exact dcd k hk
  · rw [ej 14 k (by omega), ej 15 k (by omega)]; exact dlw k hk
  · rw [hK _ _ (by omega)]; exact dto k hk
theorem zDc_come (hs : zPc s) (hD : zDc J s D) (hK : zKpt (fun i k => (i = s ∧ k = 5) ∨ (s + 5 ≤ i ∧ i ≤ s + 6 ∧ k = dNc D)) J J') (h0 : J' s 5 = nI (dNc D + 1)) (h1 : J' (s + 5) (dNc D) = nI x) (h2 : J' (s + 6) (dNc D) = nI y) : zDc J' s (dCome D x y) := by
  obtain ⟨⟨d0, d5, d9, d14, d16, d46, d47⟩, dp, dc, dsk, dbd, dst, dsg, dcd, dlw, dto⟩ := hD
  have s4 : 8 < s := by rcases hs with rfl | rfl <;> omega
  refine ⟨⟨by rw [hK _ _ (by omega)]; exact d0, h0, by rw [hK _ _ (by omega)]; exact d9, by rw [hK _ _ (by omega)]; exact d14, by rw [hK _ _ (by omega)]; exact d16, by rw [hK _ _ (by omega)]; exact d46, by rw [hK _ _ (by omega)]; exact d47⟩, fun k hk => ?_, fun k hk => ?_, fun k hk => ?_, fun k hk => ?_, fun k hk => ?_, fun k hk => ?_, fun k hk => ?_, fun k hk => ?_, fun k hk => ?_⟩
  · rw [hK _ _ (by omega), hK _ _ (by omega), hK _ _ (by omega), hK _ _ (by omega)]; simp [dCome, dR_mk, dSt_mk, zu_at]; exact dp k hk
  · have hk : k < dNc D + 1 := hk
    by_cases e : k = dNc D
    · subst e; simp [dCome, dR_mk, dSt_mk, zu_at, h1, h2]
    · have := dc k (by omega)
      rw [hK _ _ (by omega), hK _ _ (by omega)]
      simp [dCome, dR_mk, dSt_mk, zu_at, e]; exact this
  · rw [hK _ _ (by omega)]; exact dsk k hk
  · rw [hK _ _ (by omega), hK _ _ (by omega), hK _ _ (by omega)]; simp [dCome, dR_mk, dSt_mk, zu_at]; exact dbd k hk
  · rw [hK _ _ (by omega)]; simp [dCome, dR_mk, dSt_mk, zu_at]; exact dst k hk
  · rw [hK _ _ (by omega)]; simp [dCome, dR_mk, dSt_mk, zu_at]; exact dsg k hk
  · rw [hK _ _ (by omega)]; simp [dCome, dR_mk, dSt_mk, zu_at]; exact dcd k hk
  · rw [hK _ _ (by omega), hK _ _ (by omega)]; exact dlw k hk
  · rw [hK _ _ (by omega)]; exact dto k hk
theorem zDc_sky (hs : zPc s) (hx : x < 96) (hD : zDc J s D) (hK : zKpt (fun i k => (i = 4 ∧ k = 7) ∨ (i = s + 7 ∧ k = x)) J J') (h0 : J' 4 7 = nI (dNs D + 1)) (h1 : J' (s + 7) x = nI y) : zDc J' s (dSky D x y) := by
  obtain ⟨⟨d0, d5, d9, d14, d16, d46, d47⟩, dp, dc, dsk, dbd, dst, dsg, dcd, dlw, dto⟩ := hD
  have s4 : 8 < s := by rcases hs with rfl | rfl <;> omega
  refine ⟨⟨by rw [hK _ _ (by omega)]; exact d0, by rw [hK _ _ (by omega)]; exact d5, by rw [hK _ _ (by omega)]; exact d9, by rw [hK _ _ (by omega)]; exact d14, by rw [hK _ _ (by omega)]; exact d16, by rw [hK _ _ (by omega)]; exact d46, h0⟩, fun k hk => ?_, fun k hk => ?_, fun k hk => ?_, fun k hk => ?_, fun k hk => ?_, fun k hk => ?_, fun k hk => ?_, fun k hk => ?_, fun k hk => ?_⟩
  · rw [hK _ _ (by omega), hK _ _ (by omega), hK _ _ (by omega), hK _ _ (by omega)]; simp [dSky, dR_mk, dSt_mk, zu_at]; exact dp k hk
  · rw [hK _ _ (by omega), hK _ _ (by omega)]; simp [dSky, dR_mk, dSt_mk, zu_at]; exact dc k hk
  · have e1 : ∀ n, n ≤ dNs D → oSkD (zu (zu (dR D) 96 (dNs D) (nI x)) 97 (dNs D) (nI y) 96) (zu (zu (dR D) 96 (dNs D) (nI x)) 97 (dNs D) (nI y) 97) n k = oSkD (dR D 96) (dR D 97) n k := by
      intro n hn
      induction n with
      | zero => rfl
      | succ n ih =>
        have e : ¬ n = dNs D := by omega
        unfold oSkD
        rw [ih (by omega)]
        simp [zu_at, e]
    show J' (s + 7) k = oSkD (zu (zu (dR D) 96 (dNs D) (nI x)) 97 (dNs D) (nI y) 96) (zu (zu (dR D) 96 (dNs D) (nI x)) 97 (dNs D) (nI y) 97) (dNs D + 1) k
    unfold oSkD
    rw [e1 _ (Nat.le_refl _)]
    simp only [zu_at, and_self, if_true, true_and, Nat.reduceEqDiff, false_and, if_false]
    simp only [show (nI x = nI k) = (x = k) from zeq_nat (by omega) (by omega)]
    by_cases e : x = k
    · subst e; simp [h1]
    · rw [if_neg e, hK _ _ (by omega)]; exact dsk k hk
  · rw [hK _ _ (by omega), hK _ _ (by omega), hK _ _ (by omega)]; simp [dSky, dR_mk, dSt_mk, zu_at]; exact dbd k hk
  · rw [hK _ _ (by omega)]; simp [dSky, dR_mk, dSt_mk, zu_at]; exact dst k hk
  · rw [hK _ _ (by omega)]; simp [dSky, dR_mk, dSt_mk, zu_at]; exact dsg k hk
  · rw [hK _ _ (by omega)]; simp [dSky, dR_mk, dSt_mk, zu_at]; exact dcd k hk
  · rw [hK _ _ (by omega), hK _ _ (by omega)]; exact dlw k hk
  · rw [hK _ _ (by omega)]; exact dto k hk
theorem zDc_band (hs : zPc s) (hD : zDc J s D) (hK : zKpt (fun i k => (i = s ∧ k = 9) ∨ (s + 8 ≤ i ∧ i ≤ s + 10 ∧ k = dNb D)) J J') (h0 : J' s 9 = nI (dNb D + 1)) (h1 : J' (s + 8) (dNb D) = nI q) (h2 : J' (s + 9) (dNb D) = nI x) (h3 : J' (s + 10) (dNb D) = nI y) : zDc J' s (dBand D q x y) := by
  obtain ⟨⟨d0, d5, d9, d14, d16, d46, d47⟩, dp, dc, dsk, dbd, dst, dsg, dcd, dlw, dto⟩ := hD
  have s4 : 8 < s := by rcases hs with rfl | rfl <;> omega
  refine ⟨⟨by rw [hK _ _ (by omega)]; exact d0, by rw [hK _ _ (by omega)]; exact d5, h0, by rw [hK _ _ (by omega)]; exact d14, by rw [hK _ _ (by omega)]; exact d16, by rw [hK _ _ (by omega)]; exact d46, by rw [hK _ _ (by omega)]; exact d47⟩, fun k hk => ?_, fun k hk => ?_, fun k hk => ?_, fun k hk => ?_, fun k hk => ?_, fun k hk => ?_, fun k hk => ?_, fun k hk => ?_, fun k hk => ?_⟩
  · rw [hK _ _ (by omega), hK _ _ (by omega), hK _ _ (by omega), hK _ _ (by omega)]; simp [dBand, dR_mk, dSt_mk, zu_at]; exact dp k hk
  · rw [hK _ _ (by omega), hK _ _ (by omega)]; simp [dBand, dR_mk, dSt_mk, zu_at]; exact dc k hk
  · rw [hK _ _ (by omega)]; exact dsk k hk
  · have hk : k < dNb D + 1 := hk
    by_cases e : k = dNb D
    · subst e; simp [dBand, dR_mk, dSt_mk, zu_at, h1, h2, h3]
    · have := dbd k (by omega)
      rw [hK _ _ (by omega), hK _ _ (by omega), hK _ _ (by omega)]
      simp [dBand, dR_mk, dSt_mk, zu_at, e]; exact this
  · rw [hK _ _ (by omega)]; simp [dBand, dR_mk, dSt_mk, zu_at]; exact dst k hk
  · rw [hK _ _ (by omega)]; simp [dBand, dR_mk, dSt_mk, zu_at]; exact dsg k hk
  · rw [hK _ _ (by omega)]; simp [dBand, dR_mk, dSt_mk, zu_at]; exact dcd k hk
  · rw [hK _ _ (by omega), hK _ _ (by omega)]; exact dlw k hk
  · rw [hK _ _ (by omega)]; exact dto k hk
theorem zDc_sign (hs : zPc s) (hD : zDc J s D) (hK : zKpt (fun i k => (i = s ∧ k = 14) ∨ (i = s + 12 ∧ k = dNg D)) J J') (h0 : J' s 14 = nI (dNg D + 1)) (h1 : J' (s + 12) (dNg D) = nm) : zDc J' s (dSign D nm) := by
  obtain ⟨⟨d0, d5, d9, d14, d16, d46, d47⟩, dp, dc, dsk, dbd, dst, dsg, dcd, dlw, dto⟩ := hD
  have s4 : 8 < s := by rcases hs with rfl | rfl <;> omega
  refine ⟨⟨by rw [hK _ _ (by omega)]; exact d0, by rw [hK _ _ (by omega)]; exact d5, by rw [hK _ _ (by omega)]; exact d9, h0, by rw [hK _ _ (by omega)]; exact d16, by rw [hK _ _ (by omega)]; exact d46, by rw [hK _ _ (by omega)]; exact d47⟩, fun k hk => ?_, fun k hk => ?_, fun k hk => ?_, fun k hk => ?_, fun k hk => ?_, fun k hk => ?_, fun k hk => ?_, fun k hk => ?_, fun k hk => ?_⟩
  · rw [hK _ _ (by omega), hK _ _ (by omega), hK _ _ (by omega), hK _ _ (by omega)]; simp [dSign, dR_mk, dSt_mk, zu_at]; exact dp k hk
  · rw [hK _ _ (by omega), hK _ _ (by omega)]; simp [dSign, dR_mk, dSt_mk, zu_at]; exact dc k hk
  · rw [hK _ _ (by omega)]; exact dsk k hk
  · rw [hK _ _ (by omega), hK _ _ (by omega), hK _ _ (by omega)]; simp [dSign, dR_mk, dSt_mk, zu_at]; exact dbd k hk
  · rw [hK _ _ (by omega)]; simp [dSign, dR_mk, dSt_mk, zu_at]; exact dst k hk
  · have hk : k < dNg D + 1 := hk
    by_cases e : k = dNg D
    · subst e; simp [dSign, dR_mk, dSt_mk, zu_at, h1]
    · have := dsg k (by omega)
      rw [hK _ _ (by omega)]
      simp [dSign, dR_mk, dSt_mk, zu_at, e]; exact this
  · rw [hK _ _ (by omega)]; simp [dSign, dR_mk, dSt_mk, zu_at]; exact dcd k hk
  · rw [hK _ _ (by omega), hK _ _ (by omega)]; exact dlw k hk
  · rw [hK _ _ (by omega)]; exact dto k hk
theorem zDc_set (hs : zPc s) (hj : j < 7) (hD : zDc J s D) (hK : zKpt (fun i k => (i = 5 ∧ k = j) ∨ (i = s + 11 ∧ k = j)) J J') (h0 : J' 5 j = 1) (h1 : J' (s + 11) j = nI v) : zDc J' s (dSet D j v) := by
  obtain ⟨⟨d0, d5, d9, d14, d16, d46, d47⟩, dp, dc, dsk, dbd, dst, dsg, dcd, dlw, dto⟩ := hD
  have s4 : 8 < s := by rcases hs with rfl | rfl <;> omega
  refine ⟨⟨by rw [hK _ _ (by omega)]; exact d0, by rw [hK _ _ (by omega)]; exact d5, by rw [hK _ _ (by omega)]; exact d9, by rw [hK _ _ (by omega)]; exact d14, by rw [hK _ _ (by omega)]; exact d16, by rw [hK _ _ (by omega)]; exact d46, by rw [hK _ _ (by omega)]; exact d47⟩, fun k hk => ?_, fun k hk => ?_, fun k hk => ?_, fun k hk => ?_, fun k hk => ?_, fun k hk => ?_, fun k hk => ?_, fun k hk => ?_, fun k hk => ?_⟩
  · rw [hK _ _ (by omega), hK _ _ (by omega), hK _ _ (by omega), hK _ _ (by omega)]; simp [dSet, dR_mk, dSt_mk, zu_at]; exact dp k hk
  · rw [hK _ _ (by omega), hK _ _ (by omega)]; simp [dSet, dR_mk, dSt_mk, zu_at]; exact dc k hk
  · rw [hK _ _ (by omega)]; exact dsk k hk
  · rw [hK _ _ (by omega), hK _ _ (by omega), hK _ _ (by omega)]; simp [dSet, dR_mk, dSt_mk, zu_at]; exact dbd k hk
  · by_cases e : k = j
    · subst e; simp [dSet, dR_mk, dSt_mk, zu_at, h1]
    · have e2 : ¬ sIx k = sIx j := fun z => e (sIx_inj k hk j hj z)
      rw [hK _ _ (by omega)]; simp [dSet, dR_mk, dSt_mk, zu_at, e2]; exact dst k hk
  · rw [hK _ _ (by omega)]; simp [dSet, dR_mk, dSt_mk, zu_at]; exact dsg k hk
  · rw [hK _ _ (by omega)]; simp [dSet, dR_mk, dSt_mk, zu_at]; exact dcd k hk
  · rw [hK _ _ (by omega), hK _ _ (by omega)]; exact dlw k hk
  · by_cases e : k = j
    · subst e; simp [dSet, dR_mk, dSt_mk, h0, zb1]
    · rw [hK _ _ (by omega)]; simp [dSet, dR_mk, dSt_mk, e]; exact dto k hk
end ZN98s
end

section
/-! ===== TEXT: lines in the class ===== -/
section ZN98t
variable {w : zP} {Q : Option Value → zMem → Prop} {μ : zMem} {I J : Nat → Nat → Int32} {L K : Nat → Nat → Int64} {p s : Nat} {r : Option Nat} {a b c i j k n e m lo hi : Nat} {x y v : Int32} {E : oEn} {t u : oTk} {D : oDf}
theorem tK_eq (ht : tOk E t) (hk : k < 1000) : (nI t.2.2.1 = nI k) = (t.2.2.1 = k) := zeq_nat (by have := ht.2.2.1; omega) (by omega)
theorem nI_neg1 (h : n < 2 ^ 31) : (nI n = -1) = False := eq_false (fun q => nI_m1 h q.symm)
theorem oFnd_at (h : ¬ oFnd (dR D 90) n x = -1) : ∃ q, q < n ∧ oFnd (dR D 90) n x = nI q := by
  unfold oFnd at h ⊢
  split
  · exact ⟨_, by assumption, rfl⟩
  · rename_i g; rw [if_neg g] at h; exact absurd rfl h
set_option maxRecDepth 20000 in
theorem cl_readPlace (hs : zPc s) (hE : zEc J E) (ht : tOk E t) (hD : zDc J s D) (hO : DOk D)
    (hF : ∀ c a J' t', gPlace E D t = .inl (c, a) → zKpt (SPs s) J J' → J' 4 10 = nI c → J' 4 11 = nI a → Q (some (.int 0)) (SH, zTs J' t', L, RF p s (some s)))
    (hG : ∀ t' D' J', gPlace E D t = .inr (t', D') → zKpt (SPs s) J J' → zDc J' s D' → Q (some (.int 1)) (SH, zTs J' t', L, RF p s (some s))) : zXM w mX5_readPlace rX5_readPlace [.ref 4] (SH, zTs J t, L, RF p s (some s)) Q := by
  unfold zXM
  have d0 := hD.1.1
  have np := hO.1.1
  have s8 : 8 < s := by rcases hs with rfl | rfl <;> omega
  have ht1 := tOk_nx ht
  have ht2 := tOk_nx ht1
  have ht3 := tOk_nx ht2
  have ht4 := tOk_nx ht3
  have ht5 := tOk_nx ht4
  have y3 : (nI (tNx E t).2.2.1 = 3) = ((tNx E t).2.2.1 = 3) := tK_eq (k := 3) ht1 (by omega)
  have y35 : (nI (tNx E (tNx E (tNx E (tNx E t)))).2.2.1 = 35) = ((tNx E (tNx E (tNx E (tNx E t)))).2.2.1 = 35) := tK_eq (k := 35) ht4 (by omega)
  have hg : gPlace E D t = gPlace E D t := rfl
  conv at hg => rhs; unfold gPlace
  refine zBlkR (M := mX5_readPlace) (nL := 2) (rt := (Option.some .boolean)) (blk := bX5_readPlace_0) (T := []) 0 hX5_readPlace_0 zChks_nil rfl rfl rfl (Nat.le_of_ble_eq_true rfl) (Nat.le_of_ble_eq_true rfl) ?_
  simp (implicitDefEqProofs := false) only [bX5_readPlace_0, zRun_cons, zRun_nil, zLk, zSto, zIns, zFil, zf0, zf1, zf2, zf3, List.filter_cons, List.filter_nil, Nat.reduceAdd, Nat.reduceEqDiff, Nat.reduceLT, Nat.reduceLeDiff, Nat.reduceBEq, Nat.reduceBNe, reduceIte, if_true, if_false, Bool.false_and, Bool.true_and, Bool.and_true, Bool.and_false, Bool.not_false, Bool.not_true, Bool.false_eq_true, beq_self_eq_true, BEq.rfl, zCat1, zCat2, zCat3, zKdI, zKdL, zKdR, true_and, and_true, zSI, zSL, zSR, zu_at, and_self, and_false, false_and, lv_args, zKdZ, zKdO, zB01, zB11, Option.toList_none, Option.toList_some, List.nil_append, List.cons_append, true_or, or_true, zRow_rd, zu_rd, zo_aload_n, zo_getfield, zo_istore_n, zo_iload_n, zo_iconst, zi_5, zKd_5_8, zKd_4_0, sh_4, rf_4_8, sh_55, sh_71, zcl_5, zKn_0, (psh_0 hs), (psh_1 hs), (psh_2 hs), (psh_3 hs), (psh_4 hs), (psh_5 hs), (psh_6 hs), (psh_7 hs), (psh_8 hs), (psh_9 hs), (psh_10 hs), (psh_11 hs), (psh_12 hs), (psh_13 hs), (psh_14 hs), (psh_15 hs), (prf_1 hs), (prf_2 hs), (prf_3 hs), (prf_4 hs), (prf_6 hs), (prf_7 hs), (prf_8 hs), (prf_10 hs), (prf_11 hs), (prf_12 hs), (prf_13 hs), (prf_15 hs), (prf_17 hs), (prf_18 hs), (prf_19 hs), Nat.add_left_cancel_iff, Nat.left_eq_add, Nat.add_eq_left, (zpn_0 hs), (zpn_1 hs), (zpn_2 hs), (zpn_3 hs), (zpn_4 hs), (zpn_5 hs), (zpn_6 hs), (zpn_7 hs), zTs_12, zTs_13, zTs_14, zTs_15, zTs_16, zTs_17, zTs_o, zTs_u, d0, zN10, zN01, not_true_eq_false, not_false_eq_true, false_implies, true_implies, implies_true, eq_self, nI_1, nI_40, nI_7, vz0, vz1, zb1_e0, zb1_n0]
  refine z_cV0 (M' := mX5_passWord) (R' := rX5_passWord) (i := 4) [.int (nI (dNp D)), .int (nI 5)] [] eX5_passWord k5_111 (by decide +kernel : decode cX5_readPlace 11 = .ok (.invokevirtual 111, 3)) (Nat.le_of_ble_eq_true rfl) ⟨Nat.le_of_ble_eq_true rfl, Nat.le_of_ble_eq_true rfl, Nat.le_of_ble_eq_true rfl, Nat.le_of_ble_eq_true rfl, Nat.le_of_ble_eq_true rfl⟩ rfl rfl rfl sh_4 ?_
  refine cl_passWord hE ht (by omega) (by omega) (fun h => ?_) (fun h => ?_)
  · rw [if_pos (by omega)] at hg
    refine zBlkR (M := mX5_readPlace) (nL := 2) (rt := (Option.some .boolean)) (blk := bX5_readPlace_14) (T := [(19, bX5_readPlace_19), (36, bX5_readPlace_36)]) 2 hX5_readPlace_14 (zChks_cons hX5_readPlace_19 (zChks_cons hX5_readPlace_36 zChks_nil)) rfl rfl rfl (Nat.le_of_ble_eq_true rfl) (Nat.le_of_ble_eq_true rfl) ?_
    simp (implicitDefEqProofs := false) only [bX5_readPlace_14, bX5_readPlace_19, bX5_readPlace_36, zRun_cons, zRun_nil, zLk, zSto, zIns, zFil, zf0, zf1, zf2, zf3, List.filter_cons, List.filter_nil, Nat.reduceAdd, Nat.reduceEqDiff, Nat.reduceLT, Nat.reduceLeDiff, Nat.reduceBEq, Nat.reduceBNe, reduceIte, if_true, if_false, Bool.false_and, Bool.true_and, Bool.and_true, Bool.and_false, Bool.not_false, Bool.not_true, Bool.false_eq_true, beq_self_eq_true, BEq.rfl, zCat1, zCat2, zCat3, zKdI, zKdL, zKdR, true_and, and_true, zSI, zSL, zSR, zu_at, and_self, and_false, false_and, lv_args, zKdZ, zKdO, zB01, zB11, Option.toList_none, Option.toList_some, List.nil_append, List.cons_append, true_or, or_true, zRow_rd, zu_rd, zo_if_ne, zo_iconst, zo_ireturn, zo_aload_n, zo_getfield, zo_icmp_eq, zi_0, zi_3, zi_1, zKd_5_0, zKd_7_6, zKd_5_8, zKd_7_7, zcl_0, sh_4, rf_4_0, sh_1, zcl_3, zcl_1, rf_4_8, zRt, zKn_s, zKn_0, zFind, zN10, zN01, not_true_eq_false, not_false_eq_true, false_implies, true_implies, implies_true, eq_self, nI_1, nI_40, nI_7, vz0, vz1, zb1_e0, zb1_n0]
    exact hF _ _ _ _ hg ((zKpt_rfl.u (by unfold SPs; omega)).u (by unfold SPs; omega)) (by simp [zu_at]; rfl) (by simp [zu_at])
  · rw [if_neg (by omega)] at hg
    by_cases k3 : (tNx E t).2.2.1 = 3
    · have k3' : ((tNx E t).2.2.1 = 3) = True := eq_true k3
      rw [if_pos k3] at hg
      refine zBlkR (M := mX5_readPlace) (nL := 2) (rt := (Option.some .boolean)) (blk := bX5_readPlace_14) (T := [(19, bX5_readPlace_19), (36, bX5_readPlace_36)]) 2 hX5_readPlace_14 (zChks_cons hX5_readPlace_19 (zChks_cons hX5_readPlace_36 zChks_nil)) rfl rfl rfl (Nat.le_of_ble_eq_true rfl) (Nat.le_of_ble_eq_true rfl) ?_
      simp (implicitDefEqProofs := false) only [bX5_readPlace_14, bX5_readPlace_19, bX5_readPlace_36, zRun_cons, zRun_nil, zLk, zSto, zIns, zFil, zf0, zf1, zf2, zf3, List.filter_cons, List.filter_nil, Nat.reduceAdd, Nat.reduceEqDiff, Nat.reduceLT, Nat.reduceLeDiff, Nat.reduceBEq, Nat.reduceBNe, reduceIte, if_true, if_false, Bool.false_and, Bool.true_and, Bool.and_true, Bool.and_false, Bool.not_false, Bool.not_true, Bool.false_eq_true, beq_self_eq_true, BEq.rfl, zCat1, zCat2, zCat3, zKdI, zKdL, zKdR, true_and, and_true, zSI, zSL, zSR, zu_at, and_self, and_false, false_and, lv_args, zKdZ, zKdO, zB01, zB11, Option.toList_none, Option.toList_some, List.nil_append, List.cons_append, true_or, or_true, zRow_rd, zu_rd, zo_if_ne, zo_iconst, zo_ireturn, zo_aload_n, zo_getfield, zo_icmp_eq, zi_0, zi_3, zi_1, zKd_5_0, zKd_7_6, zKd_5_8, zKd_7_7, zcl_0, sh_4, rf_4_0, sh_1, zcl_3, zcl_1, rf_4_8, zRt, zKn_s, zKn_0, zFind, (psh_0 hs), (psh_1 hs), (psh_2 hs), (psh_3 hs), (psh_4 hs), (psh_5 hs), (psh_6 hs), (psh_7 hs), (psh_8 hs), (psh_9 hs), (psh_10 hs), (psh_11 hs), (psh_12 hs), (psh_13 hs), (psh_14 hs), (psh_15 hs), (prf_1 hs), (prf_2 hs), (prf_3 hs), (prf_4 hs), (prf_6 hs), (prf_7 hs), (prf_8 hs), (prf_10 hs), (prf_11 hs), (prf_12 hs), (prf_13 hs), (prf_15 hs), (prf_17 hs), (prf_18 hs), (prf_19 hs), Nat.add_left_cancel_iff, Nat.left_eq_add, Nat.add_eq_left, (zpn_0 hs), (zpn_1 hs), (zpn_2 hs), (zpn_3 hs), (zpn_4 hs), (zpn_5 hs), (zpn_6 hs), (zpn_7 hs), zTs_12, zTs_13, zTs_14, zTs_15, zTs_16, zTs_17, zTs_o, zTs_u, y3, k3', zN10, zN01, not_true_eq_false, not_false_eq_true, false_implies, true_implies, implies_true, eq_self, nI_1, nI_40, nI_7, vz0, vz1, zb1_e0, zb1_n0]
      refine z_cV0 (M' := mX4_placeNamed) (R' := rX4_placeNamed) (i := s) [.int (tNx E t).2.2.2] [] eX4_placeNamed k5_115 (by decide +kernel : decode cX5_readPlace 47 = .ok (.invokevirtual 115, 3)) (Nat.le_of_ble_eq_true rfl) ⟨Nat.le_of_ble_eq_true rfl, Nat.le_of_ble_eq_true rfl, Nat.le_of_ble_eq_true rfl, Nat.le_of_ble_eq_true rfl, Nat.le_of_ble_eq_true rfl⟩ rfl rfl rfl (psh_0 hs) ?_
      refine cl_placeNamed hs (n := dNp D) (by rw [zTs_o (by simp; omega)]; exact d0) np ?_
      have ef : oFnd (zTs J (tNx E t) (s + 1)) (dNp D) (tNx E t).2.2.2 = oFnd (dR D 90) (dNp D) (tVl (tNx E t)) := oFnd_congr (fun c hc => by rw [zTs_o (by simp; omega)]; exact (hD.2.1 c hc).1)
      rw [ef]
      by_cases q1 : oFnd (dR D 90) (dNp D) (tVl (tNx E t)) = -1
      · have q1' : (oFnd (dR D 90) (dNp D) (tVl (tNx E t)) = -1) = True := eq_true q1
        rw [if_pos q1] at hg
        have hv : vp_in (nI (dNp D)) 5 := zvn (by omega) (by omega)
        have cl : (nI (dNp D)).toNatClampNeg = dNp D := nI_clamp (by omega)
        refine zBlkR (M := mX5_readPlace) (nL := 2) (rt := (Option.some .boolean)) (blk := bX5_readPlace_50) (T := [(60, bX5_readPlace_60)]) 1 hX5_readPlace_50 (zChks_cons hX5_readPlace_60 zChks_nil) rfl rfl rfl (Nat.le_of_ble_eq_true rfl) (Nat.le_of_ble_eq_true rfl) ?_
        simp (implicitDefEqProofs := false) only [bX5_readPlace_50, bX5_readPlace_60, zRun_cons, zRun_nil, zLk, zSto, zIns, zFil, zf0, zf1, zf2, zf3, List.filter_cons, List.filter_nil, Nat.reduceAdd, Nat.reduceEqDiff, Nat.reduceLT, Nat.reduceLeDiff, Nat.reduceBEq, Nat.reduceBNe, reduceIte, if_true, if_false, Bool.false_and, Bool.true_and, Bool.and_true, Bool.and_false, Bool.not_false, Bool.not_true, Bool.false_eq_true, beq_self_eq_true, BEq.rfl, zCat1, zCat2, zCat3, zKdI, zKdL, zKdR, true_and, and_true, zSI, zSL, zSR, zu_at, and_self, and_false, false_and, lv_args, zKdZ, zKdO, zB01, zB11, Option.toList_none, Option.toList_some, List.nil_append, List.cons_append, true_or, or_true, zRow_rd, zu_rd, zo_iconst, zo_icmp_eq, zo_aload_n, zo_getfield, zo_iload_n, zo_iastore, zi_m1, zi_3, zKd_5_8, zKd_4_1, zKd_5_0, zKd_7_7, zcl_3, sh_4, rf_4_8, sh_55, rf_55_1, sh_56, sh_71, rf_71_1, sh_72, rf_4_0, sh_1, zvi_3_5, zKn_s, zKn_0, zFind, (psh_0 hs), (psh_1 hs), (psh_2 hs), (psh_3 hs), (psh_4 hs), (psh_5 hs), (psh_6 hs), (psh_7 hs), (psh_8 hs), (psh_9 hs), (psh_10 hs), (psh_11 hs), (psh_12 hs), (psh_13 hs), (psh_14 hs), (psh_15 hs), (prf_1 hs), (prf_2 hs), (prf_3 hs), (prf_4 hs), (prf_6 hs), (prf_7 hs), (prf_8 hs), (prf_10 hs), (prf_11 hs), (prf_12 hs), (prf_13 hs), (prf_15 hs), (prf_17 hs), (prf_18 hs), (prf_19 hs), Nat.add_left_cancel_iff, Nat.left_eq_add, Nat.add_eq_left, (zpn_0 hs), (zpn_1 hs), (zpn_2 hs), (zpn_3 hs), (zpn_4 hs), (zpn_5 hs), (zpn_6 hs), (zpn_7 hs), zTs_12, zTs_13, zTs_14, zTs_15, zTs_16, zTs_17, zTs_o, zTs_u, q1', hv, cl, zN10, zN01, not_true_eq_false, not_false_eq_true, false_implies, true_implies, implies_true, eq_self, nI_1, nI_40, nI_7, vz0, vz1, zb1_e0, zb1_n0]
        have k1 : zKpt (SPs s) J (zu J (s + 1) (dNp D) (tNx E t).2.2.2) := zKpt_rfl.u (by unfold SPs; omega)
        refine z_cV0 (M' := mX7_advance) (R' := rX7_advance) (i := 1) [] [] eX7_advance k5_81 (by decide +kernel : decode cX5_readPlace 80 = .ok (.invokevirtual 81, 3)) (Nat.le_of_ble_eq_true rfl) ⟨Nat.le_of_ble_eq_true rfl, Nat.le_of_ble_eq_true rfl, Nat.le_of_ble_eq_true rfl, Nat.le_of_ble_eq_true rfl, Nat.le_of_ble_eq_true rfl⟩ rfl rfl rfl sh_1 ?_
        refine cl_adv (zEc_k hs k1 hE) ht1 ?_
        refine zBlkR (M := mX5_readPlace) (nL := 2) (rt := (Option.some .boolean)) (blk := bX5_readPlace_83) (T := []) 0 hX5_readPlace_83 zChks_nil rfl rfl rfl (Nat.le_of_ble_eq_true rfl) (Nat.le_of_ble_eq_true rfl) ?_
        simp (implicitDefEqProofs := false) only [bX5_readPlace_83, zRun_cons, zRun_nil, zLk, zSto, zIns, zFil, zf0, zf1, zf2, zf3, List.filter_cons, List.filter_nil, Nat.reduceAdd, Nat.reduceEqDiff, Nat.reduceLT, Nat.reduceLeDiff, Nat.reduceBEq, Nat.reduceBNe, reduceIte, if_true, if_false, Bool.false_and, Bool.true_and, Bool.and_true, Bool.and_false, Bool.not_false, Bool.not_true, Bool.false_eq_true, beq_self_eq_true, BEq.rfl, zCat1, zCat2, zCat3, zKdI, zKdL, zKdR, true_and, and_true, zSI, zSL, zSR, zu_at, and_self, and_false, false_and, lv_args, zKdZ, zKdO, zB01, zB11, Option.toList_none, Option.toList_some, List.nil_append, List.cons_append, true_or, or_true, zRow_rd, zu_rd, zo_aload_n, zo_getfield, zo_iload_n, zo_iconst, zo_bipush, zi_0, zb_99, zKd_5_8, zKd_4_2, sh_4, rf_4_8, sh_55, rf_55_2, sh_57, sh_71, rf_71_2, sh_73, zcl_0, zcl_99, zvi_0_5, zKn_0, (psh_0 hs), (psh_1 hs), (psh_2 hs), (psh_3 hs), (psh_4 hs), (psh_5 hs), (psh_6 hs), (psh_7 hs), (psh_8 hs), (psh_9 hs), (psh_10 hs), (psh_11 hs), (psh_12 hs), (psh_13 hs), (psh_14 hs), (psh_15 hs), (prf_1 hs), (prf_2 hs), (prf_3 hs), (prf_4 hs), (prf_6 hs), (prf_7 hs), (prf_8 hs), (prf_10 hs), (prf_11 hs), (prf_12 hs), (prf_13 hs), (prf_15 hs), (prf_17 hs), (prf_18 hs), (prf_19 hs), Nat.add_left_cancel_iff, Nat.left_eq_add, Nat.add_eq_left, (zpn_0 hs), (zpn_1 hs), (zpn_2 hs), (zpn_3 hs), (zpn_4 hs), (zpn_5 hs), (zpn_6 hs), (zpn_7 hs), zTs_12, zTs_13, zTs_14, zTs_15, zTs_16, zTs_17, zTs_o, zTs_u, zN10, zN01, not_true_eq_false, not_false_eq_true, false_implies, true_implies, implies_true, eq_self, nI_1, nI_40, nI_7, vz0, vz1, zb1_e0, zb1_n0]
        refine z_cV0 (M' := mX5_number) (R' := rX5_number) (i := 4) [.int (nI 0), .int (nI 99)] [.int (nI (dNp D)), .ref (s + 2)] eX5_number k5_125 (by decide +kernel : decode cX5_readPlace 95 = .ok (.invokevirtual 125, 3)) (Nat.le_of_ble_eq_true rfl) ⟨Nat.le_of_ble_eq_true rfl, Nat.le_of_ble_eq_true rfl, Nat.le_of_ble_eq_true rfl, Nat.le_of_ble_eq_true rfl, Nat.le_of_ble_eq_true rfl⟩ rfl rfl rfl sh_4 ?_
        refine cl_number (zEc_k hs k1 hE) ht2 (by omega) (by omega) (fun f hf => ?_) (fun v hv1 => ?_)
        · simp only [hf] at hg
          refine zBlkR (M := mX5_readPlace) (nL := 2) (rt := (Option.some .boolean)) (blk := bX5_readPlace_98) (T := [(114, bX5_readPlace_114)]) 1 hX5_readPlace_98 (zChks_cons hX5_readPlace_114 zChks_nil) rfl rfl rfl (Nat.le_of_ble_eq_true rfl) (Nat.le_of_ble_eq_true rfl) ?_
          simp (implicitDefEqProofs := false) only [bX5_readPlace_98, bX5_readPlace_114, zRun_cons, zRun_nil, zLk, zSto, zIns, zFil, zf0, zf1, zf2, zf3, List.filter_cons, List.filter_nil, Nat.reduceAdd, Nat.reduceEqDiff, Nat.reduceLT, Nat.reduceLeDiff, Nat.reduceBEq, Nat.reduceBNe, reduceIte, if_true, if_false, Bool.false_and, Bool.true_and, Bool.and_true, Bool.and_false, Bool.not_false, Bool.not_true, Bool.false_eq_true, beq_self_eq_true, BEq.rfl, zCat1, zCat2, zCat3, zKdI, zKdL, zKdR, true_and, and_true, zSI, zSL, zSR, zu_at, and_self, and_false, false_and, lv_args, zKdZ, zKdO, zB01, zB11, Option.toList_none, Option.toList_some, List.nil_append, List.cons_append, true_or, or_true, zRow_rd, zu_rd, zo_iastore, zo_aload_n, zo_getfield, zo_iload_n, zo_iaload, zo_iconst, zo_icmp_ne, zo_ireturn, zo_bipush, zi_m1, zi_0, zb_99, zKd_5_8, zKd_4_2, zKd_4_3, sh_4, rf_4_8, sh_55, rf_55_2, sh_57, sh_71, rf_71_2, sh_73, zcl_0, rf_55_3, sh_58, rf_71_3, sh_74, zcl_99, zvi_0_5, zRt, zKn_s, zKn_0, zFind, (psh_0 hs), (psh_1 hs), (psh_2 hs), (psh_3 hs), (psh_4 hs), (psh_5 hs), (psh_6 hs), (psh_7 hs), (psh_8 hs), (psh_9 hs), (psh_10 hs), (psh_11 hs), (psh_12 hs), (psh_13 hs), (psh_14 hs), (psh_15 hs), (prf_1 hs), (prf_2 hs), (prf_3 hs), (prf_4 hs), (prf_6 hs), (prf_7 hs), (prf_8 hs), (prf_10 hs), (prf_11 hs), (prf_12 hs), (prf_13 hs), (prf_15 hs), (prf_17 hs), (prf_18 hs), (prf_19 hs), Nat.add_left_cancel_iff, Nat.left_eq_add, Nat.add_eq_left, (zpn_0 hs), (zpn_1 hs), (zpn_2 hs), (zpn_3 hs), (zpn_4 hs), (zpn_5 hs), (zpn_6 hs), (zpn_7 hs), zTs_12, zTs_13, zTs_14, zTs_15, zTs_16, zTs_17, zTs_o, zTs_u, hv, cl, zN10, zN01, not_true_eq_false, not_false_eq_true, false_implies, true_implies, implies_true, eq_self, nI_1, nI_40, nI_7, vz0, vz1, zb1_e0, zb1_n0]
          exact hF _ _ _ _ hg (((k1.u (by unfold SPs; omega)).u (by unfold SPs; omega)).u (by unfold SPs; omega)) (by simp [zu_at]; omega) (by simp [zu_at]; omega)
        · obtain ⟨-, -, -, -, b1⟩ := gN_inr ht2 hv1
          simp only [hv1] at hg
          have m1 : (nI v = -1) = False := nI_neg1 (by omega)
          refine zBlkR (M := mX5_readPlace) (nL := 2) (rt := (Option.some .boolean)) (blk := bX5_readPlace_98) (T := [(114, bX5_readPlace_114)]) 1 hX5_readPlace_98 (zChks_cons hX5_readPlace_114 zChks_nil) rfl rfl rfl (Nat.le_of_ble_eq_true rfl) (Nat.le_of_ble_eq_true rfl) ?_
          simp (implicitDefEqProofs := false) only [bX5_readPlace_98, bX5_readPlace_114, zRun_cons, zRun_nil, zLk, zSto, zIns, zFil, zf0, zf1, zf2, zf3, List.filter_cons, List.filter_nil, Nat.reduceAdd, Nat.reduceEqDiff, Nat.reduceLT, Nat.reduceLeDiff, Nat.reduceBEq, Nat.reduceBNe, reduceIte, if_true, if_false, Bool.false_and, Bool.true_and, Bool.and_true, Bool.and_false, Bool.not_false, Bool.not_true, Bool.false_eq_true, beq_self_eq_true, BEq.rfl, zCat1, zCat2, zCat3, zKdI, zKdL, zKdR, true_and, and_true, zSI, zSL, zSR, zu_at, and_self, and_false, false_and, lv_args, zKdZ, zKdO, zB01, zB11, Option.toList_none, Option.toList_some, List.nil_append, List.cons_append, true_or, or_true, zRow_rd, zu_rd, zo_iastore, zo_aload_n, zo_getfield, zo_iload_n, zo_iaload, zo_iconst, zo_icmp_ne, zo_ireturn, zo_bipush, zi_m1, zi_0, zb_99, zKd_5_8, zKd_4_2, zKd_4_3, sh_4, rf_4_8, sh_55, rf_55_2, sh_57, sh_71, rf_71_2, sh_73, zcl_0, rf_55_3, sh_58, rf_71_3, sh_74, zcl_99, zvi_0_5, zRt, zKn_s, zKn_0, zFind, (psh_0 hs), (psh_1 hs), (psh_2 hs), (psh_3 hs), (psh_4 hs), (psh_5 hs), (psh_6 hs), (psh_7 hs), (psh_8 hs), (psh_9 hs), (psh_10 hs), (psh_11 hs), (psh_12 hs), (psh_13 hs), (psh_14 hs), (psh_15 hs), (prf_1 hs), (prf_2 hs), (prf_3 hs), (prf_4 hs), (prf_6 hs), (prf_7 hs), (prf_8 hs), (prf_10 hs), (prf_11 hs), (prf_12 hs), (prf_13 hs), (prf_15 hs), (prf_17 hs), (prf_18 hs), (prf_19 hs), Nat.add_left_cancel_iff, Nat.left_eq_add, Nat.add_eq_left, (zpn_0 hs), (zpn_1 hs), (zpn_2 hs), (zpn_3 hs), (zpn_4 hs), (zpn_5 hs), (zpn_6 hs), (zpn_7 hs), zTs_12, zTs_13, zTs_14, zTs_15, zTs_16, zTs_17, zTs_o, zTs_u, hv, cl, m1, zN10, zN01, not_true_eq_false, not_false_eq_true, false_implies, true_implies, implies_true, eq_self, nI_1, nI_40, nI_7, vz0, vz1, zb1_e0, zb1_n0]
          have k2 : zKpt (SPs s) J (zu (zu J (s + 1) (dNp D) (tNx E t).2.2.2) (s + 2) (dNp D) (nI v)) := k1.u (by unfold SPs; omega)
          refine z_cV0 (M' := mX5_number) (R' := rX5_number) (i := 4) [.int (nI 0), .int (nI 99)] [.int (nI (dNp D)), .ref (s + 3)] eX5_number k5_125 (by decide +kernel : decode cX5_readPlace 126 = .ok (.invokevirtual 125, 3)) (Nat.le_of_ble_eq_true rfl) ⟨Nat.le_of_ble_eq_true rfl, Nat.le_of_ble_eq_true rfl, Nat.le_of_ble_eq_true rfl, Nat.le_of_ble_eq_true rfl, Nat.le_of_ble_eq_true rfl⟩ rfl rfl rfl sh_4 ?_
          refine cl_number (zEc_k hs k2 hE) ht3 (by omega) (by omega) (fun f hf => ?_) (fun x hx1 => ?_)
          · simp only [hf] at hg
            refine zBlkR (M := mX5_readPlace) (nL := 2) (rt := (Option.some .boolean)) (blk := bX5_readPlace_129) (T := [(145, bX5_readPlace_145), (182, bX5_readPlace_182)]) 2 hX5_readPlace_129 (zChks_cons hX5_readPlace_145 (zChks_cons hX5_readPlace_182 zChks_nil)) rfl rfl rfl (Nat.le_of_ble_eq_true rfl) (Nat.le_of_ble_eq_true rfl) ?_
            simp (implicitDefEqProofs := false) only [bX5_readPlace_129, bX5_readPlace_145, bX5_readPlace_182, zRun_cons, zRun_nil, zLk, zSto, zIns, zFil, zf0, zf1, zf2, zf3, List.filter_cons, List.filter_nil, Nat.reduceAdd, Nat.reduceEqDiff, Nat.reduceLT, Nat.reduceLeDiff, Nat.reduceBEq, Nat.reduceBNe, reduceIte, if_true, if_false, Bool.false_and, Bool.true_and, Bool.and_true, Bool.and_false, Bool.not_false, Bool.not_true, Bool.false_eq_true, beq_self_eq_true, BEq.rfl, zCat1, zCat2, zCat3, zKdI, zKdL, zKdR, true_and, and_true, zSI, zSL, zSR, zu_at, and_self, and_false, false_and, lv_args, zKdZ, zKdO, zB01, zB11, Option.toList_none, Option.toList_some, List.nil_append, List.cons_append, true_or, or_true, zRow_rd, zu_rd, zo_iastore, zo_aload_n, zo_getfield, zo_iload_n, zo_iaload, zo_iconst, zo_icmp_ne, zo_ireturn, zo_dup, zo_iadd, zo_putfield, zo_putfield_2, zo_putfield_3, zo_bipush, zo_icmp_eq, zi_m1, zi_0, zi_1, zb_35, zKd_5_8, zKd_4_3, zKd_4_4, zKd_4_0, zTy_4_0, zKd_5_0, zKd_7_6, sh_4, rf_4_8, sh_55, rf_55_3, sh_58, sh_71, rf_71_3, sh_74, zcl_0, rf_55_4, sh_59, rf_71_4, sh_75, zcl_1, rf_4_0, sh_1, zcl_35, zvi_0_5, zvi_1_5, zRt, zPutC, zKn_s, zKn_0, zFind, (psh_0 hs), (psh_1 hs), (psh_2 hs), (psh_3 hs), (psh_4 hs), (psh_5 hs), (psh_6 hs), (psh_7 hs), (psh_8 hs), (psh_9 hs), (psh_10 hs), (psh_11 hs), (psh_12 hs), (psh_13 hs), (psh_14 hs), (psh_15 hs), (prf_1 hs), (prf_2 hs), (prf_3 hs), (prf_4 hs), (prf_6 hs), (prf_7 hs), (prf_8 hs), (prf_10 hs), (prf_11 hs), (prf_12 hs), (prf_13 hs), (prf_15 hs), (prf_17 hs), (prf_18 hs), (prf_19 hs), Nat.add_left_cancel_iff, Nat.left_eq_add, Nat.add_eq_left, (zpn_0 hs), (zpn_1 hs), (zpn_2 hs), (zpn_3 hs), (zpn_4 hs), (zpn_5 hs), (zpn_6 hs), (zpn_7 hs), zTs_12, zTs_13, zTs_14, zTs_15, zTs_16, zTs_17, zTs_o, zTs_u, hv, cl, zN10, zN01, not_true_eq_false, not_false_eq_true, false_implies, true_implies, implies_true, eq_self, nI_1, nI_40, nI_7, vz0, vz1, zb1_e0, zb1_n0]
            exact hF _ _ _ _ hg (((k2.u (by unfold SPs; omega)).u (by unfold SPs; omega)).u (by unfold SPs; omega)) (by simp [zu_at]; omega) (by simp [zu_at]; omega)
          · obtain ⟨-, -, -, -, b2⟩ := gN_inr ht3 hx1
            simp only [hx1] at hg
            have m2 : (nI x = -1) = False := nI_neg1 (by omega)
            have k3 : zKpt (SPs s) J (zu (zu (zu (zu (zu J (s + 1) (dNp D) (tNx E t).2.2.2) (s + 2) (dNp D) (nI v)) (s + 3) (dNp D) (nI x)) (s + 4) (dNp D) (-1)) s 0 (nI (dNp D + 1))) := ((k2.u (by unfold SPs; omega)).u (by unfold SPs; omega)).u (by unfold SPs; omega)
            by_cases k35 : (tNx E (tNx E (tNx E (tNx E t)))).2.2.1 = 35
            · have k35' : ((tNx E (tNx E (tNx E (tNx E t)))).2.2.1 = 35) = True := eq_true k35
              rw [if_pos k35] at hg
              refine zBlkR (M := mX5_readPlace) (nL := 2) (rt := (Option.some .boolean)) (blk := bX5_readPlace_129) (T := [(145, bX5_readPlace_145), (182, bX5_readPlace_182)]) 2 hX5_readPlace_129 (zChks_cons hX5_readPlace_145 (zChks_cons hX5_readPlace_182 zChks_nil)) rfl rfl rfl (Nat.le_of_ble_eq_true rfl) (Nat.le_of_ble_eq_true rfl) ?_
              simp (implicitDefEqProofs := false) only [bX5_readPlace_129, bX5_readPlace_145, bX5_readPlace_182, zRun_cons, zRun_nil, zLk, zSto, zIns, zFil, zf0, zf1, zf2, zf3, List.filter_cons, List.filter_nil, Nat.reduceAdd, Nat.reduceEqDiff, Nat.reduceLT, Nat.reduceLeDiff, Nat.reduceBEq, Nat.reduceBNe, reduceIte, if_true, if_false, Bool.false_and, Bool.true_and, Bool.and_true, Bool.and_false, Bool.not_false, Bool.not_true, Bool.false_eq_true, beq_self_eq_true, BEq.rfl, zCat1, zCat2, zCat3, zKdI, zKdL, zKdR, true_and, and_true, zSI, zSL, zSR, zu_at, and_self, and_false, false_and, lv_args, zKdZ, zKdO, zB01, zB11, Option.toList_none, Option.toList_some, List.nil_append, List.cons_append, true_or, or_true, zRow_rd, zu_rd, zo_iastore, zo_aload_n, zo_getfield, zo_iload_n, zo_iaload, zo_iconst, zo_icmp_ne, zo_ireturn, zo_dup, zo_iadd, zo_putfield, zo_putfield_2, zo_putfield_3, zo_bipush, zo_icmp_eq, zi_m1, zi_0, zi_1, zb_35, zKd_5_8, zKd_4_3, zKd_4_4, zKd_4_0, zTy_4_0, zKd_5_0, zKd_7_6, sh_4, rf_4_8, sh_55, rf_55_3, sh_58, sh_71, rf_71_3, sh_74, zcl_0, rf_55_4, sh_59, rf_71_4, sh_75, zcl_1, rf_4_0, sh_1, zcl_35, zvi_0_5, zvi_1_5, zRt, zPutC, zKn_s, zKn_0, zFind, (psh_0 hs), (psh_1 hs), (psh_2 hs), (psh_3 hs), (psh_4 hs), (psh_5 hs), (psh_6 hs), (psh_7 hs), (psh_8 hs), (psh_9 hs), (psh_10 hs), (psh_11 hs), (psh_12 hs), (psh_13 hs), (psh_14 hs), (psh_15 hs), (prf_1 hs), (prf_2 hs), (prf_3 hs), (prf_4 hs), (prf_6 hs), (prf_7 hs), (prf_8 hs), (prf_10 hs), (prf_11 hs), (prf_12 hs), (prf_13 hs), (prf_15 hs), (prf_17 hs), (prf_18 hs), (prf_19 hs), Nat.add_left_cancel_iff, Nat.left_eq_add, Nat.add_eq_left, (zpn_0 hs), (zpn_1 hs), (zpn_2 hs), (zpn_3 hs), (zpn_4 hs), (zpn_5 hs), (zpn_6 hs), (zpn_7 hs), zTs_12, zTs_13, zTs_14, zTs_15, zTs_16, zTs_17, zTs_o, zTs_u, hv, cl, m2, d0, nI_1, y35, k35', zN10, zN01, not_true_eq_false, not_false_eq_true, false_implies, true_implies, implies_true, eq_self, nI_1, nI_40, nI_7, vz0, vz1, zb1_e0, zb1_n0]
              refine z_cV0 (M' := mX7_advance) (R' := rX7_advance) (i := 1) [] [] eX7_advance k5_81 (by decide +kernel : decode cX5_readPlace 186 = .ok (.invokevirtual 81, 3)) (Nat.le_of_ble_eq_true rfl) ⟨Nat.le_of_ble_eq_true rfl, Nat.le_of_ble_eq_true rfl, Nat.le_of_ble_eq_true rfl, Nat.le_of_ble_eq_true rfl, Nat.le_of_ble_eq_true rfl⟩ rfl rfl rfl sh_1 ?_
              refine cl_adv (zEc_k hs k3 hE) ht4 ?_
              refine zBlkR (M := mX5_readPlace) (nL := 2) (rt := (Option.some .boolean)) (blk := bX5_readPlace_189) (T := []) 0 hX5_readPlace_189 zChks_nil rfl rfl rfl (Nat.le_of_ble_eq_true rfl) (Nat.le_of_ble_eq_true rfl) ?_
              simp (implicitDefEqProofs := false) only [bX5_readPlace_189, zRun_cons, zRun_nil, zLk, zSto, zIns, zFil, zf0, zf1, zf2, zf3, List.filter_cons, List.filter_nil, Nat.reduceAdd, Nat.reduceEqDiff, Nat.reduceLT, Nat.reduceLeDiff, Nat.reduceBEq, Nat.reduceBNe, reduceIte, if_true, if_false, Bool.false_and, Bool.true_and, Bool.and_true, Bool.and_false, Bool.not_false, Bool.not_true, Bool.false_eq_true, beq_self_eq_true, BEq.rfl, zCat1, zCat2, zCat3, zKdI, zKdL, zKdR, true_and, and_true, zSI, zSL, zSR, zu_at, and_self, and_false, false_and, lv_args, zKdZ, zKdO, zB01, zB11, Option.toList_none, Option.toList_some, List.nil_append, List.cons_append, true_or, or_true, zRow_rd, zu_rd, zo_aload_n, zo_getfield, zo_iload_n, zo_iconst, zo_bipush, zi_0, zb_95, zKd_5_8, zKd_4_4, sh_4, rf_4_8, sh_55, rf_55_4, sh_59, sh_71, rf_71_4, sh_75, zcl_0, zcl_95, zvi_0_5, zKn_0, (psh_0 hs), (psh_1 hs), (psh_2 hs), (psh_3 hs), (psh_4 hs), (psh_5 hs), (psh_6 hs), (psh_7 hs), (psh_8 hs), (psh_9 hs), (psh_10 hs), (psh_11 hs), (psh_12 hs), (psh_13 hs), (psh_14 hs), (psh_15 hs), (prf_1 hs), (prf_2 hs), (prf_3 hs), (prf_4 hs), (prf_6 hs), (prf_7 hs), (prf_8 hs), (prf_10 hs), (prf_11 hs), (prf_12 hs), (prf_13 hs), (prf_15 hs), (prf_17 hs), (prf_18 hs), (prf_19 hs), Nat.add_left_cancel_iff, Nat.left_eq_add, Nat.add_eq_left, (zpn_0 hs), (zpn_1 hs), (zpn_2 hs), (zpn_3 hs), (zpn_4 hs), (zpn_5 hs), (zpn_6 hs), (zpn_7 hs), zTs_12, zTs_13, zTs_14, zTs_15, zTs_16, zTs_17, zTs_o, zTs_u, zN10, zN01, not_true_eq_false, not_false_eq_true, false_implies, true_implies, implies_true, eq_self, nI_1, nI_40, nI_7, vz0, vz1, zb1_e0, zb1_n0]
              refine z_cV0 (M' := mX5_number) (R' := rX5_number) (i := 4) [.int (nI 0), .int (nI 95)] [.int (nI (dNp D)), .ref (s + 4)] eX5_number k5_125 (by decide +kernel : decode cX5_readPlace 201 = .ok (.invokevirtual 125, 3)) (Nat.le_of_ble_eq_true rfl) ⟨Nat.le_of_ble_eq_true rfl, Nat.le_of_ble_eq_true rfl, Nat.le_of_ble_eq_true rfl, Nat.le_of_ble_eq_true rfl, Nat.le_of_ble_eq_true rfl⟩ rfl rfl rfl sh_4 ?_
              refine cl_number (zEc_k hs k3 hE) ht5 (by omega) (by omega) (fun f hf => ?_) (fun z hz1 => ?_)
              · simp only [hf] at hg
                refine zBlkR (M := mX5_readPlace) (nL := 2) (rt := (Option.some .boolean)) (blk := bX5_readPlace_204) (T := [(222, bX5_readPlace_222), (223, bX5_readPlace_223)]) 1 hX5_readPlace_204 (zChks_cons hX5_readPlace_222 (zChks_cons hX5_readPlace_223 zChks_nil)) rfl rfl rfl (Nat.le_of_ble_eq_true rfl) (Nat.le_of_ble_eq_true rfl) ?_
                simp (implicitDefEqProofs := false) only [bX5_readPlace_204, bX5_readPlace_222, bX5_readPlace_223, zRun_cons, zRun_nil, zLk, zSto, zIns, zFil, zf0, zf1, zf2, zf3, List.filter_cons, List.filter_nil, Nat.reduceAdd, Nat.reduceEqDiff, Nat.reduceLT, Nat.reduceLeDiff, Nat.reduceBEq, Nat.reduceBNe, reduceIte, if_true, if_false, Bool.false_and, Bool.true_and, Bool.and_true, Bool.and_false, Bool.not_false, Bool.not_true, Bool.false_eq_true, beq_self_eq_true, BEq.rfl, zCat1, zCat2, zCat3, zKdI, zKdL, zKdR, true_and, and_true, zSI, zSL, zSR, zu_at, and_self, and_false, false_and, lv_args, zKdZ, zKdO, zB01, zB11, Option.toList_none, Option.toList_some, List.nil_append, List.cons_append, true_or, or_true, zRow_rd, zu_rd, zo_iastore, zo_aload_n, zo_getfield, zo_iload_n, zo_iaload, zo_iconst, zo_icmp_eq, zo_goto, zo_ireturn, zi_m1, zi_1, zi_0, zKd_5_8, zKd_4_4, sh_4, rf_4_8, sh_55, rf_55_4, sh_59, sh_71, rf_71_4, sh_75, zcl_1, zcl_0, zvi_1_5, zvi_0_5, zRt, zKn_s, zKn_0, zFind, (psh_0 hs), (psh_1 hs), (psh_2 hs), (psh_3 hs), (psh_4 hs), (psh_5 hs), (psh_6 hs), (psh_7 hs), (psh_8 hs), (psh_9 hs), (psh_10 hs), (psh_11 hs), (psh_12 hs), (psh_13 hs), (psh_14 hs), (psh_15 hs), (prf_1 hs), (prf_2 hs), (prf_3 hs), (prf_4 hs), (prf_6 hs), (prf_7 hs), (prf_8 hs), (prf_10 hs), (prf_11 hs), (prf_12 hs), (prf_13 hs), (prf_15 hs), (prf_17 hs), (prf_18 hs), (prf_19 hs), Nat.add_left_cancel_iff, Nat.left_eq_add, Nat.add_eq_left, (zpn_0 hs), (zpn_1 hs), (zpn_2 hs), (zpn_3 hs), (zpn_4 hs), (zpn_5 hs), (zpn_6 hs), (zpn_7 hs), zTs_12, zTs_13, zTs_14, zTs_15, zTs_16, zTs_17, zTs_o, zTs_u, hv, cl, zN10, zN01, not_true_eq_false, not_false_eq_true, false_implies, true_implies, implies_true, eq_self, nI_1, nI_40, nI_7, vz0, vz1, zb1_e0, zb1_n0]
                exact hF _ _ _ _ hg (((k3.u (by unfold SPs; omega)).u (by unfold SPs; omega)).u (by unfold SPs; omega)) (by simp [zu_at]; omega) (by simp [zu_at]; omega)
              · obtain ⟨-, -, -, -, b3⟩ := gN_inr ht5 hz1
                simp only [hz1] at hg
                have m3 : (nI z = -1) = False := nI_neg1 (by omega)
                refine zBlkR (M := mX5_readPlace) (nL := 2) (rt := (Option.some .boolean)) (blk := bX5_readPlace_204) (T := [(222, bX5_readPlace_222), (223, bX5_readPlace_223)]) 1 hX5_readPlace_204 (zChks_cons hX5_readPlace_222 (zChks_cons hX5_readPlace_223 zChks_nil)) rfl rfl rfl (Nat.le_of_ble_eq_true rfl) (Nat.le_of_ble_eq_true rfl) ?_
                simp (implicitDefEqProofs := false) only [bX5_readPlace_204, bX5_readPlace_222, bX5_readPlace_223, zRun_cons, zRun_nil, zLk, zSto, zIns, zFil, zf0, zf1, zf2, zf3, List.filter_cons, List.filter_nil, Nat.reduceAdd, Nat.reduceEqDiff, Nat.reduceLT, Nat.reduceLeDiff, Nat.reduceBEq, Nat.reduceBNe, reduceIte, if_true, if_false, Bool.false_and, Bool.true_and, Bool.and_true, Bool.and_false, Bool.not_false, Bool.not_true, Bool.false_eq_true, beq_self_eq_true, BEq.rfl, zCat1, zCat2, zCat3, zKdI, zKdL, zKdR, true_and, and_true, zSI, zSL, zSR, zu_at, and_self, and_false, false_and, lv_args, zKdZ, zKdO, zB01, zB11, Option.toList_none, Option.toList_some, List.nil_append, List.cons_append, true_or, or_true, zRow_rd, zu_rd, zo_iastore, zo_aload_n, zo_getfield, zo_iload_n, zo_iaload, zo_iconst, zo_icmp_eq, zo_goto, zo_ireturn, zi_m1, zi_1, zi_0, zKd_5_8, zKd_4_4, sh_4, rf_4_8, sh_55, rf_55_4, sh_59, sh_71, rf_71_4, sh_75, zcl_1, zcl_0, zvi_1_5, zvi_0_5, zRt, zKn_s, zKn_0, zFind, (psh_0 hs), (psh_1 hs), (psh_2 hs), (psh_3 hs), (psh_4 hs), (psh_5 hs), (psh_6 hs), (psh_7 hs), (psh_8 hs), (psh_9 hs), (psh_10 hs), (psh_11 hs), (psh_12 hs), (psh_13 hs), (psh_14 hs), (psh_15 hs), (prf_1 hs), (prf_2 hs), (prf_3 hs), (prf_4 hs), (prf_6 hs), (prf_7 hs), (prf_8 hs), (prf_10 hs), (prf_11 hs), (prf_12 hs), (prf_13 hs), (prf_15 hs), (prf_17 hs), (prf_18 hs), (prf_19 hs), Nat.add_left_cancel_iff, Nat.left_eq_add, Nat.add_eq_left, (zpn_0 hs), (zpn_1 hs), (zpn_2 hs), (zpn_3 hs), (zpn_4 hs), (zpn_5 hs), (zpn_6 hs), (zpn_7 hs), zTs_12, zTs_13, zTs_14, zTs_15, zTs_16, zTs_17, zTs_o, zTs_u, hv, cl, m3, zN10, zN01, not_true_eq_false, not_false_eq_true, false_implies, true_implies, implies_true, eq_self, nI_1, nI_40, nI_7, vz0, vz1, zb1_e0, zb1_n0]
                refine hG _ _ _ hg (k3.u (by unfold SPs; omega)) (zDc_place hs hD ((((((zKpt_rfl.u (by omega)).u (by omega)).u (by omega)).u (by omega)).u (by omega)).u (by omega)) ?_ ?_ ?_ ?_ ?_)
                · simp [zu_at]
                · simp [zu_at]
                · simp [zu_at]
                · simp [zu_at]
                · simp [zu_at]
            · have k35' : ((tNx E (tNx E (tNx E (tNx E t)))).2.2.1 = 35) = False := eq_false k35
              rw [if_neg k35] at hg
              refine zBlkR (M := mX5_readPlace) (nL := 2) (rt := (Option.some .boolean)) (blk := bX5_readPlace_129) (T := [(145, bX5_readPlace_145), (182, bX5_readPlace_182)]) 2 hX5_readPlace_129 (zChks_cons hX5_readPlace_145 (zChks_cons hX5_readPlace_182 zChks_nil)) rfl rfl rfl (Nat.le_of_ble_eq_true rfl) (Nat.le_of_ble_eq_true rfl) ?_
              simp (implicitDefEqProofs := false) only [bX5_readPlace_129, bX5_readPlace_145, bX5_readPlace_182, zRun_cons, zRun_nil, zLk, zSto, zIns, zFil, zf0, zf1, zf2, zf3, List.filter_cons, List.filter_nil, Nat.reduceAdd, Nat.reduceEqDiff, Nat.reduceLT, Nat.reduceLeDiff, Nat.reduceBEq, Nat.reduceBNe, reduceIte, if_true, if_false, Bool.false_and, Bool.true_and, Bool.and_true, Bool.and_false, Bool.not_false, Bool.not_true, Bool.false_eq_true, beq_self_eq_true, BEq.rfl, zCat1, zCat2, zCat3, zKdI, zKdL, zKdR, true_and, and_true, zSI, zSL, zSR, zu_at, and_self, and_false, false_and, lv_args, zKdZ, zKdO, zB01, zB11, Option.toList_none, Option.toList_some, List.nil_append, List.cons_append, true_or, or_true, zRow_rd, zu_rd, zo_iastore, zo_aload_n, zo_getfield, zo_iload_n, zo_iaload, zo_iconst, zo_icmp_ne, zo_ireturn, zo_dup, zo_iadd, zo_putfield, zo_putfield_2, zo_putfield_3, zo_bipush, zo_icmp_eq, zi_m1, zi_0, zi_1, zb_35, zKd_5_8, zKd_4_3, zKd_4_4, zKd_4_0, zTy_4_0, zKd_5_0, zKd_7_6, sh_4, rf_4_8, sh_55, rf_55_3, sh_58, sh_71, rf_71_3, sh_74, zcl_0, rf_55_4, sh_59, rf_71_4, sh_75, zcl_1, rf_4_0, sh_1, zcl_35, zvi_0_5, zvi_1_5, zRt, zPutC, zKn_s, zKn_0, zFind, (psh_0 hs), (psh_1 hs), (psh_2 hs), (psh_3 hs), (psh_4 hs), (psh_5 hs), (psh_6 hs), (psh_7 hs), (psh_8 hs), (psh_9 hs), (psh_10 hs), (psh_11 hs), (psh_12 hs), (psh_13 hs), (psh_14 hs), (psh_15 hs), (prf_1 hs), (prf_2 hs), (prf_3 hs), (prf_4 hs), (prf_6 hs), (prf_7 hs), (prf_8 hs), (prf_10 hs), (prf_11 hs), (prf_12 hs), (prf_13 hs), (prf_15 hs), (prf_17 hs), (prf_18 hs), (prf_19 hs), Nat.add_left_cancel_iff, Nat.left_eq_add, Nat.add_eq_left, (zpn_0 hs), (zpn_1 hs), (zpn_2 hs), (zpn_3 hs), (zpn_4 hs), (zpn_5 hs), (zpn_6 hs), (zpn_7 hs), zTs_12, zTs_13, zTs_14, zTs_15, zTs_16, zTs_17, zTs_o, zTs_u, hv, cl, m2, d0, nI_1, y35, k35', zN10, zN01, not_true_eq_false, not_false_eq_true, false_implies, true_implies, implies_true, eq_self, nI_1, nI_40, nI_7, vz0, vz1, zb1_e0, zb1_n0]
              refine hG _ _ _ hg k3 (zDc_place hs hD (((((zKpt_rfl.u (by omega)).u (by omega)).u (by omega)).u (by omega)).u (by omega)) ?_ ?_ ?_ ?_ ?_)
              · simp [zu_at]
              · simp [zu_at]
              · simp [zu_at]
              · simp [zu_at]
              · simp [zu_at]
      · have q1' : (oFnd (dR D 90) (dNp D) (tVl (tNx E t)) = -1) = False := eq_false q1
        rw [if_neg q1] at hg
        refine zBlkR (M := mX5_readPlace) (nL := 2) (rt := (Option.some .boolean)) (blk := bX5_readPlace_50) (T := [(60, bX5_readPlace_60)]) 1 hX5_readPlace_50 (zChks_cons hX5_readPlace_60 zChks_nil) rfl rfl rfl (Nat.le_of_ble_eq_true rfl) (Nat.le_of_ble_eq_true rfl) ?_
        simp (implicitDefEqProofs := false) only [bX5_readPlace_50, bX5_readPlace_60, zRun_cons, zRun_nil, zLk, zSto, zIns, zFil, zf0, zf1, zf2, zf3, List.filter_cons, List.filter_nil, Nat.reduceAdd, Nat.reduceEqDiff, Nat.reduceLT, Nat.reduceLeDiff, Nat.reduceBEq, Nat.reduceBNe, reduceIte, if_true, if_false, Bool.false_and, Bool.true_and, Bool.and_true, Bool.and_false, Bool.not_false, Bool.not_true, Bool.false_eq_true, beq_self_eq_true, BEq.rfl, zCat1, zCat2, zCat3, zKdI, zKdL, zKdR, true_and, and_true, zSI, zSL, zSR, zu_at, and_self, and_false, false_and, lv_args, zKdZ, zKdO, zB01, zB11, Option.toList_none, Option.toList_some, List.nil_append, List.cons_append, true_or, or_true, zRow_rd, zu_rd, zo_iconst, zo_icmp_eq, zo_aload_n, zo_getfield, zo_iload_n, zo_iastore, zi_m1, zi_3, zKd_5_8, zKd_4_1, zKd_5_0, zKd_7_7, zcl_3, sh_4, rf_4_8, sh_55, rf_55_1, sh_56, sh_71, rf_71_1, sh_72, rf_4_0, sh_1, zvi_3_5, zKn_s, zKn_0, zFind, q1', zN10, zN01, not_true_eq_false, not_false_eq_true, false_implies, true_implies, implies_true, eq_self, nI_1, nI_40, nI_7, vz0, vz1, zb1_e0, zb1_n0]
        refine z_cV0 (M' := mX5_fail) (R' := rX5_fail) (i := 4) [.int 3] [] eX5_fail k5_78 (by decide +kernel : decode cX5_readPlace 56 = .ok (.invokevirtual 78, 3)) (Nat.le_of_ble_eq_true rfl) ⟨Nat.le_of_ble_eq_true rfl, Nat.le_of_ble_eq_true rfl, Nat.le_of_ble_eq_true rfl, Nat.le_of_ble_eq_true rfl, Nat.le_of_ble_eq_true rfl⟩ rfl rfl rfl sh_4 ?_
        refine cl_fail ?_
        refine zBlkR (M := mX5_readPlace) (nL := 2) (rt := (Option.some .boolean)) (blk := bX5_readPlace_59) (T := []) 0 hX5_readPlace_59 zChks_nil rfl rfl rfl (Nat.le_of_ble_eq_true rfl) (Nat.le_of_ble_eq_true rfl) ?_
        simp (implicitDefEqProofs := false) only [bX5_readPlace_59, zRun_cons, zRun_nil, zLk, zSto, zIns, zFil, zf0, zf1, zf2, zf3, List.filter_cons, List.filter_nil, Nat.reduceAdd, Nat.reduceEqDiff, Nat.reduceLT, Nat.reduceLeDiff, Nat.reduceBEq, Nat.reduceBNe, reduceIte, if_true, if_false, Bool.false_and, Bool.true_and, Bool.and_true, Bool.and_false, Bool.not_false, Bool.not_true, Bool.false_eq_true, beq_self_eq_true, BEq.rfl, zCat1, zCat2, zCat3, zKdI, zKdL, zKdR, true_and, and_true, zSI, zSL, zSR, zu_at, and_self, and_false, false_and, lv_args, zKdZ, zKdO, zB01, zB11, Option.toList_none, Option.toList_some, List.nil_append, List.cons_append, true_or, or_true, zRow_rd, zu_rd, zo_ireturn, zRt, zKn_0, zN10, zN01, not_true_eq_false, not_false_eq_true, false_implies, true_implies, implies_true, eq_self, nI_1, nI_40, nI_7, vz0, vz1, zb1_e0, zb1_n0]
        exact hF _ _ _ _ hg ((zKpt_rfl.u (by unfold SPs; omega)).u (by unfold SPs; omega)) (by simp [zu_at]; rfl) (by simp [zu_at])
    · have k3' : ((tNx E t).2.2.1 = 3) = False := eq_false k3
      rw [if_neg k3] at hg
      refine zBlkR (M := mX5_readPlace) (nL := 2) (rt := (Option.some .boolean)) (blk := bX5_readPlace_14) (T := [(19, bX5_readPlace_19), (36, bX5_readPlace_36)]) 2 hX5_readPlace_14 (zChks_cons hX5_readPlace_19 (zChks_cons hX5_readPlace_36 zChks_nil)) rfl rfl rfl (Nat.le_of_ble_eq_true rfl) (Nat.le_of_ble_eq_true rfl) ?_
      simp (implicitDefEqProofs := false) only [bX5_readPlace_14, bX5_readPlace_19, bX5_readPlace_36, zRun_cons, zRun_nil, zLk, zSto, zIns, zFil, zf0, zf1, zf2, zf3, List.filter_cons, List.filter_nil, Nat.reduceAdd, Nat.reduceEqDiff, Nat.reduceLT, Nat.reduceLeDiff, Nat.reduceBEq, Nat.reduceBNe, reduceIte, if_true, if_false, Bool.false_and, Bool.true_and, Bool.and_true, Bool.and_false, Bool.not_false, Bool.not_true, Bool.false_eq_true, beq_self_eq_true, BEq.rfl, zCat1, zCat2, zCat3, zKdI, zKdL, zKdR, true_and, and_true, zSI, zSL, zSR, zu_at, and_self, and_false, false_and, lv_args, zKdZ, zKdO, zB01, zB11, Option.toList_none, Option.toList_some, List.nil_append, List.cons_append, true_or, or_true, zRow_rd, zu_rd, zo_if_ne, zo_iconst, zo_ireturn, zo_aload_n, zo_getfield, zo_icmp_eq, zi_0, zi_3, zi_1, zKd_5_0, zKd_7_6, zKd_5_8, zKd_7_7, zcl_0, sh_4, rf_4_0, sh_1, zcl_3, zcl_1, rf_4_8, zRt, zKn_s, zKn_0, zFind, (psh_0 hs), (psh_1 hs), (psh_2 hs), (psh_3 hs), (psh_4 hs), (psh_5 hs), (psh_6 hs), (psh_7 hs), (psh_8 hs), (psh_9 hs), (psh_10 hs), (psh_11 hs), (psh_12 hs), (psh_13 hs), (psh_14 hs), (psh_15 hs), (prf_1 hs), (prf_2 hs), (prf_3 hs), (prf_4 hs), (prf_6 hs), (prf_7 hs), (prf_8 hs), (prf_10 hs), (prf_11 hs), (prf_12 hs), (prf_13 hs), (prf_15 hs), (prf_17 hs), (prf_18 hs), (prf_19 hs), Nat.add_left_cancel_iff, Nat.left_eq_add, Nat.add_eq_left, (zpn_0 hs), (zpn_1 hs), (zpn_2 hs), (zpn_3 hs), (zpn_4 hs), (zpn_5 hs), (zpn_6 hs), (zpn_7 hs), zTs_12, zTs_13, zTs_14, zTs_15, zTs_16, zTs_17, zTs_o, zTs_u, y3, k3', zN10, zN01, not_true_eq_false, not_false_eq_true, false_implies, true_implies, implies_true, eq_self, nI_1, nI_40, nI_7, vz0, vz1, zb1_e0, zb1_n0]
      refine z_cV0 (M' := mX5_fail) (R' := rX5_fail) (i := 4) [.int 1] [] eX5_fail k5_78 (by decide +kernel : decode cX5_readPlace 32 = .ok (.invokevirtual 78, 3)) (Nat.le_of_ble_eq_true rfl) ⟨Nat.le_of_ble_eq_true rfl, Nat.le_of_ble_eq_true rfl, Nat.le_of_ble_eq_true rfl, Nat.le_of_ble_eq_true rfl, Nat.le_of_ble_eq_true rfl⟩ rfl rfl rfl sh_4 ?_
      refine cl_fail ?_
      refine zBlkR (M := mX5_readPlace) (nL := 2) (rt := (Option.some .boolean)) (blk := bX5_readPlace_35) (T := []) 0 hX5_readPlace_35 zChks_nil rfl rfl rfl (Nat.le_of_ble_eq_true rfl) (Nat.le_of_ble_eq_true rfl) ?_
      simp (implicitDefEqProofs := false) only [bX5_readPlace_35, zRun_cons, zRun_nil, zLk, zSto, zIns, zFil, zf0, zf1, zf2, zf3, List.filter_cons, List.filter_nil, Nat.reduceAdd, Nat.reduceEqDiff, Nat.reduceLT, Nat.reduceLeDiff, Nat.reduceBEq, Nat.reduceBNe, reduceIte, if_true, if_false, Bool.false_and, Bool.true_and, Bool.and_true, Bool.and_false, Bool.not_false, Bool.not_true, Bool.false_eq_true, beq_self_eq_true, BEq.rfl, zCat1, zCat2, zCat3, zKdI, zKdL, zKdR, true_and, and_true, zSI, zSL, zSR, zu_at, and_self, and_false, false_and, lv_args, zKdZ, zKdO, zB01, zB11, Option.toList_none, Option.toList_some, List.nil_append, List.cons_append, true_or, or_true, zRow_rd, zu_rd, zo_ireturn, zRt, zKn_0, zN10, zN01, not_true_eq_false, not_false_eq_true, false_implies, true_implies, implies_true, eq_self, nI_1, nI_40, nI_7, vz0, vz1, zb1_e0, zb1_n0]
      exact hF _ _ _ _ hg ((zKpt_rfl.u (by unfold SPs; omega)).u (by unfold SPs; omega)) (by simp [zu_at]; rfl) (by simp [zu_at])
end ZN98t
end
