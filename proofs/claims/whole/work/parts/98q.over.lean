/-! ===== TEXT: the token laid over the memory, both sides ===== -/
abbrev oTk : Type := Nat × Nat × Nat × Int32
abbrev tAt (t : oTk) : Nat := t.1
abbrev tKd (t : oTk) : Nat := t.2.2.1
abbrev tVl (t : oTk) : Int32 := t.2.2.2
/-- where a text is read: its words, its bytes, its end -/
abbrev oEn : Type := (Nat → Int32) × (Nat → Nat) × Nat
def tNx (E : oEn) (t : oTk) : oTk := oTc E.1 E.2.1 E.2.2 t.2.1
def zTs (J : Nat → Nat → Int32) (t : oTk) : Nat → Nat → Int32 := fun i k => if i = 1 then (if k = 4 then nI t.2.1 else if k = 5 then nI t.1 else if k = 6 then nI t.2.2.1 else if k = 7 then t.2.2.2 else J 1 k) else J i k
def zTq (J : Nat → Nat → Int32) (t : oTk) (kd wh : Int32) : Nat → Nat → Int32 := fun i k => if i = 87 then (if k = 7 then nI t.2.1 else if k = 10 then nI t.1 else if k = 8 then kd else if k = 9 then wh else J 87 k) else J i k
def zEc (J : Nat → Nat → Int32) (E : oEn) : Prop := J 1 3 = nI E.2.2 ∧ J 3 = E.1 ∧ E.2.2 ≤ 700 ∧ ∀ k, k < E.2.2 → J 2 k = oSb (E.2.1 k) ∧ E.2.1 k < 256
def zEr (J : Nat → Nat → Int32) (E : oEn) : Prop := J 87 6 = nI E.2.2 ∧ (∀ k, k < 136 → J 89 k = nI (mWa k)) ∧ (∀ i, i < 27 → E.1 i = nI (cWp i)) ∧ E.2.2 ≤ 700 ∧ ∀ k, k < E.2.2 → J 88 k = nI (E.2.1 k) ∧ E.2.1 k < 256
def tOk (E : oEn) (t : oTk) : Prop := t.1 ≤ E.2.2 ∧ t.2.1 ≤ E.2.2 ∧ t.2.2.1 < 47 ∧ (t.2.2.1 = 2 → ∃ n, n ≤ 1000000 ∧ t.2.2.2 = nI n)
section ZN98q
variable {w : zP} {Q : Option Value → zMem → Prop} {μ : zMem} {I J : Nat → Nat → Int32} {L K : Nat → Nat → Int64} {p s : Nat} {r : Option Nat} {a b c i j k n e m sp : Nat} {x y v kd wh : Int32} {T : Nat → Nat} {W : Nat → Int32} {E : oEn} {t u : oTk}
theorem zTs_14 : zTs J t 1 4 = nI t.2.1 := by simp [zTs]
theorem zTs_15 : zTs J t 1 5 = nI t.1 := by simp [zTs]
theorem zTs_16 : zTs J t 1 6 = nI t.2.2.1 := by simp [zTs]
theorem zTs_17 : zTs J t 1 7 = t.2.2.2 := by simp [zTs]
theorem zTs_13 : zTs J t 1 3 = J 1 3 := by simp [zTs]
theorem zTs_12 : zTs J t 1 2 = J 1 2 := by simp [zTs]
theorem zTs_o (h : (i = 1) = False) : zTs J t i = J i := by
  funext k; unfold zTs; rw [if_neg (fun q => by rw [h] at q; exact q)]
theorem zTs_u (h : (i = 1) = False) : zu (zTs J t) i k v = zTs (zu J i k v) t := by
  have h1 : ¬ i = 1 := fun q => by rw [h] at q; exact q
  funext a b
  unfold zTs
  by_cases g : a = 1
  · subst g
    have h2 : ¬ 1 = i := fun q => h1 q.symm
    simp only [zu_at, h2, false_and, if_false]
  · simp only [zu_at, g, if_false]
theorem zTs_row (h : (i = 1) = False) {f : Nat → Int32} : zRow (zTs J t) i f = zTs (zRow J i f) t := by
  have h1 : ¬ i = 1 := fun q => by rw [h] at q; exact q
  funext a
  by_cases g : a = 1
  · subst g
    rw [zRow_rd, if_neg (fun q => h1 q.symm)]
    funext b
    have h2 : ¬ 1 = i := fun q => h1 q.symm
    simp only [zTs, zRow_rd, h2, if_false, if_true]
  · funext b
    unfold zTs
    rw [zRow_rd]
    by_cases g2 : a = i
    · rw [if_pos g2, if_neg g, zRow_rd, if_pos g2]
    · rw [if_neg g2, if_neg g, if_neg g, zRow_rd, if_neg g2]
theorem zTs_ts : zTs (zTs J t) u = zTs J u := by
  funext a b; unfold zTs
  by_cases g : a = 1
  · simp only [g, if_true]
    repeat' split
    all_goals rfl
  · simp only [g, if_false]
theorem zTs_eq (h : zKpt STj (zTs J t) I) (h5 : I 1 5 = nI u.1) (h4 : I 1 4 = nI u.2.1) (h6 : I 1 6 = nI u.2.2.1) (h7 : I 1 7 = u.2.2.2) : I = zTs J u := by
  funext a b
  unfold zTs
  by_cases g : a = 1
  · subst g
    rw [if_pos rfl]
    by_cases q4 : b = 4
    · rw [if_pos q4, q4, h4]
    · rw [if_neg q4]
      by_cases q5 : b = 5
      · rw [if_pos q5, q5, h5]
      · rw [if_neg q5]
        by_cases q6 : b = 6
        · rw [if_pos q6, q6, h6]
        · rw [if_neg q6]
          by_cases q7 : b = 7
          · rw [if_pos q7, q7, h7]
          · rw [if_neg q7, h 1 b (by unfold STj; omega)]
            unfold zTs
            rw [if_pos rfl, if_neg q4, if_neg q5, if_neg q6, if_neg q7]
  · rw [if_neg g, h a b (by unfold STj; omega)]
    unfold zTs
    rw [if_neg g]
theorem zTq_7 : zTq J t kd wh 87 7 = nI t.2.1 := by simp [zTq]
theorem zTq_10 : zTq J t kd wh 87 10 = nI t.1 := by simp [zTq]
theorem zTq_8 : zTq J t kd wh 87 8 = kd := by simp [zTq]
theorem zTq_9 : zTq J t kd wh 87 9 = wh := by simp [zTq]
theorem zTq_o (h : (i = 87) = False) : zTq J t kd wh i = J i := by
  funext k; unfold zTq; rw [if_neg (fun q => by rw [h] at q; exact q)]
theorem zTq_k (h : (k = 7) = False) (h2 : (k = 8) = False) (h3 : (k = 9) = False) (h4 : (k = 10) = False) : zTq J t kd wh 87 k = J 87 k := by
  unfold zTq; simp only [h, h2, h3, h4, if_true, if_false]
theorem zTq_u (h : (i = 87) = False) : zu (zTq J t kd wh) i k v = zTq (zu J i k v) t kd wh := by
  have h1 : ¬ i = 87 := fun q => by rw [h] at q; exact q
  funext a b
  unfold zTq
  by_cases g : a = 87
  · subst g
    have h2 : ¬ 87 = i := fun q => h1 q.symm
    simp only [zu_at, h2, false_and, if_false]
  · simp only [zu_at, g, if_false]
theorem zTq_uk (h : (k = 7) = False) (h2 : (k = 8) = False) (h3 : (k = 9) = False) (h4 : (k = 10) = False) : zu (zTq J t kd wh) 87 k v = zTq (zu J 87 k v) t kd wh := by
  have g1 : ¬ 7 = k := fun q => by rw [← h]; exact q.symm
  have g2 : ¬ 8 = k := fun q => by rw [← h2]; exact q.symm
  have g3 : ¬ 9 = k := fun q => by rw [← h3]; exact q.symm
  have g4 : ¬ 10 = k := fun q => by rw [← h4]; exact q.symm
  funext a b
  unfold zTq
  by_cases g : a = 87
  · subst g
    simp only [zu_at, if_true, true_and]
    by_cases q : b = k
    · subst q; simp only [h, h2, h3, h4, if_true, if_false]
    · simp only [q, if_false]
  · simp only [zu_at, g, if_false, false_and]
theorem zTq_eq (h : zKpt SRj (zTq J t kd wh) I) (h10 : I 87 10 = nI u.1) (h7 : I 87 7 = nI u.2.1) : I = zTq J u (I 87 8) (I 87 9) := by
  funext a b
  unfold zTq
  by_cases g : a = 87
  · subst g
    rw [if_pos rfl]
    by_cases q4 : b = 7
    · rw [if_pos q4, q4, h7]
    · rw [if_neg q4]
      by_cases q5 : b = 10
      · rw [if_pos q5, q5, h10]
      · rw [if_neg q5]
        by_cases q6 : b = 8
        · rw [if_pos q6, q6]
        · rw [if_neg q6]
          by_cases q7 : b = 9
          · rw [if_pos q7, q7]
          · rw [if_neg q7, h 87 b (by unfold SRj; omega)]
            unfold zTq
            rw [if_pos rfl, if_neg q4, if_neg q5, if_neg q6, if_neg q7]
  · rw [if_neg g, h a b (by unfold SRj; omega)]
    unfold zTq
    rw [if_neg g]
theorem oWk_lt : oWk W v < 47 := by unfold oWk; split <;> omega
theorem oWk_3 : 3 ≤ oWk W v := by unfold oWk; split <;> omega
theorem oNm_b {T : Nat → Nat} : ∀ n i v, v ≤ 1000000 → (oNm T n i v).2 ≤ 1000000 ∧ i ≤ (oNm T n i v).1 ∧ (oNm T n i v).1 ≤ i + n
  | 0, i, v, h => ⟨h, Nat.le_refl _, Nat.le_refl _⟩
  | n + 1, i, v, h => by
    unfold oNm
    split
    · have := oNm_b (T := T) n (i + 1) (min 1000000 (v * 10 + T i - 48)) (by omega)
      omega
    · exact ⟨h, Nat.le_refl _, by show i ≤ i + (n + 1); omega⟩
theorem oSk_ge {T : Nat → Nat} : ∀ n i, i ≤ oSk T n i
  | 0, i => Nat.le_refl _
  | n + 1, i => by
    unfold oSk
    split
    · have := oSk_ge (T := T) n (i + 1); omega
    · omega
theorem oMk_b : oMk b < 47 ∧ 0 < oMk b ∧ oMk b ≠ 2 := by unfold oMk; (repeat' split) <;> omega
theorem oCp_b : oCp a b < 13 ∧ 7 ≤ oCp a b := by unfold oCp; (repeat' split) <;> omega
/-- what is known of a token -/
theorem oTc_ok (hi : i ≤ e) : (oTc W T e i).1 ≤ e ∧ (oTc W T e i).2.1 ≤ e ∧ i ≤ (oTc W T e i).2.1 ∧ ((oTc W T e i).2.2.1 ≠ 0 → i < (oTc W T e i).2.1) ∧ (oTc W T e i).2.2.1 < 47 ∧ ((oTc W T e i).2.2.1 = 2 → ∃ n, n ≤ 1000000 ∧ (oTc W T e i).2.2.2 = nI n) := by
  have h1 := oSk_ge (T := T) (e - i) i
  have h2 := oSk_le (T := T) (e - i) i
  rw [oTc_d]
  generalize oSk T (e - i) i = q at h1 h2 ⊢
  unfold oTd
  by_cases g : e ≤ q
  · rw [if_pos g]
    exact ⟨by show q ≤ e; omega, by show q ≤ e; omega, h1, fun h => absurd rfl h, by show 0 < 47; omega, fun h => absurd h (by show ¬ 0 = 2; omega)⟩
  · rw [if_neg g]
    by_cases gl : oLet (T q) = true
    · rw [if_pos gl]
      obtain ⟨w1, w2⟩ := oWr_1 (T := T) (e - q) q 0 0
      have w3 := oLn_le (T := T) (e - q) q
      have w4 : 0 < oLn T (e - q) q := by
        obtain ⟨d, hd⟩ : ∃ d, e - q = d + 1 := ⟨e - q - 1, by omega⟩
        rw [hd]; unfold oLn; rw [if_pos gl]; omega
      refine ⟨by show q ≤ e; omega, by show (oWr T (e - q) q 0 0).1 ≤ e; omega, by show i ≤ (oWr T (e - q) q 0 0).1; omega, fun _ => by show i < (oWr T (e - q) q 0 0).1; omega, ?_, ?_⟩
      · show (if _ then _ else _) < 47
        split
        · exact oWk_lt
        · omega
      · show (if _ then _ else _) = 2 → _
        split
        · intro h; have := oWk_3 (W := W) (v := (oWr T (e - q) q 0 0).2.2); omega
        · intro h; omega
    · rw [if_neg gl]
      by_cases gd : oDig (T q) = true
      · rw [if_pos gd]
        have w1 := oNm_b (T := T) (e - q) q 0 (by omega)
        have w4 : q < (oNm T (e - q) q 0).1 := by
          obtain ⟨d, hd⟩ : ∃ d, e - q = d + 1 := ⟨e - q - 1, by omega⟩
          rw [hd]; unfold oNm; rw [if_pos gd]
          have := oNm_b (T := T) d (q + 1) (min 1000000 (0 * 10 + T q - 48)) (by omega)
          omega
        exact ⟨by show q ≤ e; omega, by show (oNm T (e - q) q 0).1 ≤ e; omega, by show i ≤ (oNm T (e - q) q 0).1; omega, fun _ => by show i < (oNm T (e - q) q 0).1; omega, by show 2 < 47; omega, fun _ => ⟨_, w1.1, rfl⟩⟩
      · rw [if_neg gd]
        have w1 : q < (oMr T e q).1 ∧ (oMr T e q).1 ≤ e ∧ (oMr T e q).2 < 47 ∧ (oMr T e q).2 ≠ 2 := by
          unfold oMr
          split
          · by_cases gn : q + 1 < e
            · rw [if_pos gn]
              have hb := oCp_b (a := T q) (b := T (q + 1))
              simp only
              split
              · exact ⟨by show q < q + 1; omega, by show q + 1 ≤ e; omega, by show _ < 47; omega, by show ¬ _ = 2; omega⟩
              · exact ⟨by show q < q + 2; omega, by show q + 2 ≤ e; omega, by show _ < 47; omega, by show ¬ _ = 2; omega⟩
            · rw [if_neg gn]
              have hb : oCp (T q) 32 = 7 ∨ oCp (T q) 32 = 12 := by unfold oCp; by_cases q62 : T q = 62 <;> simp [q62]
              simp only
              rw [if_pos hb]
              exact ⟨by show q < q + 1; omega, by show q + 1 ≤ e; omega, by show _ < 47; omega, by show ¬ _ = 2; omega⟩
          · have := oMk_b (b := T q)
            exact ⟨by show q < q + 1; omega, by show q + 1 ≤ e; omega, this.1, this.2.2⟩
        exact ⟨by show q ≤ e; omega, w1.2.1, by show i ≤ (oMr T e q).1; omega, fun _ => by show i < (oMr T e q).1; omega, w1.2.2.1, fun h => absurd h w1.2.2.2⟩
theorem tOk_nx (h : tOk E t) : tOk E (tNx E t) := by
  obtain ⟨h1, h2, h3, h4, h5, h6⟩ := oTc_ok (W := E.1) (T := E.2.1) (e := E.2.2) h.2.1
  exact ⟨h1, h2, h5, h6⟩
theorem tNx_end (h : tOk E t) : t.2.1 ≤ (tNx E t).2.1 ∧ (tKd (tNx E t) ≠ 0 → t.2.1 < (tNx E t).2.1) := by
  obtain ⟨h1, h2, h3, h4, h5, h6⟩ := oTc_ok (W := E.1) (T := E.2.1) (e := E.2.2) h.2.1
  exact ⟨h3, h4⟩
set_option maxRecDepth 20000 in
theorem cl_adv (hE : zEc J E) (ht : tOk E t) (hQ : Q none (SH, zTs J (tNx E t), L, RF p s r)) : zXM w mX7_advance rX7_advance [.ref 1] (SH, zTs J t, L, RF p s r) Q := by
  obtain ⟨e1, e2, e3, e4⟩ := hE
  obtain ⟨d, hd⟩ : ∃ d, E.2.2 = t.2.1 + d := ⟨E.2.2 - t.2.1, by have := ht.2.1; omega⟩
  refine cl_tkAdvance (W := E.1) (T := E.2.1) d t.2.1 (zTs J t) (by rw [zTs_o (by simp)]; exact e2) (by rw [zTs_13, e1, hd]) zTs_14 (by omega) (fun k hk => by rw [zTs_o (by simp)]; exact e4 k (by omega)) (fun I' k' g5 g4 g6 g7 => ?_)
  rw [← hd] at g5 g4 g6 g7
  rw [zTs_eq (u := tNx E t) k' g5 g4 g6 g7]
  exact hQ
set_option maxRecDepth 20000 in
theorem mo_tok (hE : zEr J E) (ht : tOk E t) (hQ : ∀ kd' wh', tRel (tKd (tNx E t)) (tVl (tNx E t)) kd' wh' → Q none (SH, zTq J (tNx E t) kd' wh', L, RF p s r)) : zXM w mX10_token rX10_token [.ref 87] (SH, zTq J t kd wh, L, RF p s r) Q := by
  obtain ⟨e1, e2, e3, e4, e5⟩ := hE
  obtain ⟨d, hd⟩ : ∃ d, E.2.2 = t.2.1 + d := ⟨E.2.2 - t.2.1, by have := ht.2.1; omega⟩
  refine mo_token (W := E.1) (T := E.2.1) d t.2.1 (zTq J t kd wh) (fun k hk => by rw [zTq_o (by simp)]; exact e2 k hk) e3 (by rw [zTq_k (by simp) (by simp) (by simp) (by simp), e1, hd]) zTq_7 (by omega) (fun k hk => by rw [zTq_o (by simp)]; exact e5 k (by omega)) (fun I' k' g10 g7 gr => ?_)
  rw [← hd] at g10 g7 gr
  rw [zTq_eq (u := tNx E t) k' g10 g7]
  exact hQ _ _ gr
end ZN98q
