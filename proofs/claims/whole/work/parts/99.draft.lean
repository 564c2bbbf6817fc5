section
/-! ===== TEXT: the class reads a text ===== -/
/-- a draft without lines -/
def dD0 : oDf := (fun i k => if i = 102 then (if k = 5 then 2 else if k = 7 then 10 else if k = 8 then 3 else if k = 9 then 5 else 0) else 0, fun _ => false, fun _ => 0, fun _ => 0, fun _ => false, 0, 0, 0, 0, 0, 0)
/-- what the first n bytes tell -/
def oText (W : Nat → Int32) (T : Nat → Nat) (n : Nat) : oF ⊕ (oDf × Nat) := gAll (W, T, n) 700 dD0 (oTc W T n 0) 0
def dPn (D : oDf) (ch : Nat) : oPn := (dR D, dTold D, dF D, dT D, ch, dNp D, dNc D, dNs D, dNb D, dNg D, dNk D)
/-- what reading changes in the class -/
def SXc (s i k : Nat) : Prop := (i = 1 ∧ 3 ≤ k ∧ k ≤ 7) ∨ (i = 4 ∧ 4 ≤ k) ∨ (5 ≤ i ∧ i ≤ 7) ∨ (s ≤ i ∧ i ≤ s + 15)
section ZN98zj
variable {w : zP} {Q : Option Value → zMem → Prop} {μ : zMem} {I J J' : Nat → Nat → Int32} {L K : Nat → Nat → Int64} {p s : Nat} {r : Option Nat} {a b c i j k n h e m lo hi l F q ch : Nat} {x y v kd wh : Int32} {E : oEn} {t u : oTk} {D : oDf} {W : Nat → Int32} {T : Nat → Nat} {tk kk f : Nat → Int32}
theorem oSkyF_1 (ht : ∀ j, j < n → ∃ q, q < 96 ∧ tk j = nI q) (hk : k < 96) : (oSkyF tk kk (nI k) n).1 = -1 ∨ ∃ q, q ≤ k ∧ (oSkyF tk kk (nI k) n).1 = nI q := by
  induction n with
  | zero => left; rfl
  | succ n ih =>
    by_cases h : nI k < tk n ∨ tk n < (oSkyF tk kk (nI k) n).1
    · rw [oSkyF_s1 h]; exact ih (fun j hj => ht j (by omega))
    · rw [oSkyF_s2 h]
      obtain ⟨q, hq, e⟩ := ht n (by omega)
      right
      refine ⟨q, ?_, e⟩
      rw [e, zlt_nat (by omega) (by omega)] at h
      omega
theorem oSkyD (ht : ∀ j, j < n → (∃ q, q < 96 ∧ tk j = nI q) ∧ ¬ kk j = -1) (hk : k < 96) : (¬ oSkD tk kk n k = -1 → oSkyF tk kk (nI k) n = (nI k, oSkD tk kk n k)) ∧ (oSkD tk kk n k = -1 → ∀ j, j < n → ¬ tk j = nI k) := by
  induction n with
  | zero => exact ⟨fun h => absurd rfl h, fun _ j hj => absurd hj (by omega)⟩
  | succ n ih =>
    have ih := ih (fun j hj => ht j (by omega))
    unfold oSkD
    by_cases h : tk n = nI k
    · rw [if_pos h]
      refine ⟨fun _ => ?_, fun q => absurd q (ht n (by omega)).2⟩
      rw [oSkyF_s2, h]
      rw [h]
      rintro (q | q)
      · exact absurd q (Int32.lt_irrefl)
      · rcases oSkyF_1 (kk := kk) (fun j hj => (ht j (Nat.lt_succ_of_lt hj)).1) hk with g | ⟨r, hr, g⟩
        · rw [g] at q
          exact nI_nn (q := k) (by omega) (Int32.lt_trans q (by decide))
        · rw [g, zlt_nat (by omega) (by omega)] at q; omega
    · rw [if_neg h]
      refine ⟨fun q => ?_, fun q j hj => ?_⟩
      · have e := ih.1 q
        rw [oSkyF_s1, e]
        rw [e]
        obtain ⟨r, hr, g⟩ := (ht n (by omega)).1
        rw [g] at h ⊢
        have : ¬ r = k := fun z => h (by rw [z])
        simp only [zlt_nat (a := k) (b := r) (by omega) (by omega), zlt_nat (a := r) (b := k) (by omega) (by omega)]
        omega
      · by_cases e : j = n
        · subst e; exact h
        · exact ih.2 q j (by omega)
theorem oSkyF_p (ht : ∀ j, j < n → ∃ q, q < 96 ∧ tk j = nI q) (hk : k + 1 < 96) (hn : ∀ j, j < n → ¬ tk j = nI (k + 1)) : oSkyF tk kk (nI (k + 1)) n = oSkyF tk kk (nI k) n := by
  induction n with
  | zero => rfl
  | succ n ih =>
    have ih := ih (fun j hj => ht j (by omega)) (fun j hj => hn j (by omega))
    obtain ⟨r, hr, g⟩ := ht n (by omega)
    have h0 := hn n (by omega)
    have hrk : ¬ r = k + 1 := fun z => h0 (by rw [g, z])
    rw [oSkyF, oSkyF, ih, g]
    have e : (nI (k + 1) < nI r) = (nI k < nI r) := by
      rw [zlt_nat (by omega) (by omega), zlt_nat (by omega) (by omega)]
      exact propext ⟨fun z => by omega, fun z => by omega⟩
    simp only [e]
theorem oSkyF_z (ht : ∀ j, j < n → ∃ q, q < 96 ∧ tk j = nI q) (hn : ∀ j, j < n → ¬ tk j = nI 0) : oSkyF tk kk (nI 0) n = (-1, 0) := by
  induction n with
  | zero => rfl
  | succ n ih =>
    obtain ⟨r, hr, g⟩ := ht n (by omega)
    have h0 := hn n (by omega)
    rw [oSkyF_s1, ih (fun j hj => ht j (by omega)) (fun j hj => hn j (by omega))]
    left
    rw [g, zlt_nat (by omega) (by omega)]
    rcases Nat.eq_zero_or_pos r with z | z
    · exact absurd (by rw [g, z]) h0
    · exact z
/-- skies settled are the skies of the ticks -/
theorem settle_sky (ht : ∀ j, j < n → (∃ q, q < 96 ∧ tk j = nI q) ∧ ¬ kk j = -1) (hf : ∀ k, k < 96 → f k = oSkD tk kk n k) : ∀ k, k < 96 → zSettle f (k + 1) = oSky tk kk (nI k) n false := by
  intro k
  have e : ∀ k, oSky tk kk (nI k) n false = (oSkyF tk kk (nI k) n).2 := fun k => by unfold oSky; simp
  induction k with
  | zero =>
    intro hk
    rw [e, zSettle]
    obtain ⟨h1, h2⟩ := oSkyD (k := 0) ht hk
    rw [hf 0 hk]
    split
    · rename_i g
      rw [oSkyF_z (fun j hj => (ht j hj).1) (h2 g)]; rfl
    · rename_i g
      rw [h1 g]
  | succ k ih =>
    intro hk
    have ih := ih (by omega)
    rw [e] at ih ⊢
    rw [zSettle]
    obtain ⟨h1, h2⟩ := oSkyD (k := k + 1) ht hk
    rw [hf (k + 1) hk]
    split
    · rename_i g
      rw [ih, oSkyF_p (fun j hj => (ht j hj).1) hk (h2 g)]
    · rename_i g
      rw [h1 g]
theorem zRF_48 : zu (RF p s r) 4 8 (some q) = RF p s (some q) := by
  funext i k
  rw [zu_at]
  by_cases h : i = 4 ∧ k = 8
  · obtain ⟨rfl, rfl⟩ := h; rfl
  · rw [if_neg h]
    unfold RF
    split <;> first | rfl | (split <;> first | rfl | (exfalso; exact h ⟨rfl, rfl⟩))
theorem zTs_self (h5 : I 1 5 = nI u.1) (h4 : I 1 4 = nI u.2.1) (h6 : I 1 6 = nI u.2.2.1) (h7 : I 1 7 = u.2.2.2) : zTs I u = I := by
  funext a b
  unfold zTs
  by_cases g : a = 1
  · subst g
    rw [if_pos rfl]
    by_cases q4 : b = 4
    · rw [if_pos q4, q4, h4]
    · rw [if_neg q4]
      by_cases q5 : b = 5
      · rw [if_pos q5, q5, h5]
      · rw [if_neg q5]
        by_cases q6 : b = 6
        · rw [if_pos q6, q6, h6]
        · rw [if_neg q6]
          by_cases q7 : b = 7
          · rw [if_pos q7, q7, h7]
          · rw [if_neg q7]
  · rw [if_neg g]
theorem zTs_kpt : zKpt (fun i k => i = 1 ∧ 4 ≤ k ∧ k ≤ 7) J (zTs J t) := by
  intro i k h
  unfold zTs
  by_cases g : i = 1
  · subst g
    rw [if_pos rfl, if_neg (by omega), if_neg (by omega), if_neg (by omega), if_neg (by omega)]
  · rw [if_neg g]
theorem DOk_0 : DOk dD0 := by
  refine ⟨⟨by decide, by decide, by decide, by decide, by decide, by decide⟩, fun k hk => absurd hk (by show ¬ k < 0; omega), fun k hk => absurd hk (by show ¬ k < 0; omega), fun k hk => absurd hk (by show ¬ k < 0; omega), ?_, (fun h hh q => by cases q)⟩
  have h : ∀ j, j < 7 → ∃ v, v < 11 ∧ sLo j ≤ v ∧ v ≤ sHi j ∧ dR dD0 102 (sIx j) = nI v := by decide
  exact fun j hj => by obtain ⟨v, -, h2⟩ := h j hj; exact ⟨v, h2⟩
theorem zDc_0 (hs : zPc s) : zDc (zu (zu (zu (zu (zu (zRow (zPlan0 I s) 5 (zFill 7 0 (zPlan0 I s 5))) 4 6 0) 4 7 0) 4 9 0) 4 10 0) 4 11 (-1)) s dD0 := by
  have hp : ∀ j, j < 7 → zPlain j = dR dD0 102 (sIx j) := by decide
  rcases hs with rfl | rfl
  · refine ⟨⟨by simp [zPlan0, zRow_at, zu_at]; rfl, by simp [zPlan0, zRow_at, zu_at]; rfl, by simp [zPlan0, zRow_at, zu_at]; rfl, by simp [zPlan0, zRow_at, zu_at]; rfl, by simp [zPlan0, zRow_at, zu_at]; rfl, by simp [zu_at]; rfl, by simp [zu_at]; rfl⟩, fun k hk => absurd hk (by show ¬ k < 0; omega), fun k hk => absurd hk (by show ¬ k < 0; omega), fun k hk => ?_, fun k hk => absurd hk (by show ¬ k < 0; omega), fun j hj => ?_, fun k hk => absurd hk (by show ¬ k < 0; omega), fun k hk => absurd hk (by show ¬ k < 0; omega), fun h hh => ?_, fun j hj => ?_, ⟨by simp [zu_at], by simp [zu_at]⟩⟩
    · simp [zPlan0, zRow_at, zu_at, zFill, hk]; rfl
    · rw [← hp j hj]; simp [zPlan0, zRow_at, zu_at, va_cpy, hj]
    · refine ⟨?_, (fun q => by cases q)⟩
      simp [zPlan0, zRow_at, zu_at, zFill, hh]; intro q; cases q
    · simp [zRow_at, zu_at, zFill, hj]; rfl
  · refine ⟨⟨by simp [zPlan0, zRow_at, zu_at]; rfl, by simp [zPlan0, zRow_at, zu_at]; rfl, by simp [zPlan0, zRow_at, zu_at]; rfl, by simp [zPlan0, zRow_at, zu_at]; rfl, by simp [zPlan0, zRow_at, zu_at]; rfl, by simp [zu_at]; rfl, by simp [zu_at]; rfl⟩, fun k hk => absurd hk (by show ¬ k < 0; omega), fun k hk => absurd hk (by show ¬ k < 0; omega), fun k hk => ?_, fun k hk => absurd hk (by show ¬ k < 0; omega), fun j hj => ?_, fun k hk => absurd hk (by show ¬ k < 0; omega), fun k hk => absurd hk (by show ¬ k < 0; omega), fun h hh => ?_, fun j hj => ?_, ⟨by simp [zu_at], by simp [zu_at]⟩⟩
    · simp [zPlan0, zRow_at, zu_at, zFill, hk]; rfl
    · rw [← hp j hj]; simp [zPlan0, zRow_at, zu_at, va_cpy, hj]
    · refine ⟨?_, (fun q => by cases q)⟩
      simp [zPlan0, zRow_at, zu_at, zFill, hh]; intro q; cases q
    · simp [zRow_at, zu_at, zFill, hj]; rfl
theorem zKpt_row {S : Nat → Nat → Prop} {i0 : Nat} {g : Nat → Int32} (hK : zKpt S I J) (h : ∀ k, S i0 k) : zKpt S I (zRow J i0 g) := by
  intro i k hn
  rw [zRow_at]
  by_cases e : i = i0
  · subst e; exact absurd (h k) hn
  · rw [if_neg e]; exact hK i k hn
/-- the class's plan out of its draft, its skies settled -/
theorem zCls_D (hs : zPc s) (hD : zDc J s D) (hO : DOk D) : zClsP (zRow J (s + 7) (fun b => if b < 96 then zSettle (J (s + 7)) (b + 1) else J (s + 7) b)) s (dPn D ch) := by
  obtain ⟨⟨d0, d5, d9, d14, d16, d46, d47⟩, dp, dc, dsk, dbd, dst, dsg, dcd, dlw, dto, dfl⟩ := hD
  have hr : ∀ j k, ¬ j = 7 → zRow J (s + 7) (fun b => if b < 96 then zSettle (J (s + 7)) (b + 1) else J (s + 7) b) (s + j) k = J (s + j) k := fun j k hj => by rw [zRow_at, if_neg (by omega)]
  have h7 : ∀ k, k < 96 → zRow J (s + 7) (fun b => if b < 96 then zSettle (J (s + 7)) (b + 1) else J (s + 7) b) (s + 7) k = zSettle (J (s + 7)) (k + 1) := fun k hk => by rw [zRow_at, if_pos rfl, if_pos hk]
  unfold zClsP zClsR
  refine ⟨⟨?_, ?_, ?_, ?_, ?_⟩, fun k hk => ?_, fun k hk => ?_, fun k hk => ?_, fun k hk => ?_, ⟨?_, ?_, ?_, ?_, ?_, ?_, ?_⟩, fun k hk => ?_, fun h hh => ?_⟩
  · exact (hr 0 _ (by omega)).trans d0
  · exact (hr 0 _ (by omega)).trans d5
  · exact (hr 0 _ (by omega)).trans d9
  · exact (hr 0 _ (by omega)).trans d14
  · exact (hr 0 _ (by omega)).trans d16
  · simp only [hr 1 _ (by omega), hr 2 _ (by omega), hr 3 _ (by omega), hr 4 _ (by omega)]; exact dp k hk
  · simp only [hr 5 _ (by omega), hr 6 _ (by omega)]; exact dc k hk
  · simp only
    rw [h7 k hk]
    exact settle_sky (fun j hj => by
      obtain ⟨⟨a, b, g1, g2, g3, g4⟩, -⟩ := hO.2.2.2.1 j hj
      exact ⟨⟨a, g1, g3⟩, by rw [g4]; exact fun z => nI_m1 (by omega) z.symm⟩) dsk k hk
  · simp only [hr 8 _ (by omega), hr 9 _ (by omega), hr 10 _ (by omega)]; exact dbd k hk
  · simp only [hr 11 _ (by omega)]; exact dst 0 (by omega)
  · simp only [hr 11 _ (by omega)]; exact dst 1 (by omega)
  · simp only [hr 11 _ (by omega)]; exact dst 2 (by omega)
  · simp only [hr 11 _ (by omega)]; exact dst 3 (by omega)
  · simp only [hr 11 _ (by omega)]; exact dst 4 (by omega)
  · simp only [hr 11 _ (by omega)]; exact dst 5 (by omega)
  · simp only [hr 11 _ (by omega)]; exact dst 6 (by omega)
  · simp only [hr 12 _ (by omega)]; exact dsg k hk
  · simp only [hr 14 _ (by omega), hr 15 _ (by omega), hr 13 _ (by omega)]
    refine ⟨(dlw h hh).1, fun q => ⟨(dlw h hh).2 q, fun i g1 g2 => ?_⟩⟩
    have hb := (hO.2.2.2.2.2 h hh q).2.1
    exact dcd i (Nat.lt_of_lt_of_le g2 hb)
set_option maxRecDepth 20000 in
theorem cl_readAll (hok : zOk w) (hs : zPc s) (h3 : I 3 = W) (h12 : I 1 2 = nI m) (hm : m ≤ 700) (hn : n ≤ m) (ht : ∀ k, k < m → I 2 k = oSb (T k) ∧ T k < 256)
    (hF : ∀ f I', oText W T n = .inl f → zKpt (SXc s) I I' → I' 4 10 = nI f.1 → I' 4 11 = nI f.2 → Q (some (.int 0)) (SH, I', L, RF p s (some s)))
    (hG : ∀ D q I', oText W T n = .inr (D, q) → q ≤ 700 → zKpt (SXc s) I I' → (∀ ch, zClsP I' s (dPn D ch)) → DOk D → I' 4 9 = nI q → I' 4 10 = 0 → I' 4 11 = -1 → Q (some (.int 1)) (SH, I', L, RF p s (some s))) : zXM w mX5_readAll rX5_readAll [.ref 4, .ref s, .int (nI n)] (SH, I, L, RF p s r) Q := by
  unfold zXM
  have s8 : 8 < s := by rcases hs with rfl | rfl <;> omega
  refine zBlkR (M := mX5_readAll) (nL := 4) (rt := (Option.some .boolean)) (blk := bX5_readAll_0) (T := []) 0 hX5_readAll_0 zChks_nil rfl rfl rfl (Nat.le_of_ble_eq_true rfl) (Nat.le_of_ble_eq_true rfl) ?_
  simp (implicitDefEqProofs := false) only [bX5_readAll_0, zRun_cons, zRun_nil, zLk, zSto, zIns, zFil, zf0, zf1, zf2, zf3, List.filter_cons, List.filter_nil, Nat.reduceAdd, Nat.reduceEqDiff, Nat.reduceLT, Nat.reduceLeDiff, Nat.reduceBEq, Nat.reduceBNe, reduceIte, if_true, if_false, Bool.false_and, Bool.true_and, Bool.and_true, Bool.and_false, Bool.not_false, Bool.not_true, Bool.false_eq_true, beq_self_eq_true, BEq.rfl, zCat1, zCat2, zCat3, zKdI, zKdL, zKdR, true_and, and_true, zSI, zSL, zSR, zu_at, and_self, and_false, false_and, lv_args, zKdZ, zKdO, zB01, zB11, Option.toList_none, Option.toList_some, List.nil_append, List.cons_append, true_or, or_true, zRow_rd, zu_rd, zo_aload_n, zo_putfield, zo_putfield_2, zo_putfield_3, zo_getfield, zKd_5_8, zTy_5_8, sh_4, rf_4_8, zPutC, zKn_0, zRF_48, zN10, zN01, not_true_eq_false, not_false_eq_true, false_implies, true_implies, implies_true, eq_self, nI_1, nI_40, nI_7, vz0, vz1, zb1_e0, zb1_n0]
  refine z_cV0 (M' := mX4_clear) (R' := rX4_clear) (i := s) [] [] eX4_clear k5_33 (by decide +kernel : decode cX5_readAll 9 = .ok (.invokevirtual 33, 3)) (Nat.le_of_ble_eq_true rfl) ⟨Nat.le_of_ble_eq_true rfl, Nat.le_of_ble_eq_true rfl, Nat.le_of_ble_eq_true rfl, Nat.le_of_ble_eq_true rfl, Nat.le_of_ble_eq_true rfl⟩ rfl rfl rfl (psh_0 hs) ?_
  refine sp_planClear hok (i := s) hs (fun a _ => rfl) (prf_8 hs) (prf_13 hs) (prf_18 hs) (prf_19 hs) ?_
  refine zBlkR (M := mX5_readAll) (nL := 4) (rt := (Option.some .boolean)) (blk := bX5_readAll_12) (T := []) 0 hX5_readAll_12 zChks_nil rfl rfl rfl (Nat.le_of_ble_eq_true rfl) (Nat.le_of_ble_eq_true rfl) ?_
  simp (implicitDefEqProofs := false) only [bX5_readAll_12, zRun_cons, zRun_nil, zLk, zSto, zIns, zFil, zf0, zf1, zf2, zf3, List.filter_cons, List.filter_nil, Nat.reduceAdd, Nat.reduceEqDiff, Nat.reduceLT, Nat.reduceLeDiff, Nat.reduceBEq, Nat.reduceBNe, reduceIte, if_true, if_false, Bool.false_and, Bool.true_and, Bool.and_true, Bool.and_false, Bool.not_false, Bool.not_true, Bool.false_eq_true, beq_self_eq_true, BEq.rfl, zCat1, zCat2, zCat3, zKdI, zKdL, zKdR, true_and, and_true, zSI, zSL, zSR, zu_at, and_self, and_false, false_and, lv_args, zKdZ, zKdO, zB01, zB11, Option.toList_none, Option.toList_some, List.nil_append, List.cons_append, true_or, or_true, zRow_rd, zu_rd, zo_aload_n, zo_getfield, zo_iconst, zi_0, zKd_5_1, sh_4, rf_4_1, sh_5, zcl_0, zvi_0_7, zKn_0, zN10, zN01, not_true_eq_false, not_false_eq_true, false_implies, true_implies, implies_true, eq_self, nI_1, nI_40, nI_7, vz0, vz1, zb1_e0, zb1_n0]
  refine z_cS0 (M' := mJ7_fill_53178) (R' := rJ7_fill_53178) [.ref 5, .int 0] [] eJ7_fill_53178 k5_38 (by decide +kernel : decode cX5_readAll 17 = .ok (.invokestatic 38, 3)) (Nat.le_of_ble_eq_true rfl) ⟨Nat.le_of_ble_eq_true rfl, Nat.le_of_ble_eq_true rfl, Nat.le_of_ble_eq_true rfl, Nat.le_of_ble_eq_true rfl, Nat.le_of_ble_eq_true rfl⟩ rfl rfl rfl ?_
  refine sp_fill (n := 7) sh_5 (by decide) ?_
  refine zBlkR (M := mX5_readAll) (nL := 4) (rt := (Option.some .boolean)) (blk := bX5_readAll_20) (T := []) 0 hX5_readAll_20 zChks_nil rfl rfl rfl (Nat.le_of_ble_eq_true rfl) (Nat.le_of_ble_eq_true rfl) ?_
  simp (implicitDefEqProofs := false) only [bX5_readAll_20, zRun_cons, zRun_nil, zLk, zSto, zIns, zFil, zf0, zf1, zf2, zf3, List.filter_cons, List.filter_nil, Nat.reduceAdd, Nat.reduceEqDiff, Nat.reduceLT, Nat.reduceLeDiff, Nat.reduceBEq, Nat.reduceBNe, reduceIte, if_true, if_false, Bool.false_and, Bool.true_and, Bool.and_true, Bool.and_false, Bool.not_false, Bool.not_true, Bool.false_eq_true, beq_self_eq_true, BEq.rfl, zCat1, zCat2, zCat3, zKdI, zKdL, zKdR, true_and, and_true, zSI, zSL, zSR, zu_at, and_self, and_false, false_and, lv_args, zKdZ, zKdO, zB01, zB11, Option.toList_none, Option.toList_some, List.nil_append, List.cons_append, true_or, or_true, zRow_rd, zu_rd, zo_aload_n, zo_iconst, zo_putfield, zo_putfield_2, zo_putfield_3, zo_getfield, zo_iload_n, zi_0, zi_m1, zKd_5_6, zTy_5_6, zKd_5_7, zTy_5_7, zKd_5_9, zTy_5_9, zKd_5_10, zTy_5_10, zKd_5_11, zTy_5_11, zKd_5_0, zcl_0, sh_4, rf_4_0, sh_1, zPutC, zKn_0, zN10, zN01, not_true_eq_false, not_false_eq_true, false_implies, true_implies, implies_true, eq_self, nI_1, nI_40, nI_7, vz0, vz1, zb1_e0, zb1_n0]
  generalize hJ1 : zu (zu (zu (zu (zu (zRow (zPlan0 I s) 5 (zFill 7 0 (zPlan0 I s 5))) 4 6 0) 4 7 0) 4 9 0) 4 10 0) 4 11 (-1) = J1
  have hD1 : zDc J1 s dD0 := by rw [← hJ1]; exact zDc_0 hs
  have j9 : J1 4 9 = nI 0 := by rw [← hJ1]; simp [zu_at]; rfl
  have k1 : zKpt (SXc s) I J1 := by
    rw [← hJ1]
    refine (((((zKpt_row ?_ (fun k => by unfold SXc; omega)).u (by unfold SXc; omega)).u (by unfold SXc; omega)).u (by unfold SXc; omega)).u (by unfold SXc; omega)).u (by unfold SXc; omega)
    unfold zPlan0
    exact zKpt_row (zKpt_row (zKpt_row (zKpt_row (((((zKpt_rfl.u (by unfold SXc; omega)).u (by unfold SXc; omega)).u (by unfold SXc; omega)).u (by unfold SXc; omega)).u (by unfold SXc; omega)) (fun k => by unfold SXc; omega)) (fun k => by unfold SXc; omega)) (fun k => by unfold SXc; omega)) (fun k => by unfold SXc; omega)
  have hlo : ∀ i k, i < 4 → ¬ (i = 1 ∧ 3 ≤ k ∧ k ≤ 7) → J1 i k = I i k := fun i k h1 h2 => k1 i k (by unfold SXc; omega)
  refine z_cV0 (M' := mX7_start) (R' := rX7_start) (i := 1) [.int (nI n)] [] eX7_start k5_56 (by decide +kernel : decode cX5_readAll 50 = .ok (.invokevirtual 56, 3)) (Nat.le_of_ble_eq_true rfl) ⟨Nat.le_of_ble_eq_true rfl, Nat.le_of_ble_eq_true rfl, Nat.le_of_ble_eq_true rfl, Nat.le_of_ble_eq_true rfl, Nat.le_of_ble_eq_true rfl⟩ rfl rfl rfl sh_1 ?_
  refine cl_tkStart (W := W) (T := T) (m := m) (by rw [← h3]; funext k; exact hlo 3 k (by omega) (by omega)) (by rw [hlo 1 2 (by omega) (by omega)]; exact h12) hm (by omega) (fun k hk => by rw [hlo 2 k (by omega) (by omega)]; exact ht k hk) (fun I2 k2 g3 g5 g4 g6 g7 => ?_)
  rw [Nat.min_eq_left hn] at g3 g5 g4 g6 g7
  have hn2 : ∀ i k, i ≠ 1 → I2 i k = J1 i k := fun i k h => k2 i k (by unfold STs; omega)
  have hE : zEc I2 (W, T, n) := ⟨g3, by rw [← h3]; funext k; rw [hn2 3 k (by omega)]; exact hlo 3 k (by omega) (by omega), by show n ≤ 700; omega, fun k hk => by rw [hn2 2 k (by omega), hlo 2 k (by omega) (by omega)]; exact ht k (by simp only at hk; omega)⟩
  have hD2 : zDc I2 s dD0 := zDc_k hD1 k2 (fun k => by unfold STs; omega) ⟨by unfold STs; omega, by unfold STs; omega⟩ (fun j k _ _ => by unfold STs; omega) (fun k => by unfold STs; omega) ⟨by unfold STs; omega, by unfold STs; omega⟩
  have ht0 : tOk (W, T, n) (oTc W T n 0) := by
    obtain ⟨a1, a2, a3, a4, a5, a6⟩ := oTc_ok (W := W) (T := T) (e := n) (i := 0) (Nat.zero_le _)
    exact ⟨a1, a2, a5, a6⟩
  have k12 : zKpt (SXc s) I I2 := k1.trans (k2.mono (fun i k h => by unfold STs at h; unfold SXc; omega))
  have mn : ∀ J' : Nat → Nat → Int32, zKpt (SPl s) I2 J' → zKpt (SXc s) I J' := fun J' h => k12.trans (h.mono (fun i k h => by unfold SPl SPs at h; unfold SXc; omega))
  have mt : ∀ (J' : Nat → Nat → Int32) (t' : oTk), zKpt (SXc s) I J' → zKpt (SXc s) I (zTs J' t') := fun J' t' h => h.trans (zTs_kpt.mono (fun i k h => by unfold SXc; omega))
  have key := cl_readAllLoop (w := w) (Q := Q) (L := L) (p := p) (x := nI n) (E := (W, T, n)) hok hs 700 0 (oTc W T n 0) dD0 0 I2 (by omega) (by omega) hE ht0 hD2 DOk_0 (by rw [hn2 4 9 (by omega)]; exact j9) (fun f J' t' h0 h1 h2 h3 => hF f _ h0 (mt J' t' (mn J' h1)) (by rw [zTs_o (by simp)]; exact h2) (by rw [zTs_o (by simp)]; exact h3)) (fun t' D' m' J' h0 h1 h2 h3 h4 h5 => ?_)
  · rw [zTs_self g5 g4 g6 g7] at key
    refine zBlkR (M := mX5_readAll) (nL := 4) (rt := (Option.some .boolean)) (blk := bX5_readAll_53) (T := []) 0 hX5_readAll_53 zChks_nil rfl rfl rfl (Nat.le_of_ble_eq_true rfl) (Nat.le_of_ble_eq_true rfl) ?_
    simp (implicitDefEqProofs := false) only [bX5_readAll_53, zRun_cons, zRun_nil, zLk, zSto, zIns, zFil, zf0, zf1, zf2, zf3, List.filter_cons, List.filter_nil, Nat.reduceAdd, Nat.reduceEqDiff, Nat.reduceLT, Nat.reduceLeDiff, Nat.reduceBEq, Nat.reduceBNe, reduceIte, if_true, if_false, Bool.false_and, Bool.true_and, Bool.and_true, Bool.and_false, Bool.not_false, Bool.not_true, Bool.false_eq_true, beq_self_eq_true, BEq.rfl, zCat1, zCat2, zCat3, zKdI, zKdL, zKdR, true_and, and_true, zSI, zSL, zSR, zu_at, and_self, and_false, false_and, lv_args, zKdZ, zKdO, zB01, zB11, Option.toList_none, Option.toList_some, List.nil_append, List.cons_append, true_or, or_true, zRow_rd, zu_rd, zo_iconst, zo_istore_n, zi_0, zcl_0, zKn_0, zN10, zN01, not_true_eq_false, not_false_eq_true, false_implies, true_implies, implies_true, eq_self, nI_1, nI_40, nI_7, vz0, vz1, zb1_e0, zb1_n0]
    exact key
  · have hr4 : ∀ k, zRow J' (s + 7) (fun b => if b < 96 then zSettle (J' (s + 7)) (b + 1) else J' (s + 7) b) 4 k = J' 4 k := fun k => by rw [zRow_at, if_neg (by omega)]
    refine hG D' m' _ h0 h1 (mt _ t' (zKpt_row (mn J' h2) (fun k => by unfold SXc; omega))) (fun ch => ?_) h4 (by rw [zTs_o (by simp), hr4]; exact h5) (by rw [zTs_o (by simp), hr4]; exact h3.2.2.2.2.2.2.2.2.2.2.1) (by rw [zTs_o (by simp), hr4]; exact h3.2.2.2.2.2.2.2.2.2.2.2)
    refine zClsP_row (fun j => ?_) (zCls_D (ch := ch) hs h3 h4)
    rw [zTs_o (by simp; omega)]
end ZN98zj
end

section
/-! ===== TEXT: text in the class; lines and text in the reference ===== -/
def SXt (s i k : Nat) : Prop := SXc s i k ∨ (i = 1 ∧ k = 2)
section ZN98zk
variable {w : zP} {Q : Option Value → zMem → Prop} {μ : zMem} {I J J' : Nat → Nat → Int32} {L K : Nat → Nat → Int64} {p s : Nat} {r : Option Nat} {a b c i j k n h e m lo hi l F q ch : Nat} {x y v kd wh : Int32} {E : oEn} {t u : oTk} {D : oDf} {W : Nat → Int32} {T : oTp}
theorem RF_0 : ∀ k, k < 12 → RF p s r 0 k = RF 0 0 none 0 k
  | 0, _ => rfl
  | 1, _ => rfl
  | 2, _ => rfl
  | 3, _ => rfl
  | 4, _ => rfl
  | 5, _ => rfl
  | 6, _ => rfl
  | 7, _ => rfl
  | 8, _ => rfl
  | 9, _ => rfl
  | 10, _ => rfl
  | 11, _ => rfl
theorem RF_10 : ∀ k, k < 8 → RF p s r 10 k = some (11 + k)
  | 0, _ => rfl
  | 1, _ => rfl
  | 2, _ => rfl
  | 3, _ => rfl
  | 4, _ => rfl
  | 5, _ => rfl
  | 6, _ => rfl
  | 7, _ => rfl
theorem zRF_sw : zBeginR (zu (zu (RF p s r) 0 13 (some p)) 0 12 (some s)) s = RF s p r := by
  funext i k
  unfold zBeginR
  simp only [zu_at]
  by_cases h1 : i = 40 ∧ k = 4
  · obtain ⟨rfl, rfl⟩ := h1; rfl
  · rw [if_neg h1]
    by_cases h2 : i = 37 ∧ k = 4
    · obtain ⟨rfl, rfl⟩ := h2; rfl
    · rw [if_neg h2]
      by_cases h3 : i = 0 ∧ k = 12
      · obtain ⟨rfl, rfl⟩ := h3; rfl
      · rw [if_neg h3]
        by_cases h4 : i = 0 ∧ k = 13
        · obtain ⟨rfl, rfl⟩ := h4; rfl
        · rw [if_neg h4]
          unfold RF
          split <;> first | rfl | (split <;> first | rfl | (exfalso; first | exact h1 ⟨rfl, rfl⟩ | exact h2 ⟨rfl, rfl⟩ | exact h3 ⟨rfl, rfl⟩ | exact h4 ⟨rfl, rfl⟩))
set_option maxRecDepth 20000 in
theorem cl_text (hok : zOk w) (hp : zPc p) (hs : zPc s) (h3 : I 3 = W) (hT : zcTp I T) (hTO : TpOk T)
    (hB : (x < 0 ∨ nI T.1 < x) → Q (some (.int (-2))) (SH, I, L, RF p s r))
    (hF : ∀ n f I', x = nI n → n ≤ T.1 → oText W T.2 n = .inl f → zKpt (SXt s) I I' → I' 1 2 = 0 → I' 4 10 = nI f.1 → I' 4 11 = nI f.2 → Q (some (.int (-1))) (SH, I', L, RF p s (some s)))
    (hG : ∀ n D q I', x = nI n → n ≤ T.1 → oText W T.2 n = .inr (D, q) → q ≤ 700 → zKpt (SXt s) I I' → I' 1 2 = 0 → (∀ ch, zClsP I' s (dPn D ch)) → DOk D → I' 4 10 = 0 → I' 4 11 = -1 → Q (some (.int (nI q))) (SH, zBegin I' s, zu (zu L 10 14 0) 10 15 (I' (s + 11) 6).toInt64, RF s p (some s))) : zXM w mX9_text rX9_text [.ref 0, .int x] (SH, I, L, RF p s r) Q := by
  unfold zXM
  obtain ⟨t1, t2⟩ := hT
  have s8 : 8 < s := by rcases hs with rfl | rfl <;> omega
  by_cases x0 : x < 0
  · have x0' : (x < 0) = True := eq_true x0
    refine zBlkR (M := mX9_text) (nL := 4) (rt := (Option.some .int)) (blk := bX9_text_0) (T := [(15, bX9_text_15), (18, bX9_text_18)]) 1 hX9_text_0 (zChks_cons hX9_text_15 (zChks_cons hX9_text_18 zChks_nil)) rfl rfl rfl (Nat.le_of_ble_eq_true rfl) (Nat.le_of_ble_eq_true rfl) ?_
    simp (implicitDefEqProofs := false) only [bX9_text_0, bX9_text_15, bX9_text_18, zRun_cons, zRun_nil, zLk, zSto, zIns, zFil, zf0, zf1, zf2, zf3, List.filter_cons, List.filter_nil, Nat.reduceAdd, Nat.reduceEqDiff, Nat.reduceLT, Nat.reduceLeDiff, Nat.reduceBEq, Nat.reduceBNe, reduceIte, if_true, if_false, Bool.false_and, Bool.true_and, Bool.and_true, Bool.and_false, Bool.not_false, Bool.not_true, Bool.false_eq_true, beq_self_eq_true, BEq.rfl, zCat1, zCat2, zCat3, zKdI, zKdL, zKdR, true_and, and_true, zSI, zSL, zSR, zu_at, and_self, and_false, false_and, lv_args, zKdZ, zKdO, zB01, zB11, Option.toList_none, Option.toList_some, List.nil_append, List.cons_append, true_or, or_true, zRow_rd, zu_rd, zo_iload_n, zo_if_lt, zo_aload_n, zo_getfield, zo_icmp_le, zo_bipush, zo_ireturn, zb_m2, zKd_9_0, zKd_7_2, zKd_9_1, zKd_9_13, sh_0, rf_0_0, sh_1, rf_0_1, sh_4, rf_0_13, sh_71, zRt, zKn_s, zKn_0, zFind, x0', zN10, zN01, not_true_eq_false, not_false_eq_true, false_implies, true_implies, implies_true, eq_self, nI_1, nI_40, nI_7, vz0, vz1, zb1_e0, zb1_n0]
    exact hB (Or.inl x0)
  · have x0' : (x < 0) = False := eq_false x0
    by_cases xm : nI T.1 < x
    · have xm' : (x ≤ nI T.1) = False := eq_false (Int32.not_le.mpr xm)
      refine zBlkR (M := mX9_text) (nL := 4) (rt := (Option.some .int)) (blk := bX9_text_0) (T := [(15, bX9_text_15), (18, bX9_text_18)]) 1 hX9_text_0 (zChks_cons hX9_text_15 (zChks_cons hX9_text_18 zChks_nil)) rfl rfl rfl (Nat.le_of_ble_eq_true rfl) (Nat.le_of_ble_eq_true rfl) ?_
      simp (implicitDefEqProofs := false) only [bX9_text_0, bX9_text_15, bX9_text_18, zRun_cons, zRun_nil, zLk, zSto, zIns, zFil, zf0, zf1, zf2, zf3, List.filter_cons, List.filter_nil, Nat.reduceAdd, Nat.reduceEqDiff, Nat.reduceLT, Nat.reduceLeDiff, Nat.reduceBEq, Nat.reduceBNe, reduceIte, if_true, if_false, Bool.false_and, Bool.true_and, Bool.and_true, Bool.and_false, Bool.not_false, Bool.not_true, Bool.false_eq_true, beq_self_eq_true, BEq.rfl, zCat1, zCat2, zCat3, zKdI, zKdL, zKdR, true_and, and_true, zSI, zSL, zSR, zu_at, and_self, and_false, false_and, lv_args, zKdZ, zKdO, zB01, zB11, Option.toList_none, Option.toList_some, List.nil_append, List.cons_append, true_or, or_true, zRow_rd, zu_rd, zo_iload_n, zo_if_lt, zo_aload_n, zo_getfield, zo_icmp_le, zo_bipush, zo_ireturn, zb_m2, zKd_9_0, zKd_7_2, zKd_9_1, zKd_9_13, sh_0, rf_0_0, sh_1, rf_0_1, sh_4, rf_0_13, sh_71, zRt, zKn_s, zKn_0, zFind, x0', t1, xm', zN10, zN01, not_true_eq_false, not_false_eq_true, false_implies, true_implies, implies_true, eq_self, nI_1, nI_40, nI_7, vz0, vz1, zb1_e0, zb1_n0]
      exact hB (Or.inr xm)
    · have xm' : (x ≤ nI T.1) = True := eq_true (Int32.not_lt.mp xm)
      have hT7 := hTO.1
      obtain ⟨n, hn, e⟩ := nI_of2 (x := x) (M := nI T.1) (n := T.1) (nI_toInt (by omega)) x0 (Int32.not_lt.mp xm)
      subst e
      refine zBlkR (M := mX9_text) (nL := 4) (rt := (Option.some .int)) (blk := bX9_text_0) (T := [(15, bX9_text_15), (18, bX9_text_18)]) 1 hX9_text_0 (zChks_cons hX9_text_15 (zChks_cons hX9_text_18 zChks_nil)) rfl rfl rfl (Nat.le_of_ble_eq_true rfl) (Nat.le_of_ble_eq_true rfl) ?_
      simp (implicitDefEqProofs := false) only [bX9_text_0, bX9_text_15, bX9_text_18, zRun_cons, zRun_nil, zLk, zSto, zIns, zFil, zf0, zf1, zf2, zf3, List.filter_cons, List.filter_nil, Nat.reduceAdd, Nat.reduceEqDiff, Nat.reduceLT, Nat.reduceLeDiff, Nat.reduceBEq, Nat.reduceBNe, reduceIte, if_true, if_false, Bool.false_and, Bool.true_and, Bool.and_true, Bool.and_false, Bool.not_false, Bool.not_true, Bool.false_eq_true, beq_self_eq_true, BEq.rfl, zCat1, zCat2, zCat3, zKdI, zKdL, zKdR, true_and, and_true, zSI, zSL, zSR, zu_at, and_self, and_false, false_and, lv_args, zKdZ, zKdO, zB01, zB11, Option.toList_none, Option.toList_some, List.nil_append, List.cons_append, true_or, or_true, zRow_rd, zu_rd, zo_iload_n, zo_if_lt, zo_aload_n, zo_getfield, zo_icmp_le, zo_bipush, zo_ireturn, zb_m2, zKd_9_0, zKd_7_2, zKd_9_1, zKd_9_13, sh_0, rf_0_0, sh_1, rf_0_1, sh_4, rf_0_13, sh_71, zRt, zKn_s, zKn_0, zFind, x0', t1, xm', zN10, zN01, not_true_eq_false, not_false_eq_true, false_implies, true_implies, implies_true, eq_self, nI_1, nI_40, nI_7, vz0, vz1, zb1_e0, zb1_n0]
      refine z_cV0 (M' := mX5_readAll) (R' := rX5_readAll) (i := 4) [.ref s, .int (nI n)] [] eX5_readAll k9_106 (by decide +kernel : decode cX9_text 27 = .ok (.invokevirtual 106, 3)) (Nat.le_of_ble_eq_true rfl) ⟨Nat.le_of_ble_eq_true rfl, Nat.le_of_ble_eq_true rfl, Nat.le_of_ble_eq_true rfl, Nat.le_of_ble_eq_true rfl, Nat.le_of_ble_eq_true rfl⟩ rfl rfl rfl sh_4 ?_
      refine cl_readAll (W := W) (T := T.2) (m := T.1) hok hs h3 t1 hT7 hn (fun k hk => ⟨t2 k hk, hTO.2 k hk⟩) (fun f I' h0 h1 h2 h3 => ?_) (fun D q I' h0 h1 h2 h4 h5 h6 h7 h8 => ?_)
      · refine zBlkR (M := mX9_text) (nL := 4) (rt := (Option.some .int)) (blk := bX9_text_30) (T := [(45, bX9_text_45)]) 1 hX9_text_30 (zChks_cons hX9_text_45 zChks_nil) rfl rfl rfl (Nat.le_of_ble_eq_true rfl) (Nat.le_of_ble_eq_true rfl) ?_
        simp (implicitDefEqProofs := false) only [bX9_text_30, bX9_text_45, zRun_cons, zRun_nil, zLk, zSto, zIns, zFil, zf0, zf1, zf2, zf3, List.filter_cons, List.filter_nil, Nat.reduceAdd, Nat.reduceEqDiff, Nat.reduceLT, Nat.reduceLeDiff, Nat.reduceBEq, Nat.reduceBNe, reduceIte, if_true, if_false, Bool.false_and, Bool.true_and, Bool.and_true, Bool.and_false, Bool.not_false, Bool.not_true, Bool.false_eq_true, beq_self_eq_true, BEq.rfl, zCat1, zCat2, zCat3, zKdI, zKdL, zKdR, true_and, and_true, zSI, zSL, zSR, zu_at, and_self, and_false, false_and, lv_args, zKdZ, zKdO, zB01, zB11, Option.toList_none, Option.toList_some, List.nil_append, List.cons_append, true_or, or_true, zRow_rd, zu_rd, zo_istore_n, zo_aload_n, zo_getfield, zo_iconst, zo_putfield, zo_putfield_2, zo_putfield_3, zo_iload_n, zo_if_ne, zo_ireturn, zo_astore_n, zi_0, zi_m1, zKd_9_0, zKd_7_2, zTy_7_2, zKd_9_13, zKd_9_12, zTy_9_13, zTy_9_12, sh_0, rf_0_0, sh_1, zcl_0, rf_0_13, sh_71, rf_0_12, sh_55, zRt, zPutC, zKn_s, zKn_0, zFind, zN10, zN01, not_true_eq_false, not_false_eq_true, false_implies, true_implies, implies_true, eq_self, nI_1, nI_40, nI_7, vz0, vz1, zb1_e0, zb1_n0]
        exact hF n f _ rfl hn h0 ((h1.mono (fun i k h => Or.inl h)).u (Or.inr ⟨rfl, rfl⟩)) (by simp [zu_at]) (by simp [zu_at]; exact h2) (by simp [zu_at]; exact h3)
      · refine zBlkR (M := mX9_text) (nL := 4) (rt := (Option.some .int)) (blk := bX9_text_30) (T := [(45, bX9_text_45)]) 1 hX9_text_30 (zChks_cons hX9_text_45 zChks_nil) rfl rfl rfl (Nat.le_of_ble_eq_true rfl) (Nat.le_of_ble_eq_true rfl) ?_
        simp (implicitDefEqProofs := false) only [bX9_text_30, bX9_text_45, zRun_cons, zRun_nil, zLk, zSto, zIns, zFil, zf0, zf1, zf2, zf3, List.filter_cons, List.filter_nil, Nat.reduceAdd, Nat.reduceEqDiff, Nat.reduceLT, Nat.reduceLeDiff, Nat.reduceBEq, Nat.reduceBNe, reduceIte, if_true, if_false, Bool.false_and, Bool.true_and, Bool.and_true, Bool.and_false, Bool.not_false, Bool.not_true, Bool.false_eq_true, beq_self_eq_true, BEq.rfl, zCat1, zCat2, zCat3, zKdI, zKdL, zKdR, true_and, and_true, zSI, zSL, zSR, zu_at, and_self, and_false, false_and, lv_args, zKdZ, zKdO, zB01, zB11, Option.toList_none, Option.toList_some, List.nil_append, List.cons_append, true_or, or_true, zRow_rd, zu_rd, zo_istore_n, zo_aload_n, zo_getfield, zo_iconst, zo_putfield, zo_putfield_2, zo_putfield_3, zo_iload_n, zo_if_ne, zo_ireturn, zo_astore_n, zi_0, zi_m1, zKd_9_0, zKd_7_2, zTy_7_2, zKd_9_13, zKd_9_12, zTy_9_13, zTy_9_12, sh_0, rf_0_0, sh_1, zcl_0, rf_0_13, sh_71, rf_0_12, sh_55, zRt, zPutC, zKn_s, zKn_0, zFind, zN10, zN01, not_true_eq_false, not_false_eq_true, false_implies, true_implies, implies_true, eq_self, nI_1, nI_40, nI_7, vz0, vz1, zb1_e0, zb1_n0]
        refine z_cV0 (M' := mX9_begin) (R' := rX9_begin) (i := 0) [] [] eX9_begin k9_95 (by decide +kernel : decode cX9_text 64 = .ok (.invokevirtual 95, 3)) (Nat.le_of_ble_eq_true rfl) ⟨Nat.le_of_ble_eq_true rfl, Nat.le_of_ble_eq_true rfl, Nat.le_of_ble_eq_true rfl, Nat.le_of_ble_eq_true rfl, Nat.le_of_ble_eq_true rfl⟩ rfl rfl rfl sh_0 ?_
        refine sp_begin (p := s) hs (fun _ _ => rfl) (fun k hk => by rw [zu_at, if_neg (by omega), zu_at, if_neg (by omega)]; exact RF_0 k hk) (by simp [zu_at]) (fun k hk => by rw [zu_at, if_neg (by omega), zu_at, if_neg (by omega)]; exact RF_10 k hk) (by rw [zu_at, if_neg (by omega), zu_at, if_neg (by omega)]; exact prf_13 hs) ?_
        rw [zRF_sw]
        have e9 : zBegin (zu I' 1 2 0) s 4 9 = nI q := by
          unfold zBegin zFront0
          simp [zu_at, zRow_at]
          exact h6
        refine zBlkR (M := mX9_text) (nL := 4) (rt := (Option.some .int)) (blk := bX9_text_67) (T := []) 0 hX9_text_67 zChks_nil rfl rfl rfl (Nat.le_of_ble_eq_true rfl) (Nat.le_of_ble_eq_true rfl) ?_
        simp (implicitDefEqProofs := false) only [bX9_text_67, zRun_cons, zRun_nil, zLk, zSto, zIns, zFil, zf0, zf1, zf2, zf3, List.filter_cons, List.filter_nil, Nat.reduceAdd, Nat.reduceEqDiff, Nat.reduceLT, Nat.reduceLeDiff, Nat.reduceBEq, Nat.reduceBNe, reduceIte, if_true, if_false, Bool.false_and, Bool.true_and, Bool.and_true, Bool.and_false, Bool.not_false, Bool.not_true, Bool.false_eq_true, beq_self_eq_true, BEq.rfl, zCat1, zCat2, zCat3, zKdI, zKdL, zKdR, true_and, and_true, zSI, zSL, zSR, zu_at, and_self, and_false, false_and, lv_args, zKdZ, zKdO, zB01, zB11, Option.toList_none, Option.toList_some, List.nil_append, List.cons_append, true_or, or_true, zRow_rd, zu_rd, zo_aload_n, zo_getfield, zo_ireturn, zKd_9_1, zKd_5_9, sh_0, rf_0_1, sh_4, zRt, zKn_0, e9, zN10, zN01, not_true_eq_false, not_false_eq_true, false_implies, true_implies, implies_true, eq_self, nI_1, nI_40, nI_7, vz0, vz1, zb1_e0, zb1_n0]
        have hcl : ∀ ch, zClsP (zu I' 1 2 0) s (dPn D ch) := fun ch => zClsP_row (fun j => by funext k; rw [zu_at, if_neg (by omega)]) (h4 ch)
        exact hG n D q _ rfl hn h0 h1 ((h2.mono (fun i k h => Or.inl h)).u (Or.inr ⟨rfl, rfl⟩)) (by simp [zu_at]) hcl h5 (by simp [zu_at]; exact h7) (by simp [zu_at]; exact h8)
theorem tLn0 : ∀ k, k < 47 → ((rKd k = 1 ∧ rWh k ≤ 12) ↔ ((27 ≤ k ∧ k ≤ 34) ∨ (36 ≤ k ∧ k ≤ 40))) := by decide +kernel
theorem tLn1 : ∀ j, j < 7 → rWh (27 + j) = sIx j ∧ rKd (27 + j) = 1 := by decide
theorem sIx_ne : ∀ j, j < 7 → sIx j ≠ 0 ∧ sIx j ≠ 2 ∧ sIx j ≠ 3 ∧ sIx j ≠ 4 ∧ sIx j ≠ 11 ∧ sIx j ≠ 12 ∧ sIx j ≤ 12 := by decide
theorem tRel_w (hr : tRel k v kd wh) (hk : rKd k = 1) : kd = 1 ∧ wh = nI (rWh k) := by
  obtain ⟨h, h0 | ⟨h1, -, -, h4⟩⟩ := hr
  · rw [h0.1] at hk; exact absurd hk (by decide)
  · rw [h1, hk]; exact ⟨rfl, h4 (rKd_1 k h hk)⟩
set_option maxRecDepth 20000 in
theorem mo_lineRead (hM : E.2.2 ≤ t.2.1 + 699) (hE : zEr J E) (ht : tOk E t) (hr : tRel t.2.2.1 t.2.2.2 kd wh) (hD : zDr J D) (hO : DOk D)
    (hF : ∀ c a J' t' kd' wh', (gLine E D t = .inl (c, a) ∨ ∃ t1 D1, gLine E D t = .inr (t1, D1) ∧ ¬ tKd t1 = 4 ∧ c = 1 ∧ a = tAt t1) → zKpt SPr J J' → J' 87 4 = nI c → J' 87 5 = nI a → Q (some (.int 0)) (SH, zTq J' t' kd' wh', L, RF p s r))
    (hG : ∀ t1 D' J' kd' wh', gLine E D t = .inr (t1, D') → tKd t1 = 4 → zKpt SPr J J' → zDr J' D' → tRel (tNx E t1).2.2.1 (tNx E t1).2.2.2 kd' wh' → Q (some (.int 1)) (SH, zTq J' (tNx E t1) kd' wh', L, RF p s r)) : zXM w mX10_lineRead rX10_lineRead [.ref 87] (SH, zTq J t kd wh, L, RF p s r) Q := by
  unfold zXM
  have hkd := ht.2.2.1
  have hg : gLine E D t = gLine E D t := rfl
  conv at hg => rhs; unfold gLine
  -- behind a line: its semicolon
  have fin : ∀ (t1 : oTk) (D' : oDf) (J1 : Nat → Nat → Int32) (kd1 wh1 : Int32), gLine E D t = .inr (t1, D') → zKpt SPr J J1 → zDr J1 D' → tRel t1.2.2.1 t1.2.2.2 kd1 wh1 → zX w mX10_lineRead rX10_lineRead Q 0 0 203 [(0, Value.ref 87), (1, Value.int 1)] [Value.int 59, Value.ref 87] (SH, zTq J1 t1 kd1 wh1, L, RF p s r) := by
    intro t1 D' J1 kd1 wh1 h0 h1 h2 h3
    have ht1 := tBe_ok (gLine_ok ht hO h0).2
    refine z_cV0 (M' := mX10_isSign) (R' := rX10_isSign) (i := 87) [.int 59] [] eX10_isSign k10_233 (by decide +kernel : decode cX10_lineRead 203 = .ok (.invokevirtual 233, 3)) (Nat.le_of_ble_eq_true rfl) ⟨Nat.le_of_ble_eq_true rfl, Nat.le_of_ble_eq_true rfl, Nat.le_of_ble_eq_true rfl, Nat.le_of_ble_eq_true rfl, Nat.le_of_ble_eq_true rfl⟩ rfl rfl rfl sh_87 ?_
    refine mo_isSign ?_
    rw [zTq_8, zTq_9, tS59 h3]
    by_cases k4 : t1.2.2.1 = 4
    · rw [decide_eq_true k4]
      refine zBlkR (M := mX10_lineRead) (nL := 2) (rt := (Option.some .boolean)) (blk := bX10_lineRead_206) (T := [(215, bX10_lineRead_215)]) 1 hX10_lineRead_206 (zChks_cons hX10_lineRead_215 zChks_nil) rfl rfl rfl (Nat.le_of_ble_eq_true rfl) (Nat.le_of_ble_eq_true rfl) ?_
      simp (implicitDefEqProofs := false) only [bX10_lineRead_206, bX10_lineRead_215, zRun_cons, zRun_nil, zLk, zSto, zIns, zFil, zf0, zf1, zf2, zf3, List.filter_cons, List.filter_nil, Nat.reduceAdd, Nat.reduceEqDiff, Nat.reduceLT, Nat.reduceLeDiff, Nat.reduceBEq, Nat.reduceBNe, reduceIte, if_true, if_false, Bool.false_and, Bool.true_and, Bool.and_true, Bool.and_false, Bool.not_false, Bool.not_true, Bool.false_eq_true, beq_self_eq_true, BEq.rfl, zCat1, zCat2, zCat3, zKdI, zKdL, zKdR, true_and, and_true, zSI, zSL, zSR, zu_at, and_self, and_false, false_and, lv_args, zKdZ, zKdO, zB01, zB11, Option.toList_none, Option.toList_some, List.nil_append, List.cons_append, true_or, or_true, zRow_rd, zu_rd, zo_if_ne, zo_aload_n, zo_iconst, zi_1, zcl_1, zKn_s, zKn_0, zFind, zb1_t, zN10, zN01, not_true_eq_false, not_false_eq_true, false_implies, true_implies, implies_true, eq_self, nI_1, nI_40, nI_7, vz0, vz1, zb1_e0, zb1_n0]
      refine z_cV0 (M' := mX10_token) (R' := rX10_token) (i := 87) [] [] eX10_token k10_230 (by decide +kernel : decode cX10_lineRead 216 = .ok (.invokevirtual 230, 3)) (Nat.le_of_ble_eq_true rfl) ⟨Nat.le_of_ble_eq_true rfl, Nat.le_of_ble_eq_true rfl, Nat.le_of_ble_eq_true rfl, Nat.le_of_ble_eq_true rfl, Nat.le_of_ble_eq_true rfl⟩ rfl rfl rfl sh_87 ?_
      refine mo_tok (zEr_k h1 hE) ht1 (fun kd2 wh2 hr2 => ?_)
      refine zBlkR (M := mX10_lineRead) (nL := 2) (rt := (Option.some .boolean)) (blk := bX10_lineRead_219) (T := []) 0 hX10_lineRead_219 zChks_nil rfl rfl rfl (Nat.le_of_ble_eq_true rfl) (Nat.le_of_ble_eq_true rfl) ?_
      simp (implicitDefEqProofs := false) only [bX10_lineRead_219, zRun_cons, zRun_nil, zLk, zSto, zIns, zFil, zf0, zf1, zf2, zf3, List.filter_cons, List.filter_nil, Nat.reduceAdd, Nat.reduceEqDiff, Nat.reduceLT, Nat.reduceLeDiff, Nat.reduceBEq, Nat.reduceBNe, reduceIte, if_true, if_false, Bool.false_and, Bool.true_and, Bool.and_true, Bool.and_false, Bool.not_false, Bool.not_true, Bool.false_eq_true, beq_self_eq_true, BEq.rfl, zCat1, zCat2, zCat3, zKdI, zKdL, zKdR, true_and, and_true, zSI, zSL, zSR, zu_at, and_self, and_false, false_and, lv_args, zKdZ, zKdO, zB01, zB11, Option.toList_none, Option.toList_some, List.nil_append, List.cons_append, true_or, or_true, zRow_rd, zu_rd, zo_iconst, zo_ireturn, zi_1, zcl_1, zRt, zKn_0, zN10, zN01, not_true_eq_false, not_false_eq_true, false_implies, true_implies, implies_true, eq_self, nI_1, nI_40, nI_7, vz0, vz1, zb1_e0, zb1_n0]
      exact hG t1 D' J1 kd2 wh2 h0 k4 h1 h2 hr2
    · rw [decide_eq_false k4]
      refine zBlkR (M := mX10_lineRead) (nL := 2) (rt := (Option.some .boolean)) (blk := bX10_lineRead_206) (T := [(215, bX10_lineRead_215)]) 1 hX10_lineRead_206 (zChks_cons hX10_lineRead_215 zChks_nil) rfl rfl rfl (Nat.le_of_ble_eq_true rfl) (Nat.le_of_ble_eq_true rfl) ?_
      simp (implicitDefEqProofs := false) only [bX10_lineRead_206, bX10_lineRead_215, zRun_cons, zRun_nil, zLk, zSto, zIns, zFil, zf0, zf1, zf2, zf3, List.filter_cons, List.filter_nil, Nat.reduceAdd, Nat.reduceEqDiff, Nat.reduceLT, Nat.reduceLeDiff, Nat.reduceBEq, Nat.reduceBNe, reduceIte, if_true, if_false, Bool.false_and, Bool.true_and, Bool.and_true, Bool.and_false, Bool.not_false, Bool.not_true, Bool.false_eq_true, beq_self_eq_true, BEq.rfl, zCat1, zCat2, zCat3, zKdI, zKdL, zKdR, true_and, and_true, zSI, zSL, zSR, zu_at, and_self, and_false, false_and, lv_args, zKdZ, zKdO, zB01, zB11, Option.toList_none, Option.toList_some, List.nil_append, List.cons_append, true_or, or_true, zRow_rd, zu_rd, zo_if_ne, zo_aload_n, zo_iconst, zi_1, zcl_1, zKn_s, zKn_0, zFind, zb1_f, zN10, zN01, not_true_eq_false, not_false_eq_true, false_implies, true_implies, implies_true, eq_self, nI_1, nI_40, nI_7, vz0, vz1, zb1_e0, zb1_n0]
      refine z_cV0 (M' := mX10_wrong) (R' := rX10_wrong) (i := 87) [.int 1] [] eX10_wrong k10_220 (by decide +kernel : decode cX10_lineRead 211 = .ok (.invokevirtual 220, 3)) (Nat.le_of_ble_eq_true rfl) ⟨Nat.le_of_ble_eq_true rfl, Nat.le_of_ble_eq_true rfl, Nat.le_of_ble_eq_true rfl, Nat.le_of_ble_eq_true rfl, Nat.le_of_ble_eq_true rfl⟩ rfl rfl rfl sh_87 ?_
      refine mo_wrg ?_
      refine zBlkR (M := mX10_lineRead) (nL := 2) (rt := (Option.some .boolean)) (blk := bX10_lineRead_214) (T := []) 0 hX10_lineRead_214 zChks_nil rfl rfl rfl (Nat.le_of_ble_eq_true rfl) (Nat.le_of_ble_eq_true rfl) ?_
      simp (implicitDefEqProofs := false) only [bX10_lineRead_214, zRun_cons, zRun_nil, zLk, zSto, zIns, zFil, zf0, zf1, zf2, zf3, List.filter_cons, List.filter_nil, Nat.reduceAdd, Nat.reduceEqDiff, Nat.reduceLT, Nat.reduceLeDiff, Nat.reduceBEq, Nat.reduceBNe, reduceIte, if_true, if_false, Bool.false_and, Bool.true_and, Bool.and_true, Bool.and_false, Bool.not_false, Bool.not_true, Bool.false_eq_true, beq_self_eq_true, BEq.rfl, zCat1, zCat2, zCat3, zKdI, zKdL, zKdR, true_and, and_true, zSI, zSL, zSR, zu_at, and_self, and_false, false_and, lv_args, zKdZ, zKdO, zB01, zB11, Option.toList_none, Option.toList_some, List.nil_append, List.cons_append, true_or, or_true, zRow_rd, zu_rd, zo_ireturn, zRt, zKn_0, zN10, zN01, not_true_eq_false, not_false_eq_true, false_implies, true_implies, implies_true, eq_self, nI_1, nI_40, nI_7, vz0, vz1, zb1_e0, zb1_n0]
      exact hF _ _ _ _ _ _ (Or.inr ⟨t1, D', h0, k4, rfl, rfl⟩) ((h1.u (by unfold SPr; omega)).u (by unfold SPr; omega)) (by simp [zu_at]; rfl) (by simp [zu_at])
  by_cases hl : (27 ≤ t.2.2.1 ∧ t.2.2.1 ≤ 34) ∨ (36 ≤ t.2.2.1 ∧ t.2.2.1 ≤ 40)
  · have hl0 := (tLn0 _ hkd).mpr hl
    obtain ⟨ek, ew⟩ := tRel_w hr hl0.1
    have z12 : (nI (rWh t.2.2.1) ≤ 12) = True := eq_true (by rw [show (12 : Int32) = nI 12 from rfl, zle_nat (by omega) (by omega)]; exact hl0.2)
    subst ek
    subst ew
    by_cases c34 : t.2.2.1 = 34
    · rw [if_pos c34] at hg
      rw [show rWh t.2.2.1 = 0 by rw [c34]; rfl] at z12 ⊢
      refine zBlkR (M := mX10_lineRead) (nL := 2) (rt := (Option.some .boolean)) (blk := bX10_lineRead_0) (T := [(17, bX10_lineRead_17), (23, bX10_lineRead_23)]) 1 hX10_lineRead_0 (zChks_cons hX10_lineRead_17 (zChks_cons hX10_lineRead_23 zChks_nil)) rfl rfl rfl (Nat.le_of_ble_eq_true rfl) (Nat.le_of_ble_eq_true rfl) ?_
      simp (implicitDefEqProofs := false) only [bX10_lineRead_0, bX10_lineRead_17, bX10_lineRead_23, zRun_cons, zRun_nil, zLk, zSto, zIns, zFil, zf0, zf1, zf2, zf3, List.filter_cons, List.filter_nil, Nat.reduceAdd, Nat.reduceEqDiff, Nat.reduceLT, Nat.reduceLeDiff, Nat.reduceBEq, Nat.reduceBNe, reduceIte, if_true, if_false, Bool.false_and, Bool.true_and, Bool.and_true, Bool.and_false, Bool.not_false, Bool.not_true, Bool.false_eq_true, beq_self_eq_true, BEq.rfl, zCat1, zCat2, zCat3, zKdI, zKdL, zKdR, true_and, and_true, zSI, zSL, zSR, zu_at, and_self, and_false, false_and, lv_args, zKdZ, zKdO, zB01, zB11, Option.toList_none, Option.toList_some, List.nil_append, List.cons_append, true_or, or_true, zRow_rd, zu_rd, zo_aload_n, zo_getfield, zo_iconst, zo_icmp_ne, zo_bipush, zo_icmp_le, zi_1, zb_12, zKd_10_8, zKd_10_9, sh_87, zcl_1, zcl_12, zKn_s, zKn_0, zFind, zTq_7, zTq_8, zTq_9, zTq_10, zTq_o, zTq_k, zTq_u, zTq_uk, z12, zN10, zN01, not_true_eq_false, not_false_eq_true, false_implies, true_implies, implies_true, eq_self, nI_1, nI_40, nI_7, vz0, vz1, zb1_e0, zb1_n0]
      refine z_tsw (dt := 185) [(0, 92), (1, 185), (2, 100), (3, 108), (4, 116), (5, 185), (6, 185), (7, 185), (8, 185), (9, 185), (10, 185), (11, 124), (12, 177)] (by decide +kernel : decode cX10_lineRead 27 = .ok (.tableswitch 158 0 12 #[65, 158, 73, 81, 89, 158, 158, 158, 158, 158, 158, 97, 150], 65)) (by decide) (by decide) (by decide) (zSw_of (t := 92) (by decide) ?_)
      refine zBlkR (M := mX10_lineRead) (nL := 2) (rt := (Option.some .boolean)) (blk := bX10_lineRead_92) (T := []) 0 hX10_lineRead_92 zChks_nil rfl rfl rfl (Nat.le_of_ble_eq_true rfl) (Nat.le_of_ble_eq_true rfl) ?_
      simp (implicitDefEqProofs := false) only [bX10_lineRead_92, zRun_cons, zRun_nil, zLk, zSto, zIns, zFil, zf0, zf1, zf2, zf3, List.filter_cons, List.filter_nil, Nat.reduceAdd, Nat.reduceEqDiff, Nat.reduceLT, Nat.reduceLeDiff, Nat.reduceBEq, Nat.reduceBNe, reduceIte, if_true, if_false, Bool.false_and, Bool.true_and, Bool.and_true, Bool.and_false, Bool.not_false, Bool.not_true, Bool.false_eq_true, beq_self_eq_true, BEq.rfl, zCat1, zCat2, zCat3, zKdI, zKdL, zKdR, true_and, and_true, zSI, zSL, zSR, zu_at, and_self, and_false, false_and, lv_args, zKdZ, zKdO, zB01, zB11, Option.toList_none, Option.toList_some, List.nil_append, List.cons_append, true_or, or_true, zRow_rd, zu_rd, zo_aload_n, zKn_0, zN10, zN01, not_true_eq_false, not_false_eq_true, false_implies, true_implies, implies_true, eq_self, nI_1, nI_40, nI_7, vz0, vz1, zb1_e0, zb1_n0]
      refine z_cV0 (M' := mX10_placeLine) (R' := rX10_placeLine) (i := 87) [] [] eX10_placeLine k10_301 (by decide +kernel : decode cX10_lineRead 93 = .ok (.invokevirtual 301, 3)) (Nat.le_of_ble_eq_true rfl) ⟨Nat.le_of_ble_eq_true rfl, Nat.le_of_ble_eq_true rfl, Nat.le_of_ble_eq_true rfl, Nat.le_of_ble_eq_true rfl, Nat.le_of_ble_eq_true rfl⟩ rfl rfl rfl sh_87 ?_
      refine mo_placeLine hE ht (by rw [show nI 0 = nI (rWh t.2.2.1) by rw [c34]; rfl]; exact hr) hD hO (fun c a J' t' kd' wh' h0 h1 h2 h3 => ?_) (fun t' D' J' kd' wh' h0 h1 h2 h3 => ?_)
      · refine zBlkR (M := mX10_lineRead) (nL := 2) (rt := (Option.some .boolean)) (blk := bX10_lineRead_96) (T := [(194, bX10_lineRead_194), (200, bX10_lineRead_200)]) 2 hX10_lineRead_96 (zChks_cons hX10_lineRead_194 (zChks_cons hX10_lineRead_200 zChks_nil)) rfl rfl rfl (Nat.le_of_ble_eq_true rfl) (Nat.le_of_ble_eq_true rfl) ?_
        simp (implicitDefEqProofs := false) only [bX10_lineRead_96, bX10_lineRead_194, bX10_lineRead_200, zRun_cons, zRun_nil, zLk, zSto, zIns, zFil, zf0, zf1, zf2, zf3, List.filter_cons, List.filter_nil, Nat.reduceAdd, Nat.reduceEqDiff, Nat.reduceLT, Nat.reduceLeDiff, Nat.reduceBEq, Nat.reduceBNe, reduceIte, if_true, if_false, Bool.false_and, Bool.true_and, Bool.and_true, Bool.and_false, Bool.not_false, Bool.not_true, Bool.false_eq_true, beq_self_eq_true, BEq.rfl, zCat1, zCat2, zCat3, zKdI, zKdL, zKdR, true_and, and_true, zSI, zSL, zSR, zu_at, and_self, and_false, false_and, lv_args, zKdZ, zKdO, zB01, zB11, Option.toList_none, Option.toList_some, List.nil_append, List.cons_append, true_or, or_true, zRow_rd, zu_rd, zo_istore_n, zo_goto, zo_iload_n, zo_if_ne, zo_iconst, zo_ireturn, zo_aload_n, zo_bipush, zi_0, zb_59, zcl_0, zcl_59, zRt, zKn_s, zKn_0, zFind, zN10, zN01, not_true_eq_false, not_false_eq_true, false_implies, true_implies, implies_true, eq_self, nI_1, nI_40, nI_7, vz0, vz1, zb1_e0, zb1_n0]
        exact hF c a J' t' kd' wh' (Or.inl (hg.trans h0)) h1 h2 h3
      · refine zBlkR (M := mX10_lineRead) (nL := 2) (rt := (Option.some .boolean)) (blk := bX10_lineRead_96) (T := [(194, bX10_lineRead_194), (200, bX10_lineRead_200)]) 2 hX10_lineRead_96 (zChks_cons hX10_lineRead_194 (zChks_cons hX10_lineRead_200 zChks_nil)) rfl rfl rfl (Nat.le_of_ble_eq_true rfl) (Nat.le_of_ble_eq_true rfl) ?_
        simp (implicitDefEqProofs := false) only [bX10_lineRead_96, bX10_lineRead_194, bX10_lineRead_200, zRun_cons, zRun_nil, zLk, zSto, zIns, zFil, zf0, zf1, zf2, zf3, List.filter_cons, List.filter_nil, Nat.reduceAdd, Nat.reduceEqDiff, Nat.reduceLT, Nat.reduceLeDiff, Nat.reduceBEq, Nat.reduceBNe, reduceIte, if_true, if_false, Bool.false_and, Bool.true_and, Bool.and_true, Bool.and_false, Bool.not_false, Bool.not_true, Bool.false_eq_true, beq_self_eq_true, BEq.rfl, zCat1, zCat2, zCat3, zKdI, zKdL, zKdR, true_and, and_true, zSI, zSL, zSR, zu_at, and_self, and_false, false_and, lv_args, zKdZ, zKdO, zB01, zB11, Option.toList_none, Option.toList_some, List.nil_append, List.cons_append, true_or, or_true, zRow_rd, zu_rd, zo_istore_n, zo_goto, zo_iload_n, zo_if_ne, zo_iconst, zo_ireturn, zo_aload_n, zo_bipush, zi_0, zb_59, zcl_0, zcl_59, zRt, zKn_s, zKn_0, zFind, zN10, zN01, not_true_eq_false, not_false_eq_true, false_implies, true_implies, implies_true, eq_self, nI_1, nI_40, nI_7, vz0, vz1, zb1_e0, zb1_n0]
        exact fin t' D' J' kd' wh' (hg.trans h0) h1 h2 h3
    by_cases c36 : t.2.2.1 = 36
    · rw [if_neg c34, if_pos c36] at hg
      rw [show rWh t.2.2.1 = 2 by rw [c36]; rfl] at z12 ⊢
      refine zBlkR (M := mX10_lineRead) (nL := 2) (rt := (Option.some .boolean)) (blk := bX10_lineRead_0) (T := [(17, bX10_lineRead_17), (23, bX10_lineRead_23)]) 1 hX10_lineRead_0 (zChks_cons hX10_lineRead_17 (zChks_cons hX10_lineRead_23 zChks_nil)) rfl rfl rfl (Nat.le_of_ble_eq_true rfl) (Nat.le_of_ble_eq_true rfl) ?_
      simp (implicitDefEqProofs := false) only [bX10_lineRead_0, bX10_lineRead_17, bX10_lineRead_23, zRun_cons, zRun_nil, zLk, zSto, zIns, zFil, zf0, zf1, zf2, zf3, List.filter_cons, List.filter_nil, Nat.reduceAdd, Nat.reduceEqDiff, Nat.reduceLT, Nat.reduceLeDiff, Nat.reduceBEq, Nat.reduceBNe, reduceIte, if_true, if_false, Bool.false_and, Bool.true_and, Bool.and_true, Bool.and_false, Bool.not_false, Bool.not_true, Bool.false_eq_true, beq_self_eq_true, BEq.rfl, zCat1, zCat2, zCat3, zKdI, zKdL, zKdR, true_and, and_true, zSI, zSL, zSR, zu_at, and_self, and_false, false_and, lv_args, zKdZ, zKdO, zB01, zB11, Option.toList_none, Option.toList_some, List.nil_append, List.cons_append, true_or, or_true, zRow_rd, zu_rd, zo_aload_n, zo_getfield, zo_iconst, zo_icmp_ne, zo_bipush, zo_icmp_le, zi_1, zb_12, zKd_10_8, zKd_10_9, sh_87, zcl_1, zcl_12, zKn_s, zKn_0, zFind, zTq_7, zTq_8, zTq_9, zTq_10, zTq_o, zTq_k, zTq_u, zTq_uk, z12, zN10, zN01, not_true_eq_false, not_false_eq_true, false_implies, true_implies, implies_true, eq_self, nI_1, nI_40, nI_7, vz0, vz1, zb1_e0, zb1_n0]
      refine z_tsw (dt := 185) [(0, 92), (1, 185), (2, 100), (3, 108), (4, 116), (5, 185), (6, 185), (7, 185), (8, 185), (9, 185), (10, 185), (11, 124), (12, 177)] (by decide +kernel : decode cX10_lineRead 27 = .ok (.tableswitch 158 0 12 #[65, 158, 73, 81, 89, 158, 158, 158, 158, 158, 158, 97, 150], 65)) (by decide) (by decide) (by decide) (zSw_of (t := 100) (by decide) ?_)
      refine zBlkR (M := mX10_lineRead) (nL := 2) (rt := (Option.some .boolean)) (blk := bX10_lineRead_100) (T := []) 0 hX10_lineRead_100 zChks_nil rfl rfl rfl (Nat.le_of_ble_eq_true rfl) (Nat.le_of_ble_eq_true rfl) ?_
      simp (implicitDefEqProofs := false) only [bX10_lineRead_100, zRun_cons, zRun_nil, zLk, zSto, zIns, zFil, zf0, zf1, zf2, zf3, List.filter_cons, List.filter_nil, Nat.reduceAdd, Nat.reduceEqDiff, Nat.reduceLT, Nat.reduceLeDiff, Nat.reduceBEq, Nat.reduceBNe, reduceIte, if_true, if_false, Bool.false_and, Bool.true_and, Bool.and_true, Bool.and_false, Bool.not_false, Bool.not_true, Bool.false_eq_true, beq_self_eq_true, BEq.rfl, zCat1, zCat2, zCat3, zKdI, zKdL, zKdR, true_and, and_true, zSI, zSL, zSR, zu_at, and_self, and_false, false_and, lv_args, zKdZ, zKdO, zB01, zB11, Option.toList_none, Option.toList_some, List.nil_append, List.cons_append, true_or, or_true, zRow_rd, zu_rd, zo_aload_n, zKn_0, zN10, zN01, not_true_eq_false, not_false_eq_true, false_implies, true_implies, implies_true, eq_self, nI_1, nI_40, nI_7, vz0, vz1, zb1_e0, zb1_n0]
      refine z_cV0 (M' := mX10_comeLine) (R' := rX10_comeLine) (i := 87) [] [] eX10_comeLine k10_304 (by decide +kernel : decode cX10_lineRead 101 = .ok (.invokevirtual 304, 3)) (Nat.le_of_ble_eq_true rfl) ⟨Nat.le_of_ble_eq_true rfl, Nat.le_of_ble_eq_true rfl, Nat.le_of_ble_eq_true rfl, Nat.le_of_ble_eq_true rfl, Nat.le_of_ble_eq_true rfl⟩ rfl rfl rfl sh_87 ?_
      refine mo_comeLine hE ht (by rw [show nI 2 = nI (rWh t.2.2.1) by rw [c36]; rfl]; exact hr) hD hO (fun c a J' t' kd' wh' h0 h1 h2 h3 => ?_) (fun t' D' J' kd' wh' h0 h1 h2 h3 => ?_)
      · refine zBlkR (M := mX10_lineRead) (nL := 2) (rt := (Option.some .boolean)) (blk := bX10_lineRead_104) (T := [(194, bX10_lineRead_194), (200, bX10_lineRead_200)]) 2 hX10_lineRead_104 (zChks_cons hX10_lineRead_194 (zChks_cons hX10_lineRead_200 zChks_nil)) rfl rfl rfl (Nat.le_of_ble_eq_true rfl) (Nat.le_of_ble_eq_true rfl) ?_
        simp (implicitDefEqProofs := false) only [bX10_lineRead_104, bX10_lineRead_194, bX10_lineRead_200, zRun_cons, zRun_nil, zLk, zSto, zIns, zFil, zf0, zf1, zf2, zf3, List.filter_cons, List.filter_nil, Nat.reduceAdd, Nat.reduceEqDiff, Nat.reduceLT, Nat.reduceLeDiff, Nat.reduceBEq, Nat.reduceBNe, reduceIte, if_true, if_false, Bool.false_and, Bool.true_and, Bool.and_true, Bool.and_false, Bool.not_false, Bool.not_true, Bool.false_eq_true, beq_self_eq_true, BEq.rfl, zCat1, zCat2, zCat3, zKdI, zKdL, zKdR, true_and, and_true, zSI, zSL, zSR, zu_at, and_self, and_false, false_and, lv_args, zKdZ, zKdO, zB01, zB11, Option.toList_none, Option.toList_some, List.nil_append, List.cons_append, true_or, or_true, zRow_rd, zu_rd, zo_istore_n, zo_goto, zo_iload_n, zo_if_ne, zo_iconst, zo_ireturn, zo_aload_n, zo_bipush, zi_0, zb_59, zcl_0, zcl_59, zRt, zKn_s, zKn_0, zFind, zN10, zN01, not_true_eq_false, not_false_eq_true, false_implies, true_implies, implies_true, eq_self, nI_1, nI_40, nI_7, vz0, vz1, zb1_e0, zb1_n0]
        exact hF c a J' t' kd' wh' (Or.inl (hg.trans h0)) h1 h2 h3
      · refine zBlkR (M := mX10_lineRead) (nL := 2) (rt := (Option.some .boolean)) (blk := bX10_lineRead_104) (T := [(194, bX10_lineRead_194), (200, bX10_lineRead_200)]) 2 hX10_lineRead_104 (zChks_cons hX10_lineRead_194 (zChks_cons hX10_lineRead_200 zChks_nil)) rfl rfl rfl (Nat.le_of_ble_eq_true rfl) (Nat.le_of_ble_eq_true rfl) ?_
        simp (implicitDefEqProofs := false) only [bX10_lineRead_104, bX10_lineRead_194, bX10_lineRead_200, zRun_cons, zRun_nil, zLk, zSto, zIns, zFil, zf0, zf1, zf2, zf3, List.filter_cons, List.filter_nil, Nat.reduceAdd, Nat.reduceEqDiff, Nat.reduceLT, Nat.reduceLeDiff, Nat.reduceBEq, Nat.reduceBNe, reduceIte, if_true, if_false, Bool.false_and, Bool.true_and, Bool.and_true, Bool.and_false, Bool.not_false, Bool.not_true, Bool.false_eq_true, beq_self_eq_true, BEq.rfl, zCat1, zCat2, zCat3, zKdI, zKdL, zKdR, true_and, and_true, zSI, zSL, zSR, zu_at, and_self, and_false, false_and, lv_args, zKdZ, zKdO, zB01, zB11, Option.toList_none, Option.toList_some, List.nil_append, List.cons_append, true_or, or_true, zRow_rd, zu_rd, zo_istore_n, zo_goto, zo_iload_n, zo_if_ne, zo_iconst, zo_ireturn, zo_aload_n, zo_bipush, zi_0, zb_59, zcl_0, zcl_59, zRt, zKn_s, zKn_0, zFind, zN10, zN01, not_true_eq_false, not_false_eq_true, false_implies, true_implies, implies_true, eq_self, nI_1, nI_40, nI_7, vz0, vz1, zb1_e0, zb1_n0]
        exact fin t' D' J' kd' wh' (hg.trans h0) h1 h2 h3
    by_cases c37 : t.2.2.1 = 37
    · rw [if_neg c34, if_neg c36, if_pos c37] at hg
      rw [show rWh t.2.2.1 = 3 by rw [c37]; rfl] at z12 ⊢
      refine zBlkR (M := mX10_lineRead) (nL := 2) (rt := (Option.some .boolean)) (blk := bX10_lineRead_0) (T := [(17, bX10_lineRead_17), (23, bX10_lineRead_23)]) 1 hX10_lineRead_0 (zChks_cons hX10_lineRead_17 (zChks_cons hX10_lineRead_23 zChks_nil)) rfl rfl rfl (Nat.le_of_ble_eq_true rfl) (Nat.le_of_ble_eq_true rfl) ?_
      simp (implicitDefEqProofs := false) only [bX10_lineRead_0, bX10_lineRead_17, bX10_lineRead_23, zRun_cons, zRun_nil, zLk, zSto, zIns, zFil, zf0, zf1, zf2, zf3, List.filter_cons, List.filter_nil, Nat.reduceAdd, Nat.reduceEqDiff, Nat.reduceLT, Nat.reduceLeDiff, Nat.reduceBEq, Nat.reduceBNe, reduceIte, if_true, if_false, Bool.false_and, Bool.true_and, Bool.and_true, Bool.and_false, Bool.not_false, Bool.not_true, Bool.false_eq_true, beq_self_eq_true, BEq.rfl, zCat1, zCat2, zCat3, zKdI, zKdL, zKdR, true_and, and_true, zSI, zSL, zSR, zu_at, and_self, and_false, false_and, lv_args, zKdZ, zKdO, zB01, zB11, Option.toList_none, Option.toList_some, List.nil_append, List.cons_append, true_or, or_true, zRow_rd, zu_rd, zo_aload_n, zo_getfield, zo_iconst, zo_icmp_ne, zo_bipush, zo_icmp_le, zi_1, zb_12, zKd_10_8, zKd_10_9, sh_87, zcl_1, zcl_12, zKn_s, zKn_0, zFind, zTq_7, zTq_8, zTq_9, zTq_10, zTq_o, zTq_k, zTq_u, zTq_uk, z12, zN10, zN01, not_true_eq_false, not_false_eq_true, false_implies, true_implies, implies_true, eq_self, nI_1, nI_40, nI_7, vz0, vz1, zb1_e0, zb1_n0]
      refine z_tsw (dt := 185) [(0, 92), (1, 185), (2, 100), (3, 108), (4, 116), (5, 185), (6, 185), (7, 185), (8, 185), (9, 185), (10, 185), (11, 124), (12, 177)] (by decide +kernel : decode cX10_lineRead 27 = .ok (.tableswitch 158 0 12 #[65, 158, 73, 81, 89, 158, 158, 158, 158, 158, 158, 97, 150], 65)) (by decide) (by decide) (by decide) (zSw_of (t := 108) (by decide) ?_)
      refine zBlkR (M := mX10_lineRead) (nL := 2) (rt := (Option.some .boolean)) (blk := bX10_lineRead_108) (T := []) 0 hX10_lineRead_108 zChks_nil rfl rfl rfl (Nat.le_of_ble_eq_true rfl) (Nat.le_of_ble_eq_true rfl) ?_
      simp (implicitDefEqProofs := false) only [bX10_lineRead_108, zRun_cons, zRun_nil, zLk, zSto, zIns, zFil, zf0, zf1, zf2, zf3, List.filter_cons, List.filter_nil, Nat.reduceAdd, Nat.reduceEqDiff, Nat.reduceLT, Nat.reduceLeDiff, Nat.reduceBEq, Nat.reduceBNe, reduceIte, if_true, if_false, Bool.false_and, Bool.true_and, Bool.and_true, Bool.and_false, Bool.not_false, Bool.not_true, Bool.false_eq_true, beq_self_eq_true, BEq.rfl, zCat1, zCat2, zCat3, zKdI, zKdL, zKdR, true_and, and_true, zSI, zSL, zSR, zu_at, and_self, and_false, false_and, lv_args, zKdZ, zKdO, zB01, zB11, Option.toList_none, Option.toList_some, List.nil_append, List.cons_append, true_or, or_true, zRow_rd, zu_rd, zo_aload_n, zKn_0, zN10, zN01, not_true_eq_false, not_false_eq_true, false_implies, true_implies, implies_true, eq_self, nI_1, nI_40, nI_7, vz0, vz1, zb1_e0, zb1_n0]
      refine z_cV0 (M' := mX10_skyLine) (R' := rX10_skyLine) (i := 87) [] [] eX10_skyLine k10_307 (by decide +kernel : decode cX10_lineRead 109 = .ok (.invokevirtual 307, 3)) (Nat.le_of_ble_eq_true rfl) ⟨Nat.le_of_ble_eq_true rfl, Nat.le_of_ble_eq_true rfl, Nat.le_of_ble_eq_true rfl, Nat.le_of_ble_eq_true rfl, Nat.le_of_ble_eq_true rfl⟩ rfl rfl rfl sh_87 ?_
      refine mo_skyLine hE ht (by rw [show nI 3 = nI (rWh t.2.2.1) by rw [c37]; rfl]; exact hr) hD hO (fun c a J' t' kd' wh' h0 h1 h2 h3 => ?_) (fun t' D' J' kd' wh' h0 h1 h2 h3 => ?_)
      · refine zBlkR (M := mX10_lineRead) (nL := 2) (rt := (Option.some .boolean)) (blk := bX10_lineRead_112) (T := [(194, bX10_lineRead_194), (200, bX10_lineRead_200)]) 2 hX10_lineRead_112 (zChks_cons hX10_lineRead_194 (zChks_cons hX10_lineRead_200 zChks_nil)) rfl rfl rfl (Nat.le_of_ble_eq_true rfl) (Nat.le_of_ble_eq_true rfl) ?_
        simp (implicitDefEqProofs := false) only [bX10_lineRead_112, bX10_lineRead_194, bX10_lineRead_200, zRun_cons, zRun_nil, zLk, zSto, zIns, zFil, zf0, zf1, zf2, zf3, List.filter_cons, List.filter_nil, Nat.reduceAdd, Nat.reduceEqDiff, Nat.reduceLT, Nat.reduceLeDiff, Nat.reduceBEq, Nat.reduceBNe, reduceIte, if_true, if_false, Bool.false_and, Bool.true_and, Bool.and_true, Bool.and_false, Bool.not_false, Bool.not_true, Bool.false_eq_true, beq_self_eq_true, BEq.rfl, zCat1, zCat2, zCat3, zKdI, zKdL, zKdR, true_and, and_true, zSI, zSL, zSR, zu_at, and_self, and_false, false_and, lv_args, zKdZ, zKdO, zB01, zB11, Option.toList_none, Option.toList_some, List.nil_append, List.cons_append, true_or, or_true, zRow_rd, zu_rd, zo_istore_n, zo_goto, zo_iload_n, zo_if_ne, zo_iconst, zo_ireturn, zo_aload_n, zo_bipush, zi_0, zb_59, zcl_0, zcl_59, zRt, zKn_s, zKn_0, zFind, zN10, zN01, not_true_eq_false, not_false_eq_true, false_implies, true_implies, implies_true, eq_self, nI_1, nI_40, nI_7, vz0, vz1, zb1_e0, zb1_n0]
        exact hF c a J' t' kd' wh' (Or.inl (hg.trans h0)) h1 h2 h3
      · refine zBlkR (M := mX10_lineRead) (nL := 2) (rt := (Option.some .boolean)) (blk := bX10_lineRead_112) (T := [(194, bX10_lineRead_194), (200, bX10_lineRead_200)]) 2 hX10_lineRead_112 (zChks_cons hX10_lineRead_194 (zChks_cons hX10_lineRead_200 zChks_nil)) rfl rfl rfl (Nat.le_of_ble_eq_true rfl) (Nat.le_of_ble_eq_true rfl) ?_
        simp (implicitDefEqProofs := false) only [bX10_lineRead_112, bX10_lineRead_194, bX10_lineRead_200, zRun_cons, zRun_nil, zLk, zSto, zIns, zFil, zf0, zf1, zf2, zf3, List.filter_cons, List.filter_nil, Nat.reduceAdd, Nat.reduceEqDiff, Nat.reduceLT, Nat.reduceLeDiff, Nat.reduceBEq, Nat.reduceBNe, reduceIte, if_true, if_false, Bool.false_and, Bool.true_and, Bool.and_true, Bool.and_false, Bool.not_false, Bool.not_true, Bool.false_eq_true, beq_self_eq_true, BEq.rfl, zCat1, zCat2, zCat3, zKdI, zKdL, zKdR, true_and, and_true, zSI, zSL, zSR, zu_at, and_self, and_false, false_and, lv_args, zKdZ, zKdO, zB01, zB11, Option.toList_none, Option.toList_some, List.nil_append, List.cons_append, true_or, or_true, zRow_rd, zu_rd, zo_istore_n, zo_goto, zo_iload_n, zo_if_ne, zo_iconst, zo_ireturn, zo_aload_n, zo_bipush, zi_0, zb_59, zcl_0, zcl_59, zRt, zKn_s, zKn_0, zFind, zN10, zN01, not_true_eq_false, not_false_eq_true, false_implies, true_implies, implies_true, eq_self, nI_1, nI_40, nI_7, vz0, vz1, zb1_e0, zb1_n0]
        exact fin t' D' J' kd' wh' (hg.trans h0) h1 h2 h3
    by_cases c38 : t.2.2.1 = 38
    · rw [if_neg c34, if_neg c36, if_neg c37, if_pos c38] at hg
      rw [show rWh t.2.2.1 = 4 by rw [c38]; rfl] at z12 ⊢
      refine zBlkR (M := mX10_lineRead) (nL := 2) (rt := (Option.some .boolean)) (blk := bX10_lineRead_0) (T := [(17, bX10_lineRead_17), (23, bX10_lineRead_23)]) 1 hX10_lineRead_0 (zChks_cons hX10_lineRead_17 (zChks_cons hX10_lineRead_23 zChks_nil)) rfl rfl rfl (Nat.le_of_ble_eq_true rfl) (Nat.le_of_ble_eq_true rfl) ?_
      simp (implicitDefEqProofs := false) only [bX10_lineRead_0, bX10_lineRead_17, bX10_lineRead_23, zRun_cons, zRun_nil, zLk, zSto, zIns, zFil, zf0, zf1, zf2, zf3, List.filter_cons, List.filter_nil, Nat.reduceAdd, Nat.reduceEqDiff, Nat.reduceLT, Nat.reduceLeDiff, Nat.reduceBEq, Nat.reduceBNe, reduceIte, if_true, if_false, Bool.false_and, Bool.true_and, Bool.and_true, Bool.and_false, Bool.not_false, Bool.not_true, Bool.false_eq_true, beq_self_eq_true, BEq.rfl, zCat1, zCat2, zCat3, zKdI, zKdL, zKdR, true_and, and_true, zSI, zSL, zSR, zu_at, and_self, and_false, false_and, lv_args, zKdZ, zKdO, zB01, zB11, Option.toList_none, Option.toList_some, List.nil_append, List.cons_append, true_or, or_true, zRow_rd, zu_rd, zo_aload_n, zo_getfield, zo_iconst, zo_icmp_ne, zo_bipush, zo_icmp_le, zi_1, zb_12, zKd_10_8, zKd_10_9, sh_87, zcl_1, zcl_12, zKn_s, zKn_0, zFind, zTq_7, zTq_8, zTq_9, zTq_10, zTq_o, zTq_k, zTq_u, zTq_uk, z12, zN10, zN01, not_true_eq_false, not_false_eq_true, false_implies, true_implies, implies_true, eq_self, nI_1, nI_40, nI_7, vz0, vz1, zb1_e0, zb1_n0]
      refine z_tsw (dt := 185) [(0, 92), (1, 185), (2, 100), (3, 108), (4, 116), (5, 185), (6, 185), (7, 185), (8, 185), (9, 185), (10, 185), (11, 124), (12, 177)] (by decide +kernel : decode cX10_lineRead 27 = .ok (.tableswitch 158 0 12 #[65, 158, 73, 81, 89, 158, 158, 158, 158, 158, 158, 97, 150], 65)) (by decide) (by decide) (by decide) (zSw_of (t := 116) (by decide) ?_)
      refine zBlkR (M := mX10_lineRead) (nL := 2) (rt := (Option.some .boolean)) (blk := bX10_lineRead_116) (T := []) 0 hX10_lineRead_116 zChks_nil rfl rfl rfl (Nat.le_of_ble_eq_true rfl) (Nat.le_of_ble_eq_true rfl) ?_
      simp (implicitDefEqProofs := false) only [bX10_lineRead_116, zRun_cons, zRun_nil, zLk, zSto, zIns, zFil, zf0, zf1, zf2, zf3, List.filter_cons, List.filter_nil, Nat.reduceAdd, Nat.reduceEqDiff, Nat.reduceLT, Nat.reduceLeDiff, Nat.reduceBEq, Nat.reduceBNe, reduceIte, if_true, if_false, Bool.false_and, Bool.true_and, Bool.and_true, Bool.and_false, Bool.not_false, Bool.not_true, Bool.false_eq_true, beq_self_eq_true, BEq.rfl, zCat1, zCat2, zCat3, zKdI, zKdL, zKdR, true_and, and_true, zSI, zSL, zSR, zu_at, and_self, and_false, false_and, lv_args, zKdZ, zKdO, zB01, zB11, Option.toList_none, Option.toList_some, List.nil_append, List.cons_append, true_or, or_true, zRow_rd, zu_rd, zo_aload_n, zKn_0, zN10, zN01, not_true_eq_false, not_false_eq_true, false_implies, true_implies, implies_true, eq_self, nI_1, nI_40, nI_7, vz0, vz1, zb1_e0, zb1_n0]
      refine z_cV0 (M' := mX10_bandLine) (R' := rX10_bandLine) (i := 87) [] [] eX10_bandLine k10_310 (by decide +kernel : decode cX10_lineRead 117 = .ok (.invokevirtual 310, 3)) (Nat.le_of_ble_eq_true rfl) ⟨Nat.le_of_ble_eq_true rfl, Nat.le_of_ble_eq_true rfl, Nat.le_of_ble_eq_true rfl, Nat.le_of_ble_eq_true rfl, Nat.le_of_ble_eq_true rfl⟩ rfl rfl rfl sh_87 ?_
      refine mo_bandLine hE ht (by rw [show nI 4 = nI (rWh t.2.2.1) by rw [c38]; rfl]; exact hr) hD hO (fun c a J' t' kd' wh' h0 h1 h2 h3 => ?_) (fun t' D' J' kd' wh' h0 h1 h2 h3 => ?_)
      · refine zBlkR (M := mX10_lineRead) (nL := 2) (rt := (Option.some .boolean)) (blk := bX10_lineRead_120) (T := [(194, bX10_lineRead_194), (200, bX10_lineRead_200)]) 2 hX10_lineRead_120 (zChks_cons hX10_lineRead_194 (zChks_cons hX10_lineRead_200 zChks_nil)) rfl rfl rfl (Nat.le_of_ble_eq_true rfl) (Nat.le_of_ble_eq_true rfl) ?_
        simp (implicitDefEqProofs := false) only [bX10_lineRead_120, bX10_lineRead_194, bX10_lineRead_200, zRun_cons, zRun_nil, zLk, zSto, zIns, zFil, zf0, zf1, zf2, zf3, List.filter_cons, List.filter_nil, Nat.reduceAdd, Nat.reduceEqDiff, Nat.reduceLT, Nat.reduceLeDiff, Nat.reduceBEq, Nat.reduceBNe, reduceIte, if_true, if_false, Bool.false_and, Bool.true_and, Bool.and_true, Bool.and_false, Bool.not_false, Bool.not_true, Bool.false_eq_true, beq_self_eq_true, BEq.rfl, zCat1, zCat2, zCat3, zKdI, zKdL, zKdR, true_and, and_true, zSI, zSL, zSR, zu_at, and_self, and_false, false_and, lv_args, zKdZ, zKdO, zB01, zB11, Option.toList_none, Option.toList_some, List.nil_append, List.cons_append, true_or, or_true, zRow_rd, zu_rd, zo_istore_n, zo_goto, zo_iload_n, zo_if_ne, zo_iconst, zo_ireturn, zo_aload_n, zo_bipush, zi_0, zb_59, zcl_0, zcl_59, zRt, zKn_s, zKn_0, zFind, zN10, zN01, not_true_eq_false, not_false_eq_true, false_implies, true_implies, implies_true, eq_self, nI_1, nI_40, nI_7, vz0, vz1, zb1_e0, zb1_n0]
        exact hF c a J' t' kd' wh' (Or.inl (hg.trans h0)) h1 h2 h3
      · refine zBlkR (M := mX10_lineRead) (nL := 2) (rt := (Option.some .boolean)) (blk := bX10_lineRead_120) (T := [(194, bX10_lineRead_194), (200, bX10_lineRead_200)]) 2 hX10_lineRead_120 (zChks_cons hX10_lineRead_194 (zChks_cons hX10_lineRead_200 zChks_nil)) rfl rfl rfl (Nat.le_of_ble_eq_true rfl) (Nat.le_of_ble_eq_true rfl) ?_
        simp (implicitDefEqProofs := false) only [bX10_lineRead_120, bX10_lineRead_194, bX10_lineRead_200, zRun_cons, zRun_nil, zLk, zSto, zIns, zFil, zf0, zf1, zf2, zf3, List.filter_cons, List.filter_nil, Nat.reduceAdd, Nat.reduceEqDiff, Nat.reduceLT, Nat.reduceLeDiff, Nat.reduceBEq, Nat.reduceBNe, reduceIte, if_true, if_false, Bool.false_and, Bool.true_and, Bool.and_true, Bool.and_false, Bool.not_false, Bool.not_true, Bool.false_eq_true, beq_self_eq_true, BEq.rfl, zCat1, zCat2, zCat3, zKdI, zKdL, zKdR, true_and, and_true, zSI, zSL, zSR, zu_at, and_self, and_false, false_and, lv_args, zKdZ, zKdO, zB01, zB11, Option.toList_none, Option.toList_some, List.nil_append, List.cons_append, true_or, or_true, zRow_rd, zu_rd, zo_istore_n, zo_goto, zo_iload_n, zo_if_ne, zo_iconst, zo_ireturn, zo_aload_n, zo_bipush, zi_0, zb_59, zcl_0, zcl_59, zRt, zKn_s, zKn_0, zFind, zN10, zN01, not_true_eq_false, not_false_eq_true, false_implies, true_implies, implies_true, eq_self, nI_1, nI_40, nI_7, vz0, vz1, zb1_e0, zb1_n0]
        exact fin t' D' J' kd' wh' (hg.trans h0) h1 h2 h3
    by_cases c39 : t.2.2.1 = 39
    · rw [if_neg c34, if_neg c36, if_neg c37, if_neg c38, if_pos c39] at hg
      have hg2 : gLine E D t = gSign E D t := hg
      conv at hg2 => rhs; unfold gSign
      rw [show rWh t.2.2.1 = 11 by rw [c39]; rfl] at z12 ⊢
      have d0 := hD.1.2.2.2.2.1
      have np := hO.1.2.2.2.2.1
      have y4 : (nI (dNg D) = 4) = (dNg D = 4) := zeq_nat (b := 4) (by omega) (by omega)
      by_cases h5 : dNg D = 4
      · have h5' : (dNg D = 4) = True := eq_true h5
        rw [if_pos h5] at hg2
        refine zBlkR (M := mX10_lineRead) (nL := 2) (rt := (Option.some .boolean)) (blk := bX10_lineRead_0) (T := [(17, bX10_lineRead_17), (23, bX10_lineRead_23)]) 1 hX10_lineRead_0 (zChks_cons hX10_lineRead_17 (zChks_cons hX10_lineRead_23 zChks_nil)) rfl rfl rfl (Nat.le_of_ble_eq_true rfl) (Nat.le_of_ble_eq_true rfl) ?_
        simp (implicitDefEqProofs := false) only [bX10_lineRead_0, bX10_lineRead_17, bX10_lineRead_23, zRun_cons, zRun_nil, zLk, zSto, zIns, zFil, zf0, zf1, zf2, zf3, List.filter_cons, List.filter_nil, Nat.reduceAdd, Nat.reduceEqDiff, Nat.reduceLT, Nat.reduceLeDiff, Nat.reduceBEq, Nat.reduceBNe, reduceIte, if_true, if_false, Bool.false_and, Bool.true_and, Bool.and_true, Bool.and_false, Bool.not_false, Bool.not_true, Bool.false_eq_true, beq_self_eq_true, BEq.rfl, zCat1, zCat2, zCat3, zKdI, zKdL, zKdR, true_and, and_true, zSI, zSL, zSR, zu_at, and_self, and_false, false_and, lv_args, zKdZ, zKdO, zB01, zB11, Option.toList_none, Option.toList_some, List.nil_append, List.cons_append, true_or, or_true, zRow_rd, zu_rd, zo_aload_n, zo_getfield, zo_iconst, zo_icmp_ne, zo_bipush, zo_icmp_le, zi_1, zb_12, zKd_10_8, zKd_10_9, sh_87, zcl_1, zcl_12, zKn_s, zKn_0, zFind, zTq_7, zTq_8, zTq_9, zTq_10, zTq_o, zTq_k, zTq_u, zTq_uk, z12, zN10, zN01, not_true_eq_false, not_false_eq_true, false_implies, true_implies, implies_true, eq_self, nI_1, nI_40, nI_7, vz0, vz1, zb1_e0, zb1_n0]
        refine z_tsw (dt := 185) [(0, 92), (1, 185), (2, 100), (3, 108), (4, 116), (5, 185), (6, 185), (7, 185), (8, 185), (9, 185), (10, 185), (11, 124), (12, 177)] (by decide +kernel : decode cX10_lineRead 27 = .ok (.tableswitch 158 0 12 #[65, 158, 73, 81, 89, 158, 158, 158, 158, 158, 158, 97, 150], 65)) (by decide) (by decide) (by decide) (zSw_of (t := 124) (by decide) ?_)
        refine zBlkR (M := mX10_lineRead) (nL := 2) (rt := (Option.some .boolean)) (blk := bX10_lineRead_124) (T := [(138, bX10_lineRead_138)]) 1 hX10_lineRead_124 (zChks_cons hX10_lineRead_138 zChks_nil) rfl rfl rfl (Nat.le_of_ble_eq_true rfl) (Nat.le_of_ble_eq_true rfl) ?_
        simp (implicitDefEqProofs := false) only [bX10_lineRead_124, bX10_lineRead_138, zRun_cons, zRun_nil, zLk, zSto, zIns, zFil, zf0, zf1, zf2, zf3, List.filter_cons, List.filter_nil, Nat.reduceAdd, Nat.reduceEqDiff, Nat.reduceLT, Nat.reduceLeDiff, Nat.reduceBEq, Nat.reduceBNe, reduceIte, if_true, if_false, Bool.false_and, Bool.true_and, Bool.and_true, Bool.and_false, Bool.not_false, Bool.not_true, Bool.false_eq_true, beq_self_eq_true, BEq.rfl, zCat1, zCat2, zCat3, zKdI, zKdL, zKdR, true_and, and_true, zSI, zSL, zSR, zu_at, and_self, and_false, false_and, lv_args, zKdZ, zKdO, zB01, zB11, Option.toList_none, Option.toList_some, List.nil_append, List.cons_append, true_or, or_true, zRow_rd, zu_rd, zo_aload_n, zo_getfield, zo_iconst, zo_icmp_ne, zi_4, zi_2, zKd_10_22, sh_87, zcl_4, zcl_2, zKn_s, zKn_0, zFind, zTq_7, zTq_8, zTq_9, zTq_10, zTq_o, zTq_k, zTq_u, zTq_uk, d0, y4, h5', zN10, zN01, not_true_eq_false, not_false_eq_true, false_implies, true_implies, implies_true, eq_self, nI_1, nI_40, nI_7, vz0, vz1, zb1_e0, zb1_n0]
        refine z_cV0 (M' := mX10_wrong) (R' := rX10_wrong) (i := 87) [.int 2] [] eX10_wrong k10_220 (by decide +kernel : decode cX10_lineRead 134 = .ok (.invokevirtual 220, 3)) (Nat.le_of_ble_eq_true rfl) ⟨Nat.le_of_ble_eq_true rfl, Nat.le_of_ble_eq_true rfl, Nat.le_of_ble_eq_true rfl, Nat.le_of_ble_eq_true rfl, Nat.le_of_ble_eq_true rfl⟩ rfl rfl rfl sh_87 ?_
        refine mo_wrg ?_
        refine zBlkR (M := mX10_lineRead) (nL := 2) (rt := (Option.some .boolean)) (blk := bX10_lineRead_137) (T := []) 0 hX10_lineRead_137 zChks_nil rfl rfl rfl (Nat.le_of_ble_eq_true rfl) (Nat.le_of_ble_eq_true rfl) ?_
        simp (implicitDefEqProofs := false) only [bX10_lineRead_137, zRun_cons, zRun_nil, zLk, zSto, zIns, zFil, zf0, zf1, zf2, zf3, List.filter_cons, List.filter_nil, Nat.reduceAdd, Nat.reduceEqDiff, Nat.reduceLT, Nat.reduceLeDiff, Nat.reduceBEq, Nat.reduceBNe, reduceIte, if_true, if_false, Bool.false_and, Bool.true_and, Bool.and_true, Bool.and_false, Bool.not_false, Bool.not_true, Bool.false_eq_true, beq_self_eq_true, BEq.rfl, zCat1, zCat2, zCat3, zKdI, zKdL, zKdR, true_and, and_true, zSI, zSL, zSR, zu_at, and_self, and_false, false_and, lv_args, zKdZ, zKdO, zB01, zB11, Option.toList_none, Option.toList_some, List.nil_append, List.cons_append, true_or, or_true, zRow_rd, zu_rd, zo_ireturn, zRt, zKn_0, zN10, zN01, not_true_eq_false, not_false_eq_true, false_implies, true_implies, implies_true, eq_self, nI_1, nI_40, nI_7, vz0, vz1, zb1_e0, zb1_n0]
        exact hF _ _ _ _ _ _ (Or.inl hg2) ((zKpt_rfl.u (by unfold SPr; omega)).u (by unfold SPr; omega)) (by simp [zu_at]; rfl) (by simp [zu_at])
      · have h5' : (dNg D = 4) = False := eq_false h5
        rw [if_neg h5] at hg2
        have ht1 := tOk_nx ht
        refine zBlkR (M := mX10_lineRead) (nL := 2) (rt := (Option.some .boolean)) (blk := bX10_lineRead_0) (T := [(17, bX10_lineRead_17), (23, bX10_lineRead_23)]) 1 hX10_lineRead_0 (zChks_cons hX10_lineRead_17 (zChks_cons hX10_lineRead_23 zChks_nil)) rfl rfl rfl (Nat.le_of_ble_eq_true rfl) (Nat.le_of_ble_eq_true rfl) ?_
        simp (implicitDefEqProofs := false) only [bX10_lineRead_0, bX10_lineRead_17, bX10_lineRead_23, zRun_cons, zRun_nil, zLk, zSto, zIns, zFil, zf0, zf1, zf2, zf3, List.filter_cons, List.filter_nil, Nat.reduceAdd, Nat.reduceEqDiff, Nat.reduceLT, Nat.reduceLeDiff, Nat.reduceBEq, Nat.reduceBNe, reduceIte, if_true, if_false, Bool.false_and, Bool.true_and, Bool.and_true, Bool.and_false, Bool.not_false, Bool.not_true, Bool.false_eq_true, beq_self_eq_true, BEq.rfl, zCat1, zCat2, zCat3, zKdI, zKdL, zKdR, true_and, and_true, zSI, zSL, zSR, zu_at, and_self, and_false, false_and, lv_args, zKdZ, zKdO, zB01, zB11, Option.toList_none, Option.toList_some, List.nil_append, List.cons_append, true_or, or_true, zRow_rd, zu_rd, zo_aload_n, zo_getfield, zo_iconst, zo_icmp_ne, zo_bipush, zo_icmp_le, zi_1, zb_12, zKd_10_8, zKd_10_9, sh_87, zcl_1, zcl_12, zKn_s, zKn_0, zFind, zTq_7, zTq_8, zTq_9, zTq_10, zTq_o, zTq_k, zTq_u, zTq_uk, z12, zN10, zN01, not_true_eq_false, not_false_eq_true, false_implies, true_implies, implies_true, eq_self, nI_1, nI_40, nI_7, vz0, vz1, zb1_e0, zb1_n0]
        refine z_tsw (dt := 185) [(0, 92), (1, 185), (2, 100), (3, 108), (4, 116), (5, 185), (6, 185), (7, 185), (8, 185), (9, 185), (10, 185), (11, 124), (12, 177)] (by decide +kernel : decode cX10_lineRead 27 = .ok (.tableswitch 158 0 12 #[65, 158, 73, 81, 89, 158, 158, 158, 158, 158, 158, 97, 150], 65)) (by decide) (by decide) (by decide) (zSw_of (t := 124) (by decide) ?_)
        refine zBlkR (M := mX10_lineRead) (nL := 2) (rt := (Option.some .boolean)) (blk := bX10_lineRead_124) (T := [(138, bX10_lineRead_138)]) 1 hX10_lineRead_124 (zChks_cons hX10_lineRead_138 zChks_nil) rfl rfl rfl (Nat.le_of_ble_eq_true rfl) (Nat.le_of_ble_eq_true rfl) ?_
        simp (implicitDefEqProofs := false) only [bX10_lineRead_124, bX10_lineRead_138, zRun_cons, zRun_nil, zLk, zSto, zIns, zFil, zf0, zf1, zf2, zf3, List.filter_cons, List.filter_nil, Nat.reduceAdd, Nat.reduceEqDiff, Nat.reduceLT, Nat.reduceLeDiff, Nat.reduceBEq, Nat.reduceBNe, reduceIte, if_true, if_false, Bool.false_and, Bool.true_and, Bool.and_true, Bool.and_false, Bool.not_false, Bool.not_true, Bool.false_eq_true, beq_self_eq_true, BEq.rfl, zCat1, zCat2, zCat3, zKdI, zKdL, zKdR, true_and, and_true, zSI, zSL, zSR, zu_at, and_self, and_false, false_and, lv_args, zKdZ, zKdO, zB01, zB11, Option.toList_none, Option.toList_some, List.nil_append, List.cons_append, true_or, or_true, zRow_rd, zu_rd, zo_aload_n, zo_getfield, zo_iconst, zo_icmp_ne, zi_4, zi_2, zKd_10_22, sh_87, zcl_4, zcl_2, zKn_s, zKn_0, zFind, zTq_7, zTq_8, zTq_9, zTq_10, zTq_o, zTq_k, zTq_u, zTq_uk, d0, y4, h5', zN10, zN01, not_true_eq_false, not_false_eq_true, false_implies, true_implies, implies_true, eq_self, nI_1, nI_40, nI_7, vz0, vz1, zb1_e0, zb1_n0]
        refine z_cV0 (M' := mX10_token) (R' := rX10_token) (i := 87) [] [] eX10_token k10_230 (by decide +kernel : decode cX10_lineRead 139 = .ok (.invokevirtual 230, 3)) (Nat.le_of_ble_eq_true rfl) ⟨Nat.le_of_ble_eq_true rfl, Nat.le_of_ble_eq_true rfl, Nat.le_of_ble_eq_true rfl, Nat.le_of_ble_eq_true rfl, Nat.le_of_ble_eq_true rfl⟩ rfl rfl rfl sh_87 ?_
        refine mo_tok hE ht (fun kd1 wh1 hr1 => ?_)
        refine zBlkR (M := mX10_lineRead) (nL := 2) (rt := (Option.some .boolean)) (blk := bX10_lineRead_142) (T := []) 0 hX10_lineRead_142 zChks_nil rfl rfl rfl (Nat.le_of_ble_eq_true rfl) (Nat.le_of_ble_eq_true rfl) ?_
        simp (implicitDefEqProofs := false) only [bX10_lineRead_142, zRun_cons, zRun_nil, zLk, zSto, zIns, zFil, zf0, zf1, zf2, zf3, List.filter_cons, List.filter_nil, Nat.reduceAdd, Nat.reduceEqDiff, Nat.reduceLT, Nat.reduceLeDiff, Nat.reduceBEq, Nat.reduceBNe, reduceIte, if_true, if_false, Bool.false_and, Bool.true_and, Bool.and_true, Bool.and_false, Bool.not_false, Bool.not_true, Bool.false_eq_true, beq_self_eq_true, BEq.rfl, zCat1, zCat2, zCat3, zKdI, zKdL, zKdR, true_and, and_true, zSI, zSL, zSR, zu_at, and_self, and_false, false_and, lv_args, zKdZ, zKdO, zB01, zB11, Option.toList_none, Option.toList_some, List.nil_append, List.cons_append, true_or, or_true, zRow_rd, zu_rd, zo_aload_n, zo_getfield, zo_iconst, zi_4, zKd_10_35, zKd_10_22, sh_87, rf_87_35, sh_101, zcl_4, zvi_4_8, zKn_0, zTq_7, zTq_8, zTq_9, zTq_10, zTq_o, zTq_k, zTq_u, zTq_uk, d0, zN10, zN01, not_true_eq_false, not_false_eq_true, false_implies, true_implies, implies_true, eq_self, nI_1, nI_40, nI_7, vz0, vz1, zb1_e0, zb1_n0]
        have k1 : zKpt SPr J (zu J 101 (4 + dNg D) (tVl (tNx E t))) := zKpt_rfl.u (by unfold SPr; omega)
        have ef : oFnd (fun k => J 101 (4 + k)) (dNg D) (tVl (tNx E t)) = oFnd (dR D 101) (dNg D) (tVl (tNx E t)) := oFnd_congr (fun c hc => hD.2.2.2.2.2.2.1 c hc)
        refine z_cV0 (M' := mX10_newName) (R' := rX10_newName) (i := 87) [.ref 101, .int (nI 4), .int (nI (dNg D))] [] eX10_newName k10_290 (by decide +kernel : decode cX10_lineRead 152 = .ok (.invokevirtual 290, 3)) (Nat.le_of_ble_eq_true rfl) ⟨Nat.le_of_ble_eq_true rfl, Nat.le_of_ble_eq_true rfl, Nat.le_of_ble_eq_true rfl, Nat.le_of_ble_eq_true rfl, Nat.le_of_ble_eq_true rfl⟩ rfl rfl rfl sh_87 ?_
        refine mo_newName (i0 := 101) (fr := 4) (N := 8) sh_101 (by omega) (by omega) (by simp) hE (zEr_k k1 hE) ht1 hr1 (fun c hc => ?_) (fun hk3 hno kd2 wh2 hr2 => ?_)
        · rw [ef] at hc
          refine zBlkR (M := mX10_lineRead) (nL := 2) (rt := (Option.some .boolean)) (blk := bX10_lineRead_155) (T := [(169, bX10_lineRead_169), (170, bX10_lineRead_170), (194, bX10_lineRead_194), (200, bX10_lineRead_200)]) 3 hX10_lineRead_155 (zChks_cons hX10_lineRead_169 (zChks_cons hX10_lineRead_170 (zChks_cons hX10_lineRead_194 (zChks_cons hX10_lineRead_200 zChks_nil)))) rfl rfl rfl (Nat.le_of_ble_eq_true rfl) (Nat.le_of_ble_eq_true rfl) ?_
          simp (implicitDefEqProofs := false) only [bX10_lineRead_155, bX10_lineRead_169, bX10_lineRead_170, bX10_lineRead_194, bX10_lineRead_200, zRun_cons, zRun_nil, zLk, zSto, zIns, zFil, zf0, zf1, zf2, zf3, List.filter_cons, List.filter_nil, Nat.reduceAdd, Nat.reduceEqDiff, Nat.reduceLT, Nat.reduceLeDiff, Nat.reduceBEq, Nat.reduceBNe, reduceIte, if_true, if_false, Bool.false_and, Bool.true_and, Bool.and_true, Bool.and_false, Bool.not_false, Bool.not_true, Bool.false_eq_true, beq_self_eq_true, BEq.rfl, zCat1, zCat2, zCat3, zKdI, zKdL, zKdR, true_and, and_true, zSI, zSL, zSR, zu_at, and_self, and_false, false_and, lv_args, zKdZ, zKdO, zB01, zB11, Option.toList_none, Option.toList_some, List.nil_append, List.cons_append, true_or, or_true, zRow_rd, zu_rd, zo_istore_n, zo_aload_n, zo_dup, zo_getfield, zo_iload_n, zo_if_eq, zo_iconst, zo_goto, zo_iadd, zo_putfield, zo_putfield_2, zo_putfield_3, zo_if_ne, zo_ireturn, zo_bipush, zi_1, zi_0, zb_59, zKd_10_22, zTy_10_22, sh_87, zcl_1, zcl_0, zcl_59, zRt, zPutC, zKn_s, zKn_0, zFind, zTq_7, zTq_8, zTq_9, zTq_10, zTq_o, zTq_k, zTq_u, zTq_uk, d0, zN10, zN01, not_true_eq_false, not_false_eq_true, false_implies, true_implies, implies_true, eq_self, nI_1, nI_40, nI_7, vz0, vz1, zb1_e0, zb1_n0]
          rcases hc with ⟨rfl, h3⟩ | ⟨rfl, h3, hf⟩
          · rw [if_neg h3] at hg2
            exact hF _ _ _ _ _ _ (Or.inl hg2) (((zKpt_rfl.u (by unfold SPr; omega)).u (by unfold SPr; omega)).u (by unfold SPr; omega)) (by simp [zu_at]) (by simp [zu_at])
          · rw [if_pos h3, if_neg hf] at hg2
            exact hF _ _ _ _ _ _ (Or.inl hg2) (((zKpt_rfl.u (by unfold SPr; omega)).u (by unfold SPr; omega)).u (by unfold SPr; omega)) (by simp [zu_at]) (by simp [zu_at])
        · rw [ef] at hno
          rw [if_pos hk3, if_pos hno] at hg2
          refine zBlkR (M := mX10_lineRead) (nL := 2) (rt := (Option.some .boolean)) (blk := bX10_lineRead_155) (T := [(169, bX10_lineRead_169), (170, bX10_lineRead_170), (194, bX10_lineRead_194), (200, bX10_lineRead_200)]) 3 hX10_lineRead_155 (zChks_cons hX10_lineRead_169 (zChks_cons hX10_lineRead_170 (zChks_cons hX10_lineRead_194 (zChks_cons hX10_lineRead_200 zChks_nil)))) rfl rfl rfl (Nat.le_of_ble_eq_true rfl) (Nat.le_of_ble_eq_true rfl) ?_
          simp (implicitDefEqProofs := false) only [bX10_lineRead_155, bX10_lineRead_169, bX10_lineRead_170, bX10_lineRead_194, bX10_lineRead_200, zRun_cons, zRun_nil, zLk, zSto, zIns, zFil, zf0, zf1, zf2, zf3, List.filter_cons, List.filter_nil, Nat.reduceAdd, Nat.reduceEqDiff, Nat.reduceLT, Nat.reduceLeDiff, Nat.reduceBEq, Nat.reduceBNe, reduceIte, if_true, if_false, Bool.false_and, Bool.true_and, Bool.and_true, Bool.and_false, Bool.not_false, Bool.not_true, Bool.false_eq_true, beq_self_eq_true, BEq.rfl, zCat1, zCat2, zCat3, zKdI, zKdL, zKdR, true_and, and_true, zSI, zSL, zSR, zu_at, and_self, and_false, false_and, lv_args, zKdZ, zKdO, zB01, zB11, Option.toList_none, Option.toList_some, List.nil_append, List.cons_append, true_or, or_true, zRow_rd, zu_rd, zo_istore_n, zo_aload_n, zo_dup, zo_getfield, zo_iload_n, zo_if_eq, zo_iconst, zo_goto, zo_iadd, zo_putfield, zo_putfield_2, zo_putfield_3, zo_if_ne, zo_ireturn, zo_bipush, zi_1, zi_0, zb_59, zKd_10_22, zTy_10_22, sh_87, zcl_1, zcl_0, zcl_59, zRt, zPutC, zKn_s, zKn_0, zFind, zTq_7, zTq_8, zTq_9, zTq_10, zTq_o, zTq_k, zTq_u, zTq_uk, d0, nI_1, zN10, zN01, not_true_eq_false, not_false_eq_true, false_implies, true_implies, implies_true, eq_self, nI_1, nI_40, nI_7, vz0, vz1, zb1_e0, zb1_n0]
          refine fin _ _ _ _ _ hg2 (k1.u (by unfold SPr; omega)) (zDr_sign hD ((zKpt_rfl.u (by omega)).u (by omega)) (by simp [zu_at]) (by simp [zu_at])) hr2
    by_cases c40 : t.2.2.1 = 40
    · rw [if_neg c34, if_neg c36, if_neg c37, if_neg c38, if_neg c39, if_pos c40] at hg
      rw [show rWh t.2.2.1 = 12 by rw [c40]; rfl] at z12 ⊢
      refine zBlkR (M := mX10_lineRead) (nL := 2) (rt := (Option.some .boolean)) (blk := bX10_lineRead_0) (T := [(17, bX10_lineRead_17), (23, bX10_lineRead_23)]) 1 hX10_lineRead_0 (zChks_cons hX10_lineRead_17 (zChks_cons hX10_lineRead_23 zChks_nil)) rfl rfl rfl (Nat.le_of_ble_eq_true rfl) (Nat.le_of_ble_eq_true rfl) ?_
      simp (implicitDefEqProofs := false) only [bX10_lineRead_0, bX10_lineRead_17, bX10_lineRead_23, zRun_cons, zRun_nil, zLk, zSto, zIns, zFil, zf0, zf1, zf2, zf3, List.filter_cons, List.filter_nil, Nat.reduceAdd, Nat.reduceEqDiff, Nat.reduceLT, Nat.reduceLeDiff, Nat.reduceBEq, Nat.reduceBNe, reduceIte, if_true, if_false, Bool.false_and, Bool.true_and, Bool.and_true, Bool.and_false, Bool.not_false, Bool.not_true, Bool.false_eq_true, beq_self_eq_true, BEq.rfl, zCat1, zCat2, zCat3, zKdI, zKdL, zKdR, true_and, and_true, zSI, zSL, zSR, zu_at, and_self, and_false, false_and, lv_args, zKdZ, zKdO, zB01, zB11, Option.toList_none, Option.toList_some, List.nil_append, List.cons_append, true_or, or_true, zRow_rd, zu_rd, zo_aload_n, zo_getfield, zo_iconst, zo_icmp_ne, zo_bipush, zo_icmp_le, zi_1, zb_12, zKd_10_8, zKd_10_9, sh_87, zcl_1, zcl_12, zKn_s, zKn_0, zFind, zTq_7, zTq_8, zTq_9, zTq_10, zTq_o, zTq_k, zTq_u, zTq_uk, z12, zN10, zN01, not_true_eq_false, not_false_eq_true, false_implies, true_implies, implies_true, eq_self, nI_1, nI_40, nI_7, vz0, vz1, zb1_e0, zb1_n0]
      refine z_tsw (dt := 185) [(0, 92), (1, 185), (2, 100), (3, 108), (4, 116), (5, 185), (6, 185), (7, 185), (8, 185), (9, 185), (10, 185), (11, 124), (12, 177)] (by decide +kernel : decode cX10_lineRead 27 = .ok (.tableswitch 158 0 12 #[65, 158, 73, 81, 89, 158, 158, 158, 158, 158, 158, 97, 150], 65)) (by decide) (by decide) (by decide) (zSw_of (t := 177) (by decide) ?_)
      refine zBlkR (M := mX10_lineRead) (nL := 2) (rt := (Option.some .boolean)) (blk := bX10_lineRead_177) (T := []) 0 hX10_lineRead_177 zChks_nil rfl rfl rfl (Nat.le_of_ble_eq_true rfl) (Nat.le_of_ble_eq_true rfl) ?_
      simp (implicitDefEqProofs := false) only [bX10_lineRead_177, zRun_cons, zRun_nil, zLk, zSto, zIns, zFil, zf0, zf1, zf2, zf3, List.filter_cons, List.filter_nil, Nat.reduceAdd, Nat.reduceEqDiff, Nat.reduceLT, Nat.reduceLeDiff, Nat.reduceBEq, Nat.reduceBNe, reduceIte, if_true, if_false, Bool.false_and, Bool.true_and, Bool.and_true, Bool.and_false, Bool.not_false, Bool.not_true, Bool.false_eq_true, beq_self_eq_true, BEq.rfl, zCat1, zCat2, zCat3, zKdI, zKdL, zKdR, true_and, and_true, zSI, zSL, zSR, zu_at, and_self, and_false, false_and, lv_args, zKdZ, zKdO, zB01, zB11, Option.toList_none, Option.toList_some, List.nil_append, List.cons_append, true_or, or_true, zRow_rd, zu_rd, zo_aload_n, zKn_0, zN10, zN01, not_true_eq_false, not_false_eq_true, false_implies, true_implies, implies_true, eq_self, nI_1, nI_40, nI_7, vz0, vz1, zb1_e0, zb1_n0]
      refine z_cV0 (M' := mX10_lawLine) (R' := rX10_lawLine) (i := 87) [] [] eX10_lawLine k10_313 (by decide +kernel : decode cX10_lineRead 178 = .ok (.invokevirtual 313, 3)) (Nat.le_of_ble_eq_true rfl) ⟨Nat.le_of_ble_eq_true rfl, Nat.le_of_ble_eq_true rfl, Nat.le_of_ble_eq_true rfl, Nat.le_of_ble_eq_true rfl, Nat.le_of_ble_eq_true rfl⟩ rfl rfl rfl sh_87 ?_
      refine mo_lawLine hM hE ht (by rw [show nI 12 = nI (rWh t.2.2.1) by rw [c40]; rfl]; exact hr) hD hO (fun c a J' t' kd' wh' h0 h1 h2 h3 => ?_) (fun t' D' J' kd' wh' h0 h1 h2 h3 => ?_)
      · refine zBlkR (M := mX10_lineRead) (nL := 2) (rt := (Option.some .boolean)) (blk := bX10_lineRead_181) (T := [(194, bX10_lineRead_194), (200, bX10_lineRead_200)]) 2 hX10_lineRead_181 (zChks_cons hX10_lineRead_194 (zChks_cons hX10_lineRead_200 zChks_nil)) rfl rfl rfl (Nat.le_of_ble_eq_true rfl) (Nat.le_of_ble_eq_true rfl) ?_
        simp (implicitDefEqProofs := false) only [bX10_lineRead_181, bX10_lineRead_194, bX10_lineRead_200, zRun_cons, zRun_nil, zLk, zSto, zIns, zFil, zf0, zf1, zf2, zf3, List.filter_cons, List.filter_nil, Nat.reduceAdd, Nat.reduceEqDiff, Nat.reduceLT, Nat.reduceLeDiff, Nat.reduceBEq, Nat.reduceBNe, reduceIte, if_true, if_false, Bool.false_and, Bool.true_and, Bool.and_true, Bool.and_false, Bool.not_false, Bool.not_true, Bool.false_eq_true, beq_self_eq_true, BEq.rfl, zCat1, zCat2, zCat3, zKdI, zKdL, zKdR, true_and, and_true, zSI, zSL, zSR, zu_at, and_self, and_false, false_and, lv_args, zKdZ, zKdO, zB01, zB11, Option.toList_none, Option.toList_some, List.nil_append, List.cons_append, true_or, or_true, zRow_rd, zu_rd, zo_istore_n, zo_goto, zo_iload_n, zo_if_ne, zo_iconst, zo_ireturn, zo_aload_n, zo_bipush, zi_0, zb_59, zcl_0, zcl_59, zRt, zKn_s, zKn_0, zFind, zN10, zN01, not_true_eq_false, not_false_eq_true, false_implies, true_implies, implies_true, eq_self, nI_1, nI_40, nI_7, vz0, vz1, zb1_e0, zb1_n0]
        exact hF c a J' t' kd' wh' (Or.inl (hg.trans h0)) h1 h2 h3
      · refine zBlkR (M := mX10_lineRead) (nL := 2) (rt := (Option.some .boolean)) (blk := bX10_lineRead_181) (T := [(194, bX10_lineRead_194), (200, bX10_lineRead_200)]) 2 hX10_lineRead_181 (zChks_cons hX10_lineRead_194 (zChks_cons hX10_lineRead_200 zChks_nil)) rfl rfl rfl (Nat.le_of_ble_eq_true rfl) (Nat.le_of_ble_eq_true rfl) ?_
        simp (implicitDefEqProofs := false) only [bX10_lineRead_181, bX10_lineRead_194, bX10_lineRead_200, zRun_cons, zRun_nil, zLk, zSto, zIns, zFil, zf0, zf1, zf2, zf3, List.filter_cons, List.filter_nil, Nat.reduceAdd, Nat.reduceEqDiff, Nat.reduceLT, Nat.reduceLeDiff, Nat.reduceBEq, Nat.reduceBNe, reduceIte, if_true, if_false, Bool.false_and, Bool.true_and, Bool.and_true, Bool.and_false, Bool.not_false, Bool.not_true, Bool.false_eq_true, beq_self_eq_true, BEq.rfl, zCat1, zCat2, zCat3, zKdI, zKdL, zKdR, true_and, and_true, zSI, zSL, zSR, zu_at, and_self, and_false, false_and, lv_args, zKdZ, zKdO, zB01, zB11, Option.toList_none, Option.toList_some, List.nil_append, List.cons_append, true_or, or_true, zRow_rd, zu_rd, zo_istore_n, zo_goto, zo_iload_n, zo_if_ne, zo_iconst, zo_ireturn, zo_aload_n, zo_bipush, zi_0, zb_59, zcl_0, zcl_59, zRt, zKn_s, zKn_0, zFind, zN10, zN01, not_true_eq_false, not_false_eq_true, false_implies, true_implies, implies_true, eq_self, nI_1, nI_40, nI_7, vz0, vz1, zb1_e0, zb1_n0]
        exact fin t' D' J' kd' wh' (hg.trans h0) h1 h2 h3
    have c2733 : 27 ≤ t.2.2.1 ∧ t.2.2.1 ≤ 33 := by omega
    rw [if_neg c34, if_neg c36, if_neg c37, if_neg c38, if_neg c39, if_neg c40, if_pos c2733] at hg
    obtain ⟨j, hj⟩ : ∃ j, t.2.2.1 = 27 + j := ⟨t.2.2.1 - 27, by omega⟩
    have hj7 : j < 7 := by omega
    have hgs : gLine E D t = gSet E D j t := by rw [hg, show tKd t - 27 = j by show t.2.2.1 - 27 = j; omega]
    have ew2 : rWh t.2.2.1 = sIx j := by rw [hj]; exact (tLn1 j hj7).1
    have hne := sIx_ne j hj7
    rw [ew2] at z12 hr ⊢
    refine zBlkR (M := mX10_lineRead) (nL := 2) (rt := (Option.some .boolean)) (blk := bX10_lineRead_0) (T := [(17, bX10_lineRead_17), (23, bX10_lineRead_23)]) 1 hX10_lineRead_0 (zChks_cons hX10_lineRead_17 (zChks_cons hX10_lineRead_23 zChks_nil)) rfl rfl rfl (Nat.le_of_ble_eq_true rfl) (Nat.le_of_ble_eq_true rfl) ?_
    simp (implicitDefEqProofs := false) only [bX10_lineRead_0, bX10_lineRead_17, bX10_lineRead_23, zRun_cons, zRun_nil, zLk, zSto, zIns, zFil, zf0, zf1, zf2, zf3, List.filter_cons, List.filter_nil, Nat.reduceAdd, Nat.reduceEqDiff, Nat.reduceLT, Nat.reduceLeDiff, Nat.reduceBEq, Nat.reduceBNe, reduceIte, if_true, if_false, Bool.false_and, Bool.true_and, Bool.and_true, Bool.and_false, Bool.not_false, Bool.not_true, Bool.false_eq_true, beq_self_eq_true, BEq.rfl, zCat1, zCat2, zCat3, zKdI, zKdL, zKdR, true_and, and_true, zSI, zSL, zSR, zu_at, and_self, and_false, false_and, lv_args, zKdZ, zKdO, zB01, zB11, Option.toList_none, Option.toList_some, List.nil_append, List.cons_append, true_or, or_true, zRow_rd, zu_rd, zo_aload_n, zo_getfield, zo_iconst, zo_icmp_ne, zo_bipush, zo_icmp_le, zi_1, zb_12, zKd_10_8, zKd_10_9, sh_87, zcl_1, zcl_12, zKn_s, zKn_0, zFind, zTq_7, zTq_8, zTq_9, zTq_10, zTq_o, zTq_k, zTq_u, zTq_uk, z12, zN10, zN01, not_true_eq_false, not_false_eq_true, false_implies, true_implies, implies_true, eq_self, nI_1, nI_40, nI_7, vz0, vz1, zb1_e0, zb1_n0]
    have hsw : ∀ c, c < 13 → sIx j ≠ c → ¬ nI (sIx j) = nI c := fun c hc h z => h ((nI_eq (by omega) (by omega)).mp z)
    have go185 : zX w mX10_lineRead rX10_lineRead Q 0 0 185 [(0, Value.ref 87)] [] (SH, zTq J t 1 (nI (sIx j)), L, RF p s r) := by
      refine zBlkR (M := mX10_lineRead) (nL := 2) (rt := (Option.some .boolean)) (blk := bX10_lineRead_185) (T := []) 0 hX10_lineRead_185 zChks_nil rfl rfl rfl (Nat.le_of_ble_eq_true rfl) (Nat.le_of_ble_eq_true rfl) ?_
      simp (implicitDefEqProofs := false) only [bX10_lineRead_185, zRun_cons, zRun_nil, zLk, zSto, zIns, zFil, zf0, zf1, zf2, zf3, List.filter_cons, List.filter_nil, Nat.reduceAdd, Nat.reduceEqDiff, Nat.reduceLT, Nat.reduceLeDiff, Nat.reduceBEq, Nat.reduceBNe, reduceIte, if_true, if_false, Bool.false_and, Bool.true_and, Bool.and_true, Bool.and_false, Bool.not_false, Bool.not_true, Bool.false_eq_true, beq_self_eq_true, BEq.rfl, zCat1, zCat2, zCat3, zKdI, zKdL, zKdR, true_and, and_true, zSI, zSL, zSR, zu_at, and_self, and_false, false_and, lv_args, zKdZ, zKdO, zB01, zB11, Option.toList_none, Option.toList_some, List.nil_append, List.cons_append, true_or, or_true, zRow_rd, zu_rd, zo_aload_n, zo_getfield, zKd_10_9, sh_87, zKn_0, zTq_7, zTq_8, zTq_9, zTq_10, zTq_o, zTq_k, zTq_u, zTq_uk, zN10, zN01, not_true_eq_false, not_false_eq_true, false_implies, true_implies, implies_true, eq_self, nI_1, nI_40, nI_7, vz0, vz1, zb1_e0, zb1_n0]
      refine z_cV0 (M' := mX10_onceLine) (R' := rX10_onceLine) (i := 87) [.int (nI (sIx j))] [] eX10_onceLine k10_316 (by decide +kernel : decode cX10_lineRead 190 = .ok (.invokevirtual 316, 3)) (Nat.le_of_ble_eq_true rfl) ⟨Nat.le_of_ble_eq_true rfl, Nat.le_of_ble_eq_true rfl, Nat.le_of_ble_eq_true rfl, Nat.le_of_ble_eq_true rfl, Nat.le_of_ble_eq_true rfl⟩ rfl rfl rfl sh_87 ?_
      refine mo_onceLine hj7 hE ht hr hD (fun c a J' t' kd' wh' h0 h1 h2 h3 => ?_) (fun t' D' J' kd' wh' h0 h1 h2 h3 => ?_)
      · refine zBlkR (M := mX10_lineRead) (nL := 2) (rt := (Option.some .boolean)) (blk := bX10_lineRead_193) (T := [(200, bX10_lineRead_200)]) 1 hX10_lineRead_193 (zChks_cons hX10_lineRead_200 zChks_nil) rfl rfl rfl (Nat.le_of_ble_eq_true rfl) (Nat.le_of_ble_eq_true rfl) ?_
        simp (implicitDefEqProofs := false) only [bX10_lineRead_193, bX10_lineRead_200, zRun_cons, zRun_nil, zLk, zSto, zIns, zFil, zf0, zf1, zf2, zf3, List.filter_cons, List.filter_nil, Nat.reduceAdd, Nat.reduceEqDiff, Nat.reduceLT, Nat.reduceLeDiff, Nat.reduceBEq, Nat.reduceBNe, reduceIte, if_true, if_false, Bool.false_and, Bool.true_and, Bool.and_true, Bool.and_false, Bool.not_false, Bool.not_true, Bool.false_eq_true, beq_self_eq_true, BEq.rfl, zCat1, zCat2, zCat3, zKdI, zKdL, zKdR, true_and, and_true, zSI, zSL, zSR, zu_at, and_self, and_false, false_and, lv_args, zKdZ, zKdO, zB01, zB11, Option.toList_none, Option.toList_some, List.nil_append, List.cons_append, true_or, or_true, zRow_rd, zu_rd, zo_istore_n, zo_iload_n, zo_if_ne, zo_iconst, zo_ireturn, zo_aload_n, zo_bipush, zi_0, zb_59, zcl_0, zcl_59, zRt, zKn_s, zKn_0, zFind, zN10, zN01, not_true_eq_false, not_false_eq_true, false_implies, true_implies, implies_true, eq_self, nI_1, nI_40, nI_7, vz0, vz1, zb1_e0, zb1_n0]
        exact hF c a J' t' kd' wh' (Or.inl (hgs.trans h0)) h1 h2 h3
      · refine zBlkR (M := mX10_lineRead) (nL := 2) (rt := (Option.some .boolean)) (blk := bX10_lineRead_193) (T := [(200, bX10_lineRead_200)]) 1 hX10_lineRead_193 (zChks_cons hX10_lineRead_200 zChks_nil) rfl rfl rfl (Nat.le_of_ble_eq_true rfl) (Nat.le_of_ble_eq_true rfl) ?_
        simp (implicitDefEqProofs := false) only [bX10_lineRead_193, bX10_lineRead_200, zRun_cons, zRun_nil, zLk, zSto, zIns, zFil, zf0, zf1, zf2, zf3, List.filter_cons, List.filter_nil, Nat.reduceAdd, Nat.reduceEqDiff, Nat.reduceLT, Nat.reduceLeDiff, Nat.reduceBEq, Nat.reduceBNe, reduceIte, if_true, if_false, Bool.false_and, Bool.true_and, Bool.and_true, Bool.and_false, Bool.not_false, Bool.not_true, Bool.false_eq_true, beq_self_eq_true, BEq.rfl, zCat1, zCat2, zCat3, zKdI, zKdL, zKdR, true_and, and_true, zSI, zSL, zSR, zu_at, and_self, and_false, false_and, lv_args, zKdZ, zKdO, zB01, zB11, Option.toList_none, Option.toList_some, List.nil_append, List.cons_append, true_or, or_true, zRow_rd, zu_rd, zo_istore_n, zo_iload_n, zo_if_ne, zo_iconst, zo_ireturn, zo_aload_n, zo_bipush, zi_0, zb_59, zcl_0, zcl_59, zRt, zKn_s, zKn_0, zFind, zN10, zN01, not_true_eq_false, not_false_eq_true, false_implies, true_implies, implies_true, eq_self, nI_1, nI_40, nI_7, vz0, vz1, zb1_e0, zb1_n0]
        exact fin t' D' J' kd' wh' (hgs.trans h0) h1 h2 h3
    refine z_tsw (dt := 185) [(0, 92), (1, 185), (2, 100), (3, 108), (4, 116), (5, 185), (6, 185), (7, 185), (8, 185), (9, 185), (10, 185), (11, 124), (12, 177)] (by decide +kernel : decode cX10_lineRead 27 = .ok (.tableswitch 158 0 12 #[65, 158, 73, 81, 89, 158, 158, 158, 158, 158, 158, 97, 150], 65)) (by decide) (by decide) (by decide) ?_
    simp only [zSw_cons, zSw_nil]
    exact ⟨fun z => absurd z (hsw 0 (by omega) hne.1), fun _ => ⟨fun _ => go185, fun _ => ⟨fun z => absurd z (hsw 2 (by omega) hne.2.1), fun _ => ⟨fun z => absurd z (hsw 3 (by omega) hne.2.2.1), fun _ => ⟨fun z => absurd z (hsw 4 (by omega) hne.2.2.2.1), fun _ => ⟨fun _ => go185, fun _ => ⟨fun _ => go185, fun _ => ⟨fun _ => go185, fun _ => ⟨fun _ => go185, fun _ => ⟨fun _ => go185, fun _ => ⟨fun _ => go185, fun _ => ⟨fun z => absurd z (hsw 11 (by omega) hne.2.2.2.2.1), fun _ => ⟨fun z => absurd z (hsw 12 (by omega) hne.2.2.2.2.2.1), fun _ => go185⟩⟩⟩⟩⟩⟩⟩⟩⟩⟩⟩⟩⟩
  · rw [if_neg (by show ¬ t.2.2.1 = 34; omega), if_neg (by show ¬ t.2.2.1 = 36; omega), if_neg (by show ¬ t.2.2.1 = 37; omega), if_neg (by show ¬ t.2.2.1 = 38; omega), if_neg (by show ¬ t.2.2.1 = 39; omega), if_neg (by show ¬ t.2.2.1 = 40; omega), if_neg (by show ¬ (27 ≤ t.2.2.1 ∧ t.2.2.1 ≤ 33); omega)] at hg
    clear fin
    have bad : zX w mX10_lineRead rX10_lineRead Q 0 0 19 [(0, Value.ref 87)] [Value.int 1, Value.ref 87] (SH, zTq J t kd wh, L, RF p s r) := by
      refine z_cV0 (M' := mX10_wrong) (R' := rX10_wrong) (i := 87) [.int 1] [] eX10_wrong k10_220 (by decide +kernel : decode cX10_lineRead 19 = .ok (.invokevirtual 220, 3)) (Nat.le_of_ble_eq_true rfl) ⟨Nat.le_of_ble_eq_true rfl, Nat.le_of_ble_eq_true rfl, Nat.le_of_ble_eq_true rfl, Nat.le_of_ble_eq_true rfl, Nat.le_of_ble_eq_true rfl⟩ rfl rfl rfl sh_87 ?_
      refine mo_wrg ?_
      refine zBlkR (M := mX10_lineRead) (nL := 2) (rt := (Option.some .boolean)) (blk := bX10_lineRead_22) (T := []) 0 hX10_lineRead_22 zChks_nil rfl rfl rfl (Nat.le_of_ble_eq_true rfl) (Nat.le_of_ble_eq_true rfl) ?_
      simp (implicitDefEqProofs := false) only [bX10_lineRead_22, zRun_cons, zRun_nil, zLk, zSto, zIns, zFil, zf0, zf1, zf2, zf3, List.filter_cons, List.filter_nil, Nat.reduceAdd, Nat.reduceEqDiff, Nat.reduceLT, Nat.reduceLeDiff, Nat.reduceBEq, Nat.reduceBNe, reduceIte, if_true, if_false, Bool.false_and, Bool.true_and, Bool.and_true, Bool.and_false, Bool.not_false, Bool.not_true, Bool.false_eq_true, beq_self_eq_true, BEq.rfl, zCat1, zCat2, zCat3, zKdI, zKdL, zKdR, true_and, and_true, zSI, zSL, zSR, zu_at, and_self, and_false, false_and, lv_args, zKdZ, zKdO, zB01, zB11, Option.toList_none, Option.toList_some, List.nil_append, List.cons_append, true_or, or_true, zRow_rd, zu_rd, zo_ireturn, zRt, zKn_0, zN10, zN01, not_true_eq_false, not_false_eq_true, false_implies, true_implies, implies_true, eq_self, nI_1, nI_40, nI_7, vz0, vz1, zb1_e0, zb1_n0]
      exact hF _ _ _ _ _ _ (Or.inl hg) ((zKpt_rfl.u (by unfold SPr; omega)).u (by unfold SPr; omega)) (by simp [zu_at]; rfl) (by simp [zu_at])
    by_cases g1 : kd = 1
    · have g1' : (kd = 1) = True := eq_true g1
      have hrk : rKd t.2.2.1 = 1 := by
        obtain ⟨hk, h0 | ⟨q1, -, -, -⟩⟩ := id hr
        · rw [g1] at h0; exact absurd h0.2.1 (by decide)
        · have h7 : rKd t.2.2.1 < 7 := rKd_lt _
          rw [g1] at q1
          exact ((nI_eq (a := 1) (b := rKd t.2.2.1) (by omega) (by omega)).mp q1).symm
      have hwh := (tRel_w hr hrk).2
      have hwl := rWh_lt _ hkd
      have h12 : ¬ rWh t.2.2.1 ≤ 12 := fun z => hl ((tLn0 _ hkd).mp ⟨hrk, z⟩)
      have z12 : (wh ≤ 12) = False := eq_false (by rw [hwh, show (12 : Int32) = nI 12 from rfl, zle_nat (by omega) (by omega)]; exact h12)
      refine zBlkR (M := mX10_lineRead) (nL := 2) (rt := (Option.some .boolean)) (blk := bX10_lineRead_0) (T := [(17, bX10_lineRead_17), (23, bX10_lineRead_23)]) 1 hX10_lineRead_0 (zChks_cons hX10_lineRead_17 (zChks_cons hX10_lineRead_23 zChks_nil)) rfl rfl rfl (Nat.le_of_ble_eq_true rfl) (Nat.le_of_ble_eq_true rfl) ?_
      simp (implicitDefEqProofs := false) only [bX10_lineRead_0, bX10_lineRead_17, bX10_lineRead_23, zRun_cons, zRun_nil, zLk, zSto, zIns, zFil, zf0, zf1, zf2, zf3, List.filter_cons, List.filter_nil, Nat.reduceAdd, Nat.reduceEqDiff, Nat.reduceLT, Nat.reduceLeDiff, Nat.reduceBEq, Nat.reduceBNe, reduceIte, if_true, if_false, Bool.false_and, Bool.true_and, Bool.and_true, Bool.and_false, Bool.not_false, Bool.not_true, Bool.false_eq_true, beq_self_eq_true, BEq.rfl, zCat1, zCat2, zCat3, zKdI, zKdL, zKdR, true_and, and_true, zSI, zSL, zSR, zu_at, and_self, and_false, false_and, lv_args, zKdZ, zKdO, zB01, zB11, Option.toList_none, Option.toList_some, List.nil_append, List.cons_append, true_or, or_true, zRow_rd, zu_rd, zo_aload_n, zo_getfield, zo_iconst, zo_icmp_ne, zo_bipush, zo_icmp_le, zi_1, zb_12, zKd_10_8, zKd_10_9, sh_87, zcl_1, zcl_12, zKn_s, zKn_0, zFind, zTq_7, zTq_8, zTq_9, zTq_10, zTq_o, zTq_k, zTq_u, zTq_uk, g1', z12, zN10, zN01, not_true_eq_false, not_false_eq_true, false_implies, true_implies, implies_true, eq_self, nI_1, nI_40, nI_7, vz0, vz1, zb1_e0, zb1_n0]
      exact bad
    · have g1' : (kd = 1) = False := eq_false g1
      refine zBlkR (M := mX10_lineRead) (nL := 2) (rt := (Option.some .boolean)) (blk := bX10_lineRead_0) (T := [(17, bX10_lineRead_17), (23, bX10_lineRead_23)]) 1 hX10_lineRead_0 (zChks_cons hX10_lineRead_17 (zChks_cons hX10_lineRead_23 zChks_nil)) rfl rfl rfl (Nat.le_of_ble_eq_true rfl) (Nat.le_of_ble_eq_true rfl) ?_
      simp (implicitDefEqProofs := false) only [bX10_lineRead_0, bX10_lineRead_17, bX10_lineRead_23, zRun_cons, zRun_nil, zLk, zSto, zIns, zFil, zf0, zf1, zf2, zf3, List.filter_cons, List.filter_nil, Nat.reduceAdd, Nat.reduceEqDiff, Nat.reduceLT, Nat.reduceLeDiff, Nat.reduceBEq, Nat.reduceBNe, reduceIte, if_true, if_false, Bool.false_and, Bool.true_and, Bool.and_true, Bool.and_false, Bool.not_false, Bool.not_true, Bool.false_eq_true, beq_self_eq_true, BEq.rfl, zCat1, zCat2, zCat3, zKdI, zKdL, zKdR, true_and, and_true, zSI, zSL, zSR, zu_at, and_self, and_false, false_and, lv_args, zKdZ, zKdO, zB01, zB11, Option.toList_none, Option.toList_some, List.nil_append, List.cons_append, true_or, or_true, zRow_rd, zu_rd, zo_aload_n, zo_getfield, zo_iconst, zo_icmp_ne, zo_bipush, zo_icmp_le, zi_1, zb_12, zKd_10_8, zKd_10_9, sh_87, zcl_1, zcl_12, zKn_s, zKn_0, zFind, zTq_7, zTq_8, zTq_9, zTq_10, zTq_o, zTq_k, zTq_u, zTq_uk, g1', zN10, zN01, not_true_eq_false, not_false_eq_true, false_implies, true_implies, implies_true, eq_self, nI_1, nI_40, nI_7, vz0, vz1, zb1_e0, zb1_n0]
      exact bad
end ZN98zk
end
