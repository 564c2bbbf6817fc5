/-! ===== TEXT: the class reads a text ===== -/
/-- a draft without lines -/
def dD0 : oDf := (fun i k => if i = 102 then (if k = 5 then 2 else if k = 7 then 10 else if k = 8 then 3 else if k = 9 then 5 else 0) else 0, fun _ => false, fun _ => 0, fun _ => 0, fun _ => false, 0, 0, 0, 0, 0, 0)
/-- what the first n bytes tell -/
def oText (W : Nat → Int32) (T : Nat → Nat) (n : Nat) : oF ⊕ (oDf × Nat) := gAll (W, T, n) 700 dD0 (oTc W T n 0) 0
def dPn (D : oDf) (ch : Nat) : oPn := (dR D, dTold D, dF D, dT D, ch, dNp D, dNc D, dNs D, dNb D, dNg D, dNk D)
/-- what reading changes in the class -/
def SXc (s i k : Nat) : Prop := (i = 1 ∧ 3 ≤ k ∧ k ≤ 7) ∨ (i = 4 ∧ 4 ≤ k) ∨ (5 ≤ i ∧ i ≤ 7) ∨ (s ≤ i ∧ i ≤ s + 15)
section ZN98zj
variable {w : zP} {Q : Option Value → zMem → Prop} {μ : zMem} {I J J' : Nat → Nat → Int32} {L K : Nat → Nat → Int64} {p s : Nat} {r : Option Nat} {a b c i j k n h e m lo hi l F q ch : Nat} {x y v kd wh : Int32} {E : oEn} {t u : oTk} {D : oDf} {W : Nat → Int32} {T : Nat → Nat} {tk kk f : Nat → Int32}
theorem oSkyF_1 (ht : ∀ j, j < n → ∃ q, q < 96 ∧ tk j = nI q) (hk : k < 96) : (oSkyF tk kk (nI k) n).1 = -1 ∨ ∃ q, q ≤ k ∧ (oSkyF tk kk (nI k) n).1 = nI q := by
  induction n with
  | zero => left; rfl
  | succ n ih =>
    by_cases h : nI k < tk n ∨ tk n < (oSkyF tk kk (nI k) n).1
    · rw [oSkyF_s1 h]; exact ih (fun j hj => ht j (by omega))
    · rw [oSkyF_s2 h]
      obtain ⟨q, hq, e⟩ := ht n (by omega)
      right
      refine ⟨q, ?_, e⟩
      rw [e, zlt_nat (by omega) (by omega)] at h
      omega
theorem oSkyD (ht : ∀ j, j < n → (∃ q, q < 96 ∧ tk j = nI q) ∧ ¬ kk j = -1) (hk : k < 96) : (¬ oSkD tk kk n k = -1 → oSkyF tk kk (nI k) n = (nI k, oSkD tk kk n k)) ∧ (oSkD tk kk n k = -1 → ∀ j, j < n → ¬ tk j = nI k) := by
  induction n with
  | zero => exact ⟨fun h => absurd rfl h, fun _ j hj => absurd hj (by omega)⟩
  | succ n ih =>
    have ih := ih (fun j hj => ht j (by omega))
    unfold oSkD
    by_cases h : tk n = nI k
    · rw [if_pos h]
      refine ⟨fun _ => ?_, fun q => absurd q (ht n (by omega)).2⟩
      rw [oSkyF_s2, h]
      rw [h]
      rintro (q | q)
      · exact absurd q (Int32.lt_irrefl)
      · rcases oSkyF_1 (kk := kk) (fun j hj => (ht j (Nat.lt_succ_of_lt hj)).1) hk with g | ⟨r, hr, g⟩
        · rw [g] at q
          exact nI_nn (q := k) (by omega) (Int32.lt_trans q (by decide))
        · rw [g, zlt_nat (by omega) (by omega)] at q; omega
    · rw [if_neg h]
      refine ⟨fun q => ?_, fun q j hj => ?_⟩
      · have e := ih.1 q
        rw [oSkyF_s1, e]
        rw [e]
        obtain ⟨r, hr, g⟩ := (ht n (by omega)).1
        rw [g] at h ⊢
        have : ¬ r = k := fun z => h (by rw [z])
        simp only [zlt_nat (a := k) (b := r) (by omega) (by omega), zlt_nat (a := r) (b := k) (by omega) (by omega)]
        omega
      · by_cases e : j = n
        · subst e; exact h
        · exact ih.2 q j (by omega)
theorem oSkyF_p (ht : ∀ j, j < n → ∃ q, q < 96 ∧ tk j = nI q) (hk : k + 1 < 96) (hn : ∀ j, j < n → ¬ tk j = nI (k + 1)) : oSkyF tk kk (nI (k + 1)) n = oSkyF tk kk (nI k) n := by
  induction n with
  | zero => rfl
  | succ n ih =>
    have ih := ih (fun j hj => ht j (by omega)) (fun j hj => hn j (by omega))
    obtain ⟨r, hr, g⟩ := ht n (by omega)
    have h0 := hn n (by omega)
    have hrk : ¬ r = k + 1 := fun z => h0 (by rw [g, z])
    rw [oSkyF, oSkyF, ih, g]
    have e : (nI (k + 1) < nI r) = (nI k < nI r) := by
      rw [zlt_nat (by omega) (by omega), zlt_nat (by omega) (by omega)]
      exact propext ⟨fun z => by omega, fun z => by omega⟩
    simp only [e]
theorem oSkyF_z (ht : ∀ j, j < n → ∃ q, q < 96 ∧ tk j = nI q) (hn : ∀ j, j < n → ¬ tk j = nI 0) : oSkyF tk kk (nI 0) n = (-1, 0) := by
  induction n with
  | zero => rfl
  | succ n ih =>
    obtain ⟨r, hr, g⟩ := ht n (by omega)
    have h0 := hn n (by omega)
    rw [oSkyF_s1, ih (fun j hj => ht j (by omega)) (fun j hj => hn j (by omega))]
    left
    rw [g, zlt_nat (by omega) (by omega)]
    rcases Nat.eq_zero_or_pos r with z | z
    · exact absurd (by rw [g, z]) h0
    · exact z
/-- skies settled are the skies of the ticks -/
theorem settle_sky (ht : ∀ j, j < n → (∃ q, q < 96 ∧ tk j = nI q) ∧ ¬ kk j = -1) (hf : ∀ k, k < 96 → f k = oSkD tk kk n k) : ∀ k, k < 96 → zSettle f (k + 1) = oSky tk kk (nI k) n false := by
  intro k
  have e : ∀ k, oSky tk kk (nI k) n false = (oSkyF tk kk (nI k) n).2 := fun k => by unfold oSky; simp
  induction k with
  | zero =>
    intro hk
    rw [e, zSettle]
    obtain ⟨h1, h2⟩ := oSkyD (k := 0) ht hk
    rw [hf 0 hk]
    split
    · rename_i g
      rw [oSkyF_z (fun j hj => (ht j hj).1) (h2 g)]; rfl
    · rename_i g
      rw [h1 g]
  | succ k ih =>
    intro hk
    have ih := ih (by omega)
    rw [e] at ih ⊢
    rw [zSettle]
    obtain ⟨h1, h2⟩ := oSkyD (k := k + 1) ht hk
    rw [hf (k + 1) hk]
    split
    · rename_i g
      rw [ih, oSkyF_p (fun j hj => (ht j hj).1) hk (h2 g)]
    · rename_i g
      rw [h1 g]
theorem zRF_48 : zu (RF p s r) 4 8 (some q) = RF p s (some q) := by
  funext i k
  rw [zu_at]
  by_cases h : i = 4 ∧ k = 8
  · obtain ⟨rfl, rfl⟩ := h; rfl
  · rw [if_neg h]
    unfold RF
    split <;> first | rfl | (split <;> first | rfl | (exfalso; exact h ⟨rfl, rfl⟩))
theorem zTs_self (h5 : I 1 5 = nI u.1) (h4 : I 1 4 = nI u.2.1) (h6 : I 1 6 = nI u.2.2.1) (h7 : I 1 7 = u.2.2.2) : zTs I u = I := by
  funext a b
  unfold zTs
  by_cases g : a = 1
  · subst g
    rw [if_pos rfl]
    by_cases q4 : b = 4
    · rw [if_pos q4, q4, h4]
    · rw [if_neg q4]
      by_cases q5 : b = 5
      · rw [if_pos q5, q5, h5]
      · rw [if_neg q5]
        by_cases q6 : b = 6
        · rw [if_pos q6, q6, h6]
        · rw [if_neg q6]
          by_cases q7 : b = 7
          · rw [if_pos q7, q7, h7]
          · rw [if_neg q7]
  · rw [if_neg g]
theorem zTs_kpt : zKpt (fun i k => i = 1 ∧ 4 ≤ k ∧ k ≤ 7) J (zTs J t) := by
  intro i k h
  unfold zTs
  by_cases g : i = 1
  · subst g
    rw [if_pos rfl, if_neg (by omega), if_neg (by omega), if_neg (by omega), if_neg (by omega)]
  · rw [if_neg g]
theorem DOk_0 : DOk dD0 := by
  refine ⟨⟨by decide, by decide, by decide, by decide, by decide, by decide⟩, fun k hk => absurd hk (by show ¬ k < 0; omega), fun k hk => absurd hk (by show ¬ k < 0; omega), fun k hk => absurd hk (by show ¬ k < 0; omega), ?_, (fun h hh q => by cases q)⟩
  have h : ∀ j, j < 7 → ∃ v, v < 11 ∧ sLo j ≤ v ∧ v ≤ sHi j ∧ dR dD0 102 (sIx j) = nI v := by decide
  exact fun j hj => by obtain ⟨v, -, h2⟩ := h j hj; exact ⟨v, h2⟩
theorem zDc_0 (hs : zPc s) : zDc (zu (zu (zu (zu (zu (zRow (zPlan0 I s) 5 (zFill 7 0 (zPlan0 I s 5))) 4 6 0) 4 7 0) 4 9 0) 4 10 0) 4 11 (-1)) s dD0 := by
  have hp : ∀ j, j < 7 → zPlain j = dR dD0 102 (sIx j) := by decide
  rcases hs with rfl | rfl
  · refine ⟨⟨by simp [zPlan0, zRow_at, zu_at]; rfl, by simp [zPlan0, zRow_at, zu_at]; rfl, by simp [zPlan0, zRow_at, zu_at]; rfl, by simp [zPlan0, zRow_at, zu_at]; rfl, by simp [zPlan0, zRow_at, zu_at]; rfl, by simp [zu_at]; rfl, by simp [zu_at]; rfl⟩, fun k hk => absurd hk (by show ¬ k < 0; omega), fun k hk => absurd hk (by show ¬ k < 0; omega), fun k hk => ?_, fun k hk => absurd hk (by show ¬ k < 0; omega), fun j hj => ?_, fun k hk => absurd hk (by show ¬ k < 0; omega), fun k hk => absurd hk (by show ¬ k < 0; omega), fun h hh => ?_, fun j hj => ?_, ⟨by simp [zu_at], by simp [zu_at]⟩⟩
    · simp [zPlan0, zRow_at, zu_at, zFill, hk]; rfl
    · rw [← hp j hj]; simp [zPlan0, zRow_at, zu_at, va_cpy, hj]
    · refine ⟨?_, (fun q => by cases q)⟩
      simp [zPlan0, zRow_at, zu_at, zFill, hh]; intro q; cases q
    · simp [zRow_at, zu_at, zFill, hj]; rfl
  · refine ⟨⟨by simp [zPlan0, zRow_at, zu_at]; rfl, by simp [zPlan0, zRow_at, zu_at]; rfl, by simp [zPlan0, zRow_at, zu_at]; rfl, by simp [zPlan0, zRow_at, zu_at]; rfl, by simp [zPlan0, zRow_at, zu_at]; rfl, by simp [zu_at]; rfl, by simp [zu_at]; rfl⟩, fun k hk => absurd hk (by show ¬ k < 0; omega), fun k hk => absurd hk (by show ¬ k < 0; omega), fun k hk => ?_, fun k hk => absurd hk (by show ¬ k < 0; omega), fun j hj => ?_, fun k hk => absurd hk (by show ¬ k < 0; omega), fun k hk => absurd hk (by show ¬ k < 0; omega), fun h hh => ?_, fun j hj => ?_, ⟨by simp [zu_at], by simp [zu_at]⟩⟩
    · simp [zPlan0, zRow_at, zu_at, zFill, hk]; rfl
    · rw [← hp j hj]; simp [zPlan0, zRow_at, zu_at, va_cpy, hj]
    · refine ⟨?_, (fun q => by cases q)⟩
      simp [zPlan0, zRow_at, zu_at, zFill, hh]; intro q; cases q
    · simp [zRow_at, zu_at, zFill, hj]; rfl
theorem zKpt_row {S : Nat → Nat → Prop} {i0 : Nat} {g : Nat → Int32} (hK : zKpt S I J) (h : ∀ k, S i0 k) : zKpt S I (zRow J i0 g) := by
  intro i k hn
  rw [zRow_at]
  by_cases e : i = i0
  · subst e; exact absurd (h k) hn
  · rw [if_neg e]; exact hK i k hn
/-- the class's plan out of its draft, its skies settled -/
theorem zCls_D (hs : zPc s) (hD : zDc J s D) (hO : DOk D) : zClsP (zRow J (s + 7) (fun b => if b < 96 then zSettle (J (s + 7)) (b + 1) else J (s + 7) b)) s (dPn D ch) := by
  obtain ⟨⟨d0, d5, d9, d14, d16, d46, d47⟩, dp, dc, dsk, dbd, dst, dsg, dcd, dlw, dto, dfl⟩ := hD
  have hr : ∀ j k, ¬ j = 7 → zRow J (s + 7) (fun b => if b < 96 then zSettle (J (s + 7)) (b + 1) else J (s + 7) b) (s + j) k = J (s + j) k := fun j k hj => by rw [zRow_at, if_neg (by omega)]
  have h7 : ∀ k, k < 96 → zRow J (s + 7) (fun b => if b < 96 then zSettle (J (s + 7)) (b + 1) else J (s + 7) b) (s + 7) k = zSettle (J (s + 7)) (k + 1) := fun k hk => by rw [zRow_at, if_pos rfl, if_pos hk]
  unfold zClsP zClsR
  refine ⟨⟨?_, ?_, ?_, ?_, ?_⟩, fun k hk => ?_, fun k hk => ?_, fun k hk => ?_, fun k hk => ?_, ⟨?_, ?_, ?_, ?_, ?_, ?_, ?_⟩, fun k hk => ?_, fun h hh => ?_⟩
  · exact (hr 0 _ (by omega)).trans d0
  · exact (hr 0 _ (by omega)).trans d5
  · exact (hr 0 _ (by omega)).trans d9
  · exact (hr 0 _ (by omega)).trans d14
  · exact (hr 0 _ (by omega)).trans d16
  · simp only [hr 1 _ (by omega), hr 2 _ (by omega), hr 3 _ (by omega), hr 4 _ (by omega)]; exact dp k hk
  · simp only [hr 5 _ (by omega), hr 6 _ (by omega)]; exact dc k hk
  · simp only
    rw [h7 k hk]
    exact settle_sky (fun j hj => by
      obtain ⟨⟨a, b, g1, g2, g3, g4⟩, -⟩ := hO.2.2.2.1 j hj
      exact ⟨⟨a, g1, g3⟩, by rw [g4]; exact fun z => nI_m1 (by omega) z.symm⟩) dsk k hk
  · simp only [hr 8 _ (by omega), hr 9 _ (by omega), hr 10 _ (by omega)]; exact dbd k hk
  · simp only [hr 11 _ (by omega)]; exact dst 0 (by omega)
  · simp only [hr 11 _ (by omega)]; exact dst 1 (by omega)
  · simp only [hr 11 _ (by omega)]; exact dst 2 (by omega)
  · simp only [hr 11 _ (by omega)]; exact dst 3 (by omega)
  · simp only [hr 11 _ (by omega)]; exact dst 4 (by omega)
  · simp only [hr 11 _ (by omega)]; exact dst 5 (by omega)
  · simp only [hr 11 _ (by omega)]; exact dst 6 (by omega)
  · simp only [hr 12 _ (by omega)]; exact dsg k hk
  · simp only [hr 14 _ (by omega), hr 15 _ (by omega), hr 13 _ (by omega)]
    refine ⟨(dlw h hh).1, fun q => ⟨(dlw h hh).2 q, fun i g1 g2 => ?_⟩⟩
    have hb := (hO.2.2.2.2.2 h hh q).2.1
    exact dcd i (Nat.lt_of_lt_of_le g2 hb)
set_option maxRecDepth 20000 in
theorem cl_readAll (hok : zOk w) (hs : zPc s) (h3 : I 3 = W) (h12 : I 1 2 = nI m) (hm : m ≤ 700) (hn : n ≤ m) (ht : ∀ k, k < m → I 2 k = oSb (T k) ∧ T k < 256)
    (hF : ∀ f I', oText W T n = .inl f → zKpt (SXc s) I I' → I' 4 10 = nI f.1 → I' 4 11 = nI f.2 → Q (some (.int 0)) (SH, I', L, RF p s (some s)))
    (hG : ∀ D q I', oText W T n = .inr (D, q) → q ≤ 700 → zKpt (SXc s) I I' → (∀ ch, zClsP I' s (dPn D ch)) → DOk D → I' 4 9 = nI q → I' 4 10 = 0 → I' 4 11 = -1 → Q (some (.int 1)) (SH, I', L, RF p s (some s))) : zXM w mX5_readAll rX5_readAll [.ref 4, .ref s, .int (nI n)] (SH, I, L, RF p s r) Q := by
  unfold zXM
  have s8 : 8 < s := by rcases hs with rfl | rfl <;> omega
  refine zBlkR (M := mX5_readAll) (nL := 4) (rt := (Option.some .boolean)) (blk := bX5_readAll_0) (T := []) 0 hX5_readAll_0 zChks_nil rfl rfl rfl (Nat.le_of_ble_eq_true rfl) (Nat.le_of_ble_eq_true rfl) ?_
  simp (implicitDefEqProofs := false) only [bX5_readAll_0, zRun_cons, zRun_nil, zLk, zSto, zIns, zFil, zf0, zf1, zf2, zf3, List.filter_cons, List.filter_nil, Nat.reduceAdd, Nat.reduceEqDiff, Nat.reduceLT, Nat.reduceLeDiff, Nat.reduceBEq, Nat.reduceBNe, reduceIte, if_true, if_false, Bool.false_and, Bool.true_and, Bool.and_true, Bool.and_false, Bool.not_false, Bool.not_true, Bool.false_eq_true, beq_self_eq_true, BEq.rfl, zCat1, zCat2, zCat3, zKdI, zKdL, zKdR, true_and, and_true, zSI, zSL, zSR, zu_at, and_self, and_false, false_and, lv_args, zKdZ, zKdO, zB01, zB11, Option.toList_none, Option.toList_some, List.nil_append, List.cons_append, true_or, or_true, zRow_rd, zu_rd, zo_aload_n, zo_putfield, zo_putfield_2, zo_putfield_3, zo_getfield, zKd_5_8, zTy_5_8, sh_4, rf_4_8, zPutC, zKn_0, zRF_48, zN10, zN01, not_true_eq_false, not_false_eq_true, false_implies, true_implies, implies_true, eq_self, nI_1, nI_40, nI_7, vz0, vz1, zb1_e0, zb1_n0]
  refine z_cV0 (M' := mX4_clear) (R' := rX4_clear) (i := s) [] [] eX4_clear k5_33 (by decide +kernel : decode cX5_readAll 9 = .ok (.invokevirtual 33, 3)) (Nat.le_of_ble_eq_true rfl) ⟨Nat.le_of_ble_eq_true rfl, Nat.le_of_ble_eq_true rfl, Nat.le_of_ble_eq_true rfl, Nat.le_of_ble_eq_true rfl, Nat.le_of_ble_eq_true rfl⟩ rfl rfl rfl (psh_0 hs) ?_
  refine sp_planClear hok (i := s) hs (fun a _ => rfl) (prf_8 hs) (prf_13 hs) (prf_18 hs) (prf_19 hs) ?_
  refine zBlkR (M := mX5_readAll) (nL := 4) (rt := (Option.some .boolean)) (blk := bX5_readAll_12) (T := []) 0 hX5_readAll_12 zChks_nil rfl rfl rfl (Nat.le_of_ble_eq_true rfl) (Nat.le_of_ble_eq_true rfl) ?_
  simp (implicitDefEqProofs := false) only [bX5_readAll_12, zRun_cons, zRun_nil, zLk, zSto, zIns, zFil, zf0, zf1, zf2, zf3, List.filter_cons, List.filter_nil, Nat.reduceAdd, Nat.reduceEqDiff, Nat.reduceLT, Nat.reduceLeDiff, Nat.reduceBEq, Nat.reduceBNe, reduceIte, if_true, if_false, Bool.false_and, Bool.true_and, Bool.and_true, Bool.and_false, Bool.not_false, Bool.not_true, Bool.false_eq_true, beq_self_eq_true, BEq.rfl, zCat1, zCat2, zCat3, zKdI, zKdL, zKdR, true_and, and_true, zSI, zSL, zSR, zu_at, and_self, and_false, false_and, lv_args, zKdZ, zKdO, zB01, zB11, Option.toList_none, Option.toList_some, List.nil_append, List.cons_append, true_or, or_true, zRow_rd, zu_rd, zo_aload_n, zo_getfield, zo_iconst, zi_0, zKd_5_1, sh_4, rf_4_1, sh_5, zcl_0, zvi_0_7, zKn_0, zN10, zN01, not_true_eq_false, not_false_eq_true, false_implies, true_implies, implies_true, eq_self, nI_1, nI_40, nI_7, vz0, vz1, zb1_e0, zb1_n0]
  refine z_cS0 (M' := mJ7_fill_53178) (R' := rJ7_fill_53178) [.ref 5, .int 0] [] eJ7_fill_53178 k5_38 (by decide +kernel : decode cX5_readAll 17 = .ok (.invokestatic 38, 3)) (Nat.le_of_ble_eq_true rfl) ⟨Nat.le_of_ble_eq_true rfl, Nat.le_of_ble_eq_true rfl, Nat.le_of_ble_eq_true rfl, Nat.le_of_ble_eq_true rfl, Nat.le_of_ble_eq_true rfl⟩ rfl rfl rfl ?_
  refine sp_fill (n := 7) sh_5 (by decide) ?_
  refine zBlkR (M := mX5_readAll) (nL := 4) (rt := (Option.some .boolean)) (blk := bX5_readAll_20) (T := []) 0 hX5_readAll_20 zChks_nil rfl rfl rfl (Nat.le_of_ble_eq_true rfl) (Nat.le_of_ble_eq_true rfl) ?_
  simp (implicitDefEqProofs := false) only [bX5_readAll_20, zRun_cons, zRun_nil, zLk, zSto, zIns, zFil, zf0, zf1, zf2, zf3, List.filter_cons, List.filter_nil, Nat.reduceAdd, Nat.reduceEqDiff, Nat.reduceLT, Nat.reduceLeDiff, Nat.reduceBEq, Nat.reduceBNe, reduceIte, if_true, if_false, Bool.false_and, Bool.true_and, Bool.and_true, Bool.and_false, Bool.not_false, Bool.not_true, Bool.false_eq_true, beq_self_eq_true, BEq.rfl, zCat1, zCat2, zCat3, zKdI, zKdL, zKdR, true_and, and_true, zSI, zSL, zSR, zu_at, and_self, and_false, false_and, lv_args, zKdZ, zKdO, zB01, zB11, Option.toList_none, Option.toList_some, List.nil_append, List.cons_append, true_or, or_true, zRow_rd, zu_rd, zo_aload_n, zo_iconst, zo_putfield, zo_putfield_2, zo_putfield_3, zo_getfield, zo_iload_n, zi_0, zi_m1, zKd_5_6, zTy_5_6, zKd_5_7, zTy_5_7, zKd_5_9, zTy_5_9, zKd_5_10, zTy_5_10, zKd_5_11, zTy_5_11, zKd_5_0, zcl_0, sh_4, rf_4_0, sh_1, zPutC, zKn_0, zN10, zN01, not_true_eq_false, not_false_eq_true, false_implies, true_implies, implies_true, eq_self, nI_1, nI_40, nI_7, vz0, vz1, zb1_e0, zb1_n0]
  generalize hJ1 : zu (zu (zu (zu (zu (zRow (zPlan0 I s) 5 (zFill 7 0 (zPlan0 I s 5))) 4 6 0) 4 7 0) 4 9 0) 4 10 0) 4 11 (-1) = J1
  have hD1 : zDc J1 s dD0 := by rw [← hJ1]; exact zDc_0 hs
  have j9 : J1 4 9 = nI 0 := by rw [← hJ1]; simp [zu_at]; rfl
  have k1 : zKpt (SXc s) I J1 := by
    rw [← hJ1]
    refine (((((zKpt_row ?_ (fun k => by unfold SXc; omega)).u (by unfold SXc; omega)).u (by unfold SXc; omega)).u (by unfold SXc; omega)).u (by unfold SXc; omega)).u (by unfold SXc; omega)
    unfold zPlan0
    exact zKpt_row (zKpt_row (zKpt_row (zKpt_row (((((zKpt_rfl.u (by unfold SXc; omega)).u (by unfold SXc; omega)).u (by unfold SXc; omega)).u (by unfold SXc; omega)).u (by unfold SXc; omega)) (fun k => by unfold SXc; omega)) (fun k => by unfold SXc; omega)) (fun k => by unfold SXc; omega)) (fun k => by unfold SXc; omega)
  have hlo : ∀ i k, i < 4 → ¬ (i = 1 ∧ 3 ≤ k ∧ k ≤ 7) → J1 i k = I i k := fun i k h1 h2 => k1 i k (by unfold SXc; omega)
  refine z_cV0 (M' := mX7_start) (R' := rX7_start) (i := 1) [.int (nI n)] [] eX7_start k5_56 (by decide +kernel : decode cX5_readAll 50 = .ok (.invokevirtual 56, 3)) (Nat.le_of_ble_eq_true rfl) ⟨Nat.le_of_ble_eq_true rfl, Nat.le_of_ble_eq_true rfl, Nat.le_of_ble_eq_true rfl, Nat.le_of_ble_eq_true rfl, Nat.le_of_ble_eq_true rfl⟩ rfl rfl rfl sh_1 ?_
  refine cl_tkStart (W := W) (T := T) (m := m) (by rw [← h3]; funext k; exact hlo 3 k (by omega) (by omega)) (by rw [hlo 1 2 (by omega) (by omega)]; exact h12) hm (by omega) (fun k hk => by rw [hlo 2 k (by omega) (by omega)]; exact ht k hk) (fun I2 k2 g3 g5 g4 g6 g7 => ?_)
  rw [Nat.min_eq_left hn] at g3 g5 g4 g6 g7
  have hn2 : ∀ i k, i ≠ 1 → I2 i k = J1 i k := fun i k h => k2 i k (by unfold STs; omega)
  have hE : zEc I2 (W, T, n) := ⟨g3, by rw [← h3]; funext k; rw [hn2 3 k (by omega)]; exact hlo 3 k (by omega) (by omega), by show n ≤ 700; omega, fun k hk => by rw [hn2 2 k (by omega), hlo 2 k (by omega) (by omega)]; exact ht k (by simp only at hk; omega)⟩
  have hD2 : zDc I2 s dD0 := zDc_k hD1 k2 (fun k => by unfold STs; omega) ⟨by unfold STs; omega, by unfold STs; omega⟩ (fun j k _ _ => by unfold STs; omega) (fun k => by unfold STs; omega) ⟨by unfold STs; omega, by unfold STs; omega⟩
  have ht0 : tOk (W, T, n) (oTc W T n 0) := by
    obtain ⟨a1, a2, a3, a4, a5, a6⟩ := oTc_ok (W := W) (T := T) (e := n) (i := 0) (Nat.zero_le _)
    exact ⟨a1, a2, a5, a6⟩
  have k12 : zKpt (SXc s) I I2 := k1.trans (k2.mono (fun i k h => by unfold STs at h; unfold SXc; omega))
  have mn : ∀ J' : Nat → Nat → Int32, zKpt (SPl s) I2 J' → zKpt (SXc s) I J' := fun J' h => k12.trans (h.mono (fun i k h => by unfold SPl SPs at h; unfold SXc; omega))
  have mt : ∀ (J' : Nat → Nat → Int32) (t' : oTk), zKpt (SXc s) I J' → zKpt (SXc s) I (zTs J' t') := fun J' t' h => h.trans (zTs_kpt.mono (fun i k h => by unfold SXc; omega))
  have key := cl_readAllLoop (w := w) (Q := Q) (L := L) (p := p) (x := nI n) (E := (W, T, n)) hok hs 700 0 (oTc W T n 0) dD0 0 I2 (by omega) (by omega) hE ht0 hD2 DOk_0 (by rw [hn2 4 9 (by omega)]; exact j9) (fun f J' t' h0 h1 h2 h3 => hF f _ h0 (mt J' t' (mn J' h1)) (by rw [zTs_o (by simp)]; exact h2) (by rw [zTs_o (by simp)]; exact h3)) (fun t' D' m' J' h0 h1 h2 h3 h4 h5 => ?_)
  · rw [zTs_self g5 g4 g6 g7] at key
    refine zBlkR (M := mX5_readAll) (nL := 4) (rt := (Option.some .boolean)) (blk := bX5_readAll_53) (T := []) 0 hX5_readAll_53 zChks_nil rfl rfl rfl (Nat.le_of_ble_eq_true rfl) (Nat.le_of_ble_eq_true rfl) ?_
    simp (implicitDefEqProofs := false) only [bX5_readAll_53, zRun_cons, zRun_nil, zLk, zSto, zIns, zFil, zf0, zf1, zf2, zf3, List.filter_cons, List.filter_nil, Nat.reduceAdd, Nat.reduceEqDiff, Nat.reduceLT, Nat.reduceLeDiff, Nat.reduceBEq, Nat.reduceBNe, reduceIte, if_true, if_false, Bool.false_and, Bool.true_and, Bool.and_true, Bool.and_false, Bool.not_false, Bool.not_true, Bool.false_eq_true, beq_self_eq_true, BEq.rfl, zCat1, zCat2, zCat3, zKdI, zKdL, zKdR, true_and, and_true, zSI, zSL, zSR, zu_at, and_self, and_false, false_and, lv_args, zKdZ, zKdO, zB01, zB11, Option.toList_none, Option.toList_some, List.nil_append, List.cons_append, true_or, or_true, zRow_rd, zu_rd, zo_iconst, zo_istore_n, zi_0, zcl_0, zKn_0, zN10, zN01, not_true_eq_false, not_false_eq_true, false_implies, true_implies, implies_true, eq_self, nI_1, nI_40, nI_7, vz0, vz1, zb1_e0, zb1_n0]
    exact key
  · have hr4 : ∀ k, zRow J' (s + 7) (fun b => if b < 96 then zSettle (J' (s + 7)) (b + 1) else J' (s + 7) b) 4 k = J' 4 k := fun k => by rw [zRow_at, if_neg (by omega)]
    refine hG D' m' _ h0 h1 (mt _ t' (zKpt_row (mn J' h2) (fun k => by unfold SXc; omega))) (fun ch => ?_) h4 (by rw [zTs_o (by simp), hr4]; exact h5) (by rw [zTs_o (by simp), hr4]; exact h3.2.2.2.2.2.2.2.2.2.2.1) (by rw [zTs_o (by simp), hr4]; exact h3.2.2.2.2.2.2.2.2.2.2.2)
    refine zClsP_row (fun j => ?_) (zCls_D (ch := ch) hs h3 h4)
    rw [zTs_o (by simp; omega)]
end ZN98zj
