/-! ===== TEXT: a draft of a plan; lines as pure functions; the class's helpers ===== -/
abbrev oF : Type := Nat × Nat
/-- rows, laws told, from, to, sets told, how many places, comes, skies, bands, signs, knots -/
abbrev oDf : Type := (Nat → Nat → Int32) × (Nat → Bool) × (Nat → Nat) × (Nat → Nat) × (Nat → Bool) × Nat × Nat × Nat × Nat × Nat × Nat
abbrev dR (D : oDf) : Nat → Nat → Int32 := D.1
abbrev dTold (D : oDf) : Nat → Bool := D.2.1
abbrev dF (D : oDf) : Nat → Nat := D.2.2.1
abbrev dT (D : oDf) : Nat → Nat := D.2.2.2.1
abbrev dSt (D : oDf) : Nat → Bool := D.2.2.2.2.1
abbrev dNp (D : oDf) : Nat := D.2.2.2.2.2.1
abbrev dNc (D : oDf) : Nat := D.2.2.2.2.2.2.1
abbrev dNs (D : oDf) : Nat := D.2.2.2.2.2.2.2.1
abbrev dNb (D : oDf) : Nat := D.2.2.2.2.2.2.2.2.1
abbrev dNg (D : oDf) : Nat := D.2.2.2.2.2.2.2.2.2.1
abbrev dNk (D : oDf) : Nat := D.2.2.2.2.2.2.2.2.2.2
/-- where the reference keeps the class's sets -/
def sIx (j : Nat) : Nat := ([5, 1, 6, 7, 8, 9, 10] : List Nat).getD j 0
def sLo (j : Nat) : Nat := ([0, 0, 0, 1, 1, 0, 0] : List Nat).getD j 0
def sHi (j : Nat) : Nat := ([99, 40, 99, 40, 9, 99, 99999] : List Nat).getD j 0
/-- the sky that is told for a tick; -1: none -/
def oSkD (tk kd : Nat → Int32) : Nat → Nat → Int32
  | 0, _ => -1
  | n + 1, k => if tk n = nI k then kd n else oSkD tk kd n k
def dPlace (D : oDf) (nm : Int32) (v f : Nat) (td : Int32) : oDf := (zu (zu (zu (zu (dR D) 90 (dNp D) nm) 91 (dNp D) (nI v)) 92 (dNp D) (nI f)) 93 (dNp D) td, dTold D, dF D, dT D, dSt D, dNp D + 1, dNc D, dNs D, dNb D, dNg D, dNk D)
def dCome (D : oDf) (x y : Nat) : oDf := (zu (zu (dR D) 94 (dNc D) (nI x)) 95 (dNc D) (nI y), dTold D, dF D, dT D, dSt D, dNp D, dNc D + 1, dNs D, dNb D, dNg D, dNk D)
def dSky (D : oDf) (x y : Nat) : oDf := (zu (zu (dR D) 96 (dNs D) (nI x)) 97 (dNs D) (nI y), dTold D, dF D, dT D, dSt D, dNp D, dNc D, dNs D + 1, dNb D, dNg D, dNk D)
def dBand (D : oDf) (q x y : Nat) : oDf := (zu (zu (zu (dR D) 98 (dNb D) (nI q)) 99 (dNb D) (nI x)) 100 (dNb D) (nI y), dTold D, dF D, dT D, dSt D, dNp D, dNc D, dNs D, dNb D + 1, dNg D, dNk D)
def dSign (D : oDf) (nm : Int32) : oDf := (zu (dR D) 101 (dNg D) nm, dTold D, dF D, dT D, dSt D, dNp D, dNc D, dNs D, dNb D, dNg D + 1, dNk D)
def dSet (D : oDf) (j v : Nat) : oDf := (zu (dR D) 102 (sIx j) (nI v), dTold D, dF D, dT D, fun i => if i = j then true else dSt D i, dNp D, dNc D, dNs D, dNb D, dNg D, dNk D)
def gN (lo hi : Nat) (t : oTk) : oF ⊕ Nat := if tKd t = 2 then (if lo ≤ (tVl t).toNatClampNeg ∧ (tVl t).toNatClampNeg ≤ hi then .inr (tVl t).toNatClampNeg else .inl (2, tAt t)) else .inl (1, tAt t)
def gPlace (E : oEn) (D : oDf) (t : oTk) : oF ⊕ (oTk × oDf) :=
  if dNp D = 5 then .inl (2, tAt t) else
  if tKd (tNx E t) = 3 then
    if oFnd (dR D 90) (dNp D) (tVl (tNx E t)) = -1 then
      match gN 0 99 (tNx E (tNx E t)) with
      | .inl f => .inl f
      | .inr v => match gN 0 99 (tNx E (tNx E (tNx E t))) with
        | .inl f => .inl f
        | .inr x => if tKd (tNx E (tNx E (tNx E (tNx E t)))) = 35 then
            match gN 0 95 (tNx E (tNx E (tNx E (tNx E (tNx E t))))) with
            | .inl f => .inl f
            | .inr y => .inr (tNx E (tNx E (tNx E (tNx E (tNx E (tNx E t))))), dPlace D (tVl (tNx E t)) v x (nI y))
          else .inr (tNx E (tNx E (tNx E (tNx E t))), dPlace D (tVl (tNx E t)) v x (-1))
    else .inl (3, tAt (tNx E t))
  else .inl (1, tAt (tNx E t))
def gCome (E : oEn) (D : oDf) (t : oTk) : oF ⊕ (oTk × oDf) :=
  if dNc D = 16 then .inl (2, tAt t) else
  match gN 0 95 (tNx E t) with
  | .inl f => .inl f
  | .inr x => match gN 1 20 (tNx E (tNx E t)) with
    | .inl f => .inl f
    | .inr y => .inr (tNx E (tNx E (tNx E t)), dCome D x y)
def gSky (E : oEn) (D : oDf) (t : oTk) : oF ⊕ (oTk × oDf) :=
  if dNs D = 12 then .inl (2, tAt t) else
  match gN 0 95 (tNx E t) with
  | .inl f => .inl f
  | .inr x => if oSkD (dR D 96) (dR D 97) (dNs D) x = -1 then
      match gN 0 2 (tNx E (tNx E t)) with
      | .inl f => .inl f
      | .inr y => .inr (tNx E (tNx E (tNx E t)), dSky D x y)
    else .inl (3, tAt (tNx E t))
def gBand (E : oEn) (D : oDf) (t : oTk) : oF ⊕ (oTk × oDf) :=
  if dNb D = 2 then .inl (2, tAt t) else
  if tKd (tNx E t) = 3 then
    if oFnd (dR D 90) (dNp D) (tVl (tNx E t)) = -1 then .inl (4, tAt (tNx E t)) else
    match gN 0 95 (tNx E (tNx E t)) with
    | .inl f => .inl f
    | .inr x => match gN x 95 (tNx E (tNx E (tNx E t))) with
      | .inl f => .inl f
      | .inr y => .inr (tNx E (tNx E (tNx E (tNx E t))), dBand D (oFnd (dR D 90) (dNp D) (tVl (tNx E t))).toNatClampNeg x y)
  else .inl (1, tAt (tNx E t))
def gSign (E : oEn) (D : oDf) (t : oTk) : oF ⊕ (oTk × oDf) :=
  if dNg D = 4 then .inl (2, tAt t) else
  if tKd (tNx E t) = 3 then
    if oFnd (dR D 101) (dNg D) (tVl (tNx E t)) = -1 then .inr (tNx E (tNx E t), dSign D (tVl (tNx E t)))
    else .inl (3, tAt (tNx E t))
  else .inl (1, tAt (tNx E t))
def gSet (E : oEn) (D : oDf) (j : Nat) (t : oTk) : oF ⊕ (oTk × oDf) :=
  if dSt D j = true then .inl (3, tAt t) else
  match gN (sLo j) (sHi j) (tNx E t) with
  | .inl f => .inl f
  | .inr v => .inr (tNx E (tNx E t), dSet D j v)
/-- what the reading of a text may change in the class, tokens aside -/
def SPs (s i k : Nat) : Prop := (i = 4 ∧ 4 ≤ k ∧ k ≠ 9) ∨ (5 ≤ i ∧ i ≤ 7) ∨ (s ≤ i ∧ i ≤ s + 15)
/-- the class's draft -/
def zDc (J : Nat → Nat → Int32) (s : Nat) (D : oDf) : Prop :=
  (J s 0 = nI (dNp D) ∧ J s 5 = nI (dNc D) ∧ J s 9 = nI (dNb D) ∧ J s 14 = nI (dNg D) ∧ J s 16 = nI (dNk D) ∧ J 4 6 = nI (dNk D) ∧ J 4 7 = nI (dNs D)) ∧
  (∀ k, k < dNp D → J (s + 1) k = dR D 90 k ∧ J (s + 2) k = dR D 91 k ∧ J (s + 3) k = dR D 92 k ∧ J (s + 4) k = dR D 93 k) ∧
  (∀ k, k < dNc D → J (s + 5) k = dR D 94 k ∧ J (s + 6) k = dR D 95 k) ∧
  (∀ k, k < 96 → J (s + 7) k = oSkD (dR D 96) (dR D 97) (dNs D) k) ∧
  (∀ k, k < dNb D → J (s + 8) k = dR D 98 k ∧ J (s + 9) k = dR D 99 k ∧ J (s + 10) k = dR D 100 k) ∧
  (∀ j, j < 7 → J (s + 11) j = dR D 102 (sIx j)) ∧
  (∀ k, k < dNg D → J (s + 12) k = dR D 101 k) ∧
  (∀ i, i < dNk D → J (s + 13) i = jEnc (dR D 107 i) (dR D 108 i)) ∧
  (∀ h, h < 3 → J (s + 14) h = (if dTold D h = true then nI (dF D h) else -1) ∧ (dTold D h = true → J (s + 15) h = nI (dT D h))) ∧
  (∀ j, j < 7 → J 5 j = zb1 (dSt D j)) ∧ (J 4 10 = 0 ∧ J 4 11 = -1)
/-- a draft's bounds -/
def DOk (D : oDf) : Prop := (dNp D ≤ 5 ∧ dNc D ≤ 16 ∧ dNs D ≤ 12 ∧ dNb D ≤ 2 ∧ dNg D ≤ 4 ∧ dNk D ≤ 64) ∧
  (∀ k, k < dNp D → dR D 93 k = -1 ∨ ∃ n, n < 96 ∧ dR D 93 k = nI n) ∧
  (∀ k, k < dNc D → ∃ n, n ≤ 20 ∧ dR D 95 k = nI n) ∧
  (∀ k, k < dNs D → (∃ n x, n < 96 ∧ x ≤ 2 ∧ dR D 96 k = nI n ∧ dR D 97 k = nI x) ∧ ∀ j, j < k → ¬ dR D 96 j = dR D 96 k) ∧
  (∀ j, j < 7 → ∃ v, sLo j ≤ v ∧ v ≤ sHi j ∧ dR D 102 (sIx j) = nI v) ∧
  (∀ h, h < 3 → dTold D h = true → dF D h < dT D h ∧ dT D h ≤ dNk D ∧ jPos (dR D 107) (dR D 108) (dR D 109) (dF D h) (dT D h - dF D h) = some [dT D h - 1] ∧ ∀ i, dF D h ≤ i → i < dT D h → ∃ k, k ≤ 14 ∧ dR D 107 i = nI k ∧ (k = 0 → ∃ n, n ≤ 9999 ∧ dR D 108 i = nI n) ∧ (k = 1 → ∃ n, n < 8 ∧ dR D 108 i = nI n))
section ZN98r
variable {w : zP} {Q : Option Value → zMem → Prop} {μ : zMem} {I J : Nat → Nat → Int32} {L K : Nat → Nat → Int64} {p s : Nat} {r : Option Nat} {a b c i j k n e m lo hi : Nat} {x y v : Int32} {E : oEn} {t u : oTk} {D : oDf}
theorem zpn_0 (h : zPc s) : (s = 0) = False := by rcases h with rfl | rfl <;> simp
theorem zpn_1 (h : zPc s) : (s = 1) = False := by rcases h with rfl | rfl <;> simp
theorem zpn_2 (h : zPc s) : (s = 2) = False := by rcases h with rfl | rfl <;> simp
theorem zpn_3 (h : zPc s) : (s = 3) = False := by rcases h with rfl | rfl <;> simp
theorem zpn_4 (h : zPc s) : (s = 4) = False := by rcases h with rfl | rfl <;> simp
theorem zpn_5 (h : zPc s) : (s = 5) = False := by rcases h with rfl | rfl <;> simp
theorem zpn_6 (h : zPc s) : (s = 6) = False := by rcases h with rfl | rfl <;> simp
theorem zpn_7 (h : zPc s) : (s = 7) = False := by rcases h with rfl | rfl <;> simp
theorem zEc_k (hs : zPc s) (h : zKpt (SPs s) J I) (hE : zEc J E) : zEc I E := by
  obtain ⟨e1, e2, e3, e4⟩ := hE
  have hn : ∀ i k, i < 4 → ¬ SPs s i k := fun i k hi => by
    unfold SPs; rcases hs with rfl | rfl <;> omega
  refine ⟨by rw [h 1 3 (hn _ _ (by omega))]; exact e1, ?_, e3, fun k hk => by rw [h 2 k (hn _ _ (by omega))]; exact e4 k hk⟩
  rw [← e2]; funext k; exact h 3 k (hn _ _ (by omega))
theorem gN_inr (ht : tOk E t) (h : gN lo hi t = .inr n) : lo ≤ n ∧ n ≤ hi ∧ tVl t = nI n ∧ tKd t = 2 ∧ n ≤ 1000000 := by
  unfold gN at h
  split at h
  · rename_i h2
    obtain ⟨m, hm, e⟩ := ht.2.2.2 h2
    split at h
    · rename_i h3
      cases h
      have e2 : (tVl t).toNatClampNeg = m := by show t.2.2.2.toNatClampNeg = m; rw [e, nI_clamp (by omega)]
      exact ⟨h3.1, h3.2, by show t.2.2.2 = _; rw [e2, e], h2, by omega⟩
    · cases h
  · cases h
set_option maxRecDepth 20000 in
theorem cl_fail (hQ : Q (some (.int 0)) (SH, zTs (zu (zu J 4 10 x) 4 11 (nI (tAt t))) t, L, RF p s r)) : zXM w mX5_fail rX5_fail [.ref 4, .int x] (SH, zTs J t, L, RF p s r) Q := by
  unfold zXM
  refine zBlkR (M := mX5_fail) (nL := 2) (rt := (Option.some .boolean)) (blk := bX5_fail_0) (T := []) 0 hX5_fail_0 zChks_nil rfl rfl rfl (Nat.le_of_ble_eq_true rfl) (Nat.le_of_ble_eq_true rfl) ?_
  simp (implicitDefEqProofs := false) only [bX5_fail_0, zRun_cons, zRun_nil, zLk, zSto, zIns, zFil, zf0, zf1, zf2, zf3, List.filter_cons, List.filter_nil, Nat.reduceAdd, Nat.reduceEqDiff, Nat.reduceLT, Nat.reduceLeDiff, Nat.reduceBEq, Nat.reduceBNe, reduceIte, if_true, if_false, Bool.false_and, Bool.true_and, Bool.and_true, Bool.and_false, Bool.not_false, Bool.not_true, Bool.false_eq_true, beq_self_eq_true, BEq.rfl, zCat1, zCat2, zCat3, zKdI, zKdL, zKdR, true_and, and_true, zSI, zSL, zSR, zu_at, and_self, and_false, false_and, lv_args, zKdZ, zKdO, zB01, zB11, Option.toList_none, Option.toList_some, List.nil_append, List.cons_append, true_or, or_true, zRow_rd, zu_rd, zo_aload_n, zo_iload_n, zo_putfield, zo_putfield_2, zo_putfield_3, zo_getfield, zo_iconst, zo_ireturn, zi_0, zKd_5_10, zTy_5_10, zKd_5_0, zKd_7_5, zKd_5_11, zTy_5_11, sh_4, rf_4_0, sh_1, zcl_0, zRt, zPutC, zKn_0, zTs_12, zTs_13, zTs_14, zTs_15, zTs_16, zTs_17, zTs_o, zTs_u, zN10, zN01, not_true_eq_false, not_false_eq_true, false_implies, true_implies, implies_true, eq_self, nI_1, nI_40, nI_7, vz0, vz1, zb1_e0, zb1_n0]
  exact hQ
set_option maxRecDepth 20000 in
theorem cl_pass (hE : zEc J E) (ht : tOk E t) (hk : k < 47) (h1 : tKd t ≠ k → Q (some (.int 0)) (SH, zTs (zu (zu J 4 10 1) 4 11 (nI (tAt t))) t, L, RF p s r)) (h2 : tKd t = k → Q (some (.int 1)) (SH, zTs J (tNx E t), L, RF p s r)) : zXM w mX5_pass rX5_pass [.ref 4, .int (nI k)] (SH, zTs J t, L, RF p s r) Q := by
  unfold zXM
  have hkd := ht.2.2.1
  have hx : (nI t.2.2.1 = nI k) = (t.2.2.1 = k) := zeq_nat (by omega) (by omega)
  by_cases h : t.2.2.1 = k
  · have hx2 : (t.2.2.1 = k) = True := eq_true h
    refine zBlkR (M := mX5_pass) (nL := 2) (rt := (Option.some .boolean)) (blk := bX5_pass_0) (T := [(17, bX5_pass_17)]) 1 hX5_pass_0 (zChks_cons hX5_pass_17 zChks_nil) rfl rfl rfl (Nat.le_of_ble_eq_true rfl) (Nat.le_of_ble_eq_true rfl) ?_
    simp (implicitDefEqProofs := false) only [bX5_pass_0, bX5_pass_17, zRun_cons, zRun_nil, zLk, zSto, zIns, zFil, zf0, zf1, zf2, zf3, List.filter_cons, List.filter_nil, Nat.reduceAdd, Nat.reduceEqDiff, Nat.reduceLT, Nat.reduceLeDiff, Nat.reduceBEq, Nat.reduceBNe, reduceIte, if_true, if_false, Bool.false_and, Bool.true_and, Bool.and_true, Bool.and_false, Bool.not_false, Bool.not_true, Bool.false_eq_true, beq_self_eq_true, BEq.rfl, zCat1, zCat2, zCat3, zKdI, zKdL, zKdR, true_and, and_true, zSI, zSL, zSR, zu_at, and_self, and_false, false_and, lv_args, zKdZ, zKdO, zB01, zB11, Option.toList_none, Option.toList_some, List.nil_append, List.cons_append, true_or, or_true, zRow_rd, zu_rd, zo_aload_n, zo_getfield, zo_iload_n, zo_icmp_eq, zo_iconst, zi_1, zKd_5_0, zKd_7_6, sh_4, rf_4_0, sh_1, zcl_1, zKn_s, zKn_0, zFind, zTs_12, zTs_13, zTs_14, zTs_15, zTs_16, zTs_17, zTs_o, zTs_u, hx, hx2, zN10, zN01, not_true_eq_false, not_false_eq_true, false_implies, true_implies, implies_true, eq_self, nI_1, nI_40, nI_7, vz0, vz1, zb1_e0, zb1_n0]
    refine z_cV0 (M' := mX7_advance) (R' := rX7_advance) (i := 1) [] [] eX7_advance k5_81 (by decide +kernel : decode cX5_pass 21 = .ok (.invokevirtual 81, 3)) (Nat.le_of_ble_eq_true rfl) ⟨Nat.le_of_ble_eq_true rfl, Nat.le_of_ble_eq_true rfl, Nat.le_of_ble_eq_true rfl, Nat.le_of_ble_eq_true rfl, Nat.le_of_ble_eq_true rfl⟩ rfl rfl rfl sh_1 ?_
    refine cl_adv hE ht ?_
    refine zBlkR (M := mX5_pass) (nL := 2) (rt := (Option.some .boolean)) (blk := bX5_pass_24) (T := []) 0 hX5_pass_24 zChks_nil rfl rfl rfl (Nat.le_of_ble_eq_true rfl) (Nat.le_of_ble_eq_true rfl) ?_
    simp (implicitDefEqProofs := false) only [bX5_pass_24, zRun_cons, zRun_nil, zLk, zSto, zIns, zFil, zf0, zf1, zf2, zf3, List.filter_cons, List.filter_nil, Nat.reduceAdd, Nat.reduceEqDiff, Nat.reduceLT, Nat.reduceLeDiff, Nat.reduceBEq, Nat.reduceBNe, reduceIte, if_true, if_false, Bool.false_and, Bool.true_and, Bool.and_true, Bool.and_false, Bool.not_false, Bool.not_true, Bool.false_eq_true, beq_self_eq_true, BEq.rfl, zCat1, zCat2, zCat3, zKdI, zKdL, zKdR, true_and, and_true, zSI, zSL, zSR, zu_at, and_self, and_false, false_and, lv_args, zKdZ, zKdO, zB01, zB11, Option.toList_none, Option.toList_some, List.nil_append, List.cons_append, true_or, or_true, zRow_rd, zu_rd, zo_iconst, zo_ireturn, zi_1, zcl_1, zRt, zKn_0, zN10, zN01, not_true_eq_false, not_false_eq_true, false_implies, true_implies, implies_true, eq_self, nI_1, nI_40, nI_7, vz0, vz1, zb1_e0, zb1_n0]
    exact h2 h
  · have hx2 : (t.2.2.1 = k) = False := eq_false h
    refine zBlkR (M := mX5_pass) (nL := 2) (rt := (Option.some .boolean)) (blk := bX5_pass_0) (T := [(17, bX5_pass_17)]) 1 hX5_pass_0 (zChks_cons hX5_pass_17 zChks_nil) rfl rfl rfl (Nat.le_of_ble_eq_true rfl) (Nat.le_of_ble_eq_true rfl) ?_
    simp (implicitDefEqProofs := false) only [bX5_pass_0, bX5_pass_17, zRun_cons, zRun_nil, zLk, zSto, zIns, zFil, zf0, zf1, zf2, zf3, List.filter_cons, List.filter_nil, Nat.reduceAdd, Nat.reduceEqDiff, Nat.reduceLT, Nat.reduceLeDiff, Nat.reduceBEq, Nat.reduceBNe, reduceIte, if_true, if_false, Bool.false_and, Bool.true_and, Bool.and_true, Bool.and_false, Bool.not_false, Bool.not_true, Bool.false_eq_true, beq_self_eq_true, BEq.rfl, zCat1, zCat2, zCat3, zKdI, zKdL, zKdR, true_and, and_true, zSI, zSL, zSR, zu_at, and_self, and_false, false_and, lv_args, zKdZ, zKdO, zB01, zB11, Option.toList_none, Option.toList_some, List.nil_append, List.cons_append, true_or, or_true, zRow_rd, zu_rd, zo_aload_n, zo_getfield, zo_iload_n, zo_icmp_eq, zo_iconst, zi_1, zKd_5_0, zKd_7_6, sh_4, rf_4_0, sh_1, zcl_1, zKn_s, zKn_0, zFind, zTs_12, zTs_13, zTs_14, zTs_15, zTs_16, zTs_17, zTs_o, zTs_u, hx, hx2, zN10, zN01, not_true_eq_false, not_false_eq_true, false_implies, true_implies, implies_true, eq_self, nI_1, nI_40, nI_7, vz0, vz1, zb1_e0, zb1_n0]
    refine z_cV0 (M' := mX5_fail) (R' := rX5_fail) (i := 4) [.int 1] [] eX5_fail k5_78 (by decide +kernel : decode cX5_pass 13 = .ok (.invokevirtual 78, 3)) (Nat.le_of_ble_eq_true rfl) ⟨Nat.le_of_ble_eq_true rfl, Nat.le_of_ble_eq_true rfl, Nat.le_of_ble_eq_true rfl, Nat.le_of_ble_eq_true rfl, Nat.le_of_ble_eq_true rfl⟩ rfl rfl rfl sh_4 ?_
    refine cl_fail ?_
    refine zBlkR (M := mX5_pass) (nL := 2) (rt := (Option.some .boolean)) (blk := bX5_pass_16) (T := []) 0 hX5_pass_16 zChks_nil rfl rfl rfl (Nat.le_of_ble_eq_true rfl) (Nat.le_of_ble_eq_true rfl) ?_
    simp (implicitDefEqProofs := false) only [bX5_pass_16, zRun_cons, zRun_nil, zLk, zSto, zIns, zFil, zf0, zf1, zf2, zf3, List.filter_cons, List.filter_nil, Nat.reduceAdd, Nat.reduceEqDiff, Nat.reduceLT, Nat.reduceLeDiff, Nat.reduceBEq, Nat.reduceBNe, reduceIte, if_true, if_false, Bool.false_and, Bool.true_and, Bool.and_true, Bool.and_false, Bool.not_false, Bool.not_true, Bool.false_eq_true, beq_self_eq_true, BEq.rfl, zCat1, zCat2, zCat3, zKdI, zKdL, zKdR, true_and, and_true, zSI, zSL, zSR, zu_at, and_self, and_false, false_and, lv_args, zKdZ, zKdO, zB01, zB11, Option.toList_none, Option.toList_some, List.nil_append, List.cons_append, true_or, or_true, zRow_rd, zu_rd, zo_ireturn, zRt, zKn_0, zN10, zN01, not_true_eq_false, not_false_eq_true, false_implies, true_implies, implies_true, eq_self, nI_1, nI_40, nI_7, vz0, vz1, zb1_e0, zb1_n0]
    exact h1 h
set_option maxRecDepth 20000 in
theorem cl_passWord (hE : zEc J E) (ht : tOk E t) (hn : n < 2 ^ 31) (hm : m < 2 ^ 31) (h1 : m ≤ n → Q (some (.int 0)) (SH, zTs (zu (zu J 4 10 2) 4 11 (nI (tAt t))) t, L, RF p s r)) (h2 : n < m → Q (some (.int 1)) (SH, zTs J (tNx E t), L, RF p s r)) : zXM w mX5_passWord rX5_passWord [.ref 4, .int (nI n), .int (nI m)] (SH, zTs J t, L, RF p s r) Q := by
  unfold zXM
  have hx : (nI n < nI m) = (n < m) := zlt_nat hn hm
  by_cases h : n < m
  · have hx2 : (n < m) = True := eq_true h
    refine zBlkR (M := mX5_passWord) (nL := 3) (rt := (Option.some .boolean)) (blk := bX5_passWord_0) (T := [(11, bX5_passWord_11)]) 1 hX5_passWord_0 (zChks_cons hX5_passWord_11 zChks_nil) rfl rfl rfl (Nat.le_of_ble_eq_true rfl) (Nat.le_of_ble_eq_true rfl) ?_
    simp (implicitDefEqProofs := false) only [bX5_passWord_0, bX5_passWord_11, zRun_cons, zRun_nil, zLk, zSto, zIns, zFil, zf0, zf1, zf2, zf3, List.filter_cons, List.filter_nil, Nat.reduceAdd, Nat.reduceEqDiff, Nat.reduceLT, Nat.reduceLeDiff, Nat.reduceBEq, Nat.reduceBNe, reduceIte, if_true, if_false, Bool.false_and, Bool.true_and, Bool.and_true, Bool.and_false, Bool.not_false, Bool.not_true, Bool.false_eq_true, beq_self_eq_true, BEq.rfl, zCat1, zCat2, zCat3, zKdI, zKdL, zKdR, true_and, and_true, zSI, zSL, zSR, zu_at, and_self, and_false, false_and, lv_args, zKdZ, zKdO, zB01, zB11, Option.toList_none, Option.toList_some, List.nil_append, List.cons_append, true_or, or_true, zRow_rd, zu_rd, zo_iload_n, zo_icmp_lt, zo_aload_n, zo_iconst, zo_getfield, zi_2, zKd_5_0, zcl_2, sh_4, rf_4_0, sh_1, zKn_s, zKn_0, zFind, zTs_12, zTs_13, zTs_14, zTs_15, zTs_16, zTs_17, zTs_o, zTs_u, hx, hx2, zN10, zN01, not_true_eq_false, not_false_eq_true, false_implies, true_implies, implies_true, eq_self, nI_1, nI_40, nI_7, vz0, vz1, zb1_e0, zb1_n0]
    refine z_cV0 (M' := mX7_advance) (R' := rX7_advance) (i := 1) [] [] eX7_advance k5_81 (by decide +kernel : decode cX5_passWord 15 = .ok (.invokevirtual 81, 3)) (Nat.le_of_ble_eq_true rfl) ⟨Nat.le_of_ble_eq_true rfl, Nat.le_of_ble_eq_true rfl, Nat.le_of_ble_eq_true rfl, Nat.le_of_ble_eq_true rfl, Nat.le_of_ble_eq_true rfl⟩ rfl rfl rfl sh_1 ?_
    refine cl_adv hE ht ?_
    refine zBlkR (M := mX5_passWord) (nL := 3) (rt := (Option.some .boolean)) (blk := bX5_passWord_18) (T := []) 0 hX5_passWord_18 zChks_nil rfl rfl rfl (Nat.le_of_ble_eq_true rfl) (Nat.le_of_ble_eq_true rfl) ?_
    simp (implicitDefEqProofs := false) only [bX5_passWord_18, zRun_cons, zRun_nil, zLk, zSto, zIns, zFil, zf0, zf1, zf2, zf3, List.filter_cons, List.filter_nil, Nat.reduceAdd, Nat.reduceEqDiff, Nat.reduceLT, Nat.reduceLeDiff, Nat.reduceBEq, Nat.reduceBNe, reduceIte, if_true, if_false, Bool.false_and, Bool.true_and, Bool.and_true, Bool.and_false, Bool.not_false, Bool.not_true, Bool.false_eq_true, beq_self_eq_true, BEq.rfl, zCat1, zCat2, zCat3, zKdI, zKdL, zKdR, true_and, and_true, zSI, zSL, zSR, zu_at, and_self, and_false, false_and, lv_args, zKdZ, zKdO, zB01, zB11, Option.toList_none, Option.toList_some, List.nil_append, List.cons_append, true_or, or_true, zRow_rd, zu_rd, zo_iconst, zo_ireturn, zi_1, zcl_1, zRt, zKn_0, zN10, zN01, not_true_eq_false, not_false_eq_true, false_implies, true_implies, implies_true, eq_self, nI_1, nI_40, nI_7, vz0, vz1, zb1_e0, zb1_n0]
    exact h2 h
  · have hx2 : (n < m) = False := eq_false h
    refine zBlkR (M := mX5_passWord) (nL := 3) (rt := (Option.some .boolean)) (blk := bX5_passWord_0) (T := [(11, bX5_passWord_11)]) 1 hX5_passWord_0 (zChks_cons hX5_passWord_11 zChks_nil) rfl rfl rfl (Nat.le_of_ble_eq_true rfl) (Nat.le_of_ble_eq_true rfl) ?_
    simp (implicitDefEqProofs := false) only [bX5_passWord_0, bX5_passWord_11, zRun_cons, zRun_nil, zLk, zSto, zIns, zFil, zf0, zf1, zf2, zf3, List.filter_cons, List.filter_nil, Nat.reduceAdd, Nat.reduceEqDiff, Nat.reduceLT, Nat.reduceLeDiff, Nat.reduceBEq, Nat.reduceBNe, reduceIte, if_true, if_false, Bool.false_and, Bool.true_and, Bool.and_true, Bool.and_false, Bool.not_false, Bool.not_true, Bool.false_eq_true, beq_self_eq_true, BEq.rfl, zCat1, zCat2, zCat3, zKdI, zKdL, zKdR, true_and, and_true, zSI, zSL, zSR, zu_at, and_self, and_false, false_and, lv_args, zKdZ, zKdO, zB01, zB11, Option.toList_none, Option.toList_some, List.nil_append, List.cons_append, true_or, or_true, zRow_rd, zu_rd, zo_iload_n, zo_icmp_lt, zo_aload_n, zo_iconst, zo_getfield, zi_2, zKd_5_0, zcl_2, sh_4, rf_4_0, sh_1, zKn_s, zKn_0, zFind, zTs_12, zTs_13, zTs_14, zTs_15, zTs_16, zTs_17, zTs_o, zTs_u, hx, hx2, zN10, zN01, not_true_eq_false, not_false_eq_true, false_implies, true_implies, implies_true, eq_self, nI_1, nI_40, nI_7, vz0, vz1, zb1_e0, zb1_n0]
    refine z_cV0 (M' := mX5_fail) (R' := rX5_fail) (i := 4) [.int 2] [] eX5_fail k5_78 (by decide +kernel : decode cX5_passWord 7 = .ok (.invokevirtual 78, 3)) (Nat.le_of_ble_eq_true rfl) ⟨Nat.le_of_ble_eq_true rfl, Nat.le_of_ble_eq_true rfl, Nat.le_of_ble_eq_true rfl, Nat.le_of_ble_eq_true rfl, Nat.le_of_ble_eq_true rfl⟩ rfl rfl rfl sh_4 ?_
    refine cl_fail ?_
    refine zBlkR (M := mX5_passWord) (nL := 3) (rt := (Option.some .boolean)) (blk := bX5_passWord_10) (T := []) 0 hX5_passWord_10 zChks_nil rfl rfl rfl (Nat.le_of_ble_eq_true rfl) (Nat.le_of_ble_eq_true rfl) ?_
    simp (implicitDefEqProofs := false) only [bX5_passWord_10, zRun_cons, zRun_nil, zLk, zSto, zIns, zFil, zf0, zf1, zf2, zf3, List.filter_cons, List.filter_nil, Nat.reduceAdd, Nat.reduceEqDiff, Nat.reduceLT, Nat.reduceLeDiff, Nat.reduceBEq, Nat.reduceBNe, reduceIte, if_true, if_false, Bool.false_and, Bool.true_and, Bool.and_true, Bool.and_false, Bool.not_false, Bool.not_true, Bool.false_eq_true, beq_self_eq_true, BEq.rfl, zCat1, zCat2, zCat3, zKdI, zKdL, zKdR, true_and, and_true, zSI, zSL, zSR, zu_at, and_self, and_false, false_and, lv_args, zKdZ, zKdO, zB01, zB11, Option.toList_none, Option.toList_some, List.nil_append, List.cons_append, true_or, or_true, zRow_rd, zu_rd, zo_ireturn, zRt, zKn_0, zN10, zN01, not_true_eq_false, not_false_eq_true, false_implies, true_implies, implies_true, eq_self, nI_1, nI_40, nI_7, vz0, vz1, zb1_e0, zb1_n0]
    exact h1 (by omega)
set_option maxRecDepth 20000 in
theorem cl_number (hE : zEc J E) (ht : tOk E t) (hlo : lo < 2 ^ 31) (hhi : hi < 2 ^ 31) (h1 : ∀ f, gN lo hi t = .inl f → Q (some (.int (-1))) (SH, zTs (zu (zu J 4 10 (nI f.1)) 4 11 (nI f.2)) t, L, RF p s r)) (h2 : ∀ v, gN lo hi t = .inr v → Q (some (.int (nI v))) (SH, zTs J (tNx E t), L, RF p s r)) : zXM w mX5_number rX5_number [.ref 4, .int (nI lo), .int (nI hi)] (SH, zTs J t, L, RF p s r) Q := by
  unfold zXM
  have hkd := ht.2.2.1
  have hx : (nI t.2.2.1 = 2) = (t.2.2.1 = 2) := zeq_nat (b := 2) (by omega) (by omega)
  by_cases h : t.2.2.1 = 2
  · have hx2 : (t.2.2.1 = 2) = True := eq_true h
    obtain ⟨n, hn, e⟩ := ht.2.2.2 h
    have e2 : (tVl t).toNatClampNeg = n := by show t.2.2.2.toNatClampNeg = n; rw [e, nI_clamp (by omega)]
    have hg : gN lo hi t = if lo ≤ n ∧ n ≤ hi then .inr n else .inl (2, tAt t) := by unfold gN; rw [if_pos h, e2]
    have y1 : (nI n < nI lo) = (n < lo) := zlt_nat (by omega) hlo
    have y2 : (nI n ≤ nI hi) = (n ≤ hi) := zle_nat (by omega) hhi
    by_cases g1 : n < lo
    · have y3 : (n < lo) = True := eq_true g1
      rw [if_neg (by omega)] at hg
      refine zBlkR (M := mX5_number) (nL := 4) (rt := (Option.some .int)) (blk := bX5_number_0) (T := [(19, bX5_number_19), (41, bX5_number_41), (49, bX5_number_49)]) 2 hX5_number_0 (zChks_cons hX5_number_19 (zChks_cons hX5_number_41 (zChks_cons hX5_number_49 zChks_nil))) rfl rfl rfl (Nat.le_of_ble_eq_true rfl) (Nat.le_of_ble_eq_true rfl) ?_
      simp (implicitDefEqProofs := false) only [bX5_number_0, bX5_number_19, bX5_number_41, bX5_number_49, zRun_cons, zRun_nil, zLk, zSto, zIns, zFil, zf0, zf1, zf2, zf3, List.filter_cons, List.filter_nil, Nat.reduceAdd, Nat.reduceEqDiff, Nat.reduceLT, Nat.reduceLeDiff, Nat.reduceBEq, Nat.reduceBNe, reduceIte, if_true, if_false, Bool.false_and, Bool.true_and, Bool.and_true, Bool.and_false, Bool.not_false, Bool.not_true, Bool.false_eq_true, beq_self_eq_true, BEq.rfl, zCat1, zCat2, zCat3, zKdI, zKdL, zKdR, true_and, and_true, zSI, zSL, zSR, zu_at, and_self, and_false, false_and, lv_args, zKdZ, zKdO, zB01, zB11, Option.toList_none, Option.toList_some, List.nil_append, List.cons_append, true_or, or_true, zRow_rd, zu_rd, zo_aload_n, zo_getfield, zo_iconst, zo_icmp_eq, zo_iload_n, zo_icmp_lt, zo_icmp_le, zo_istore_n, zi_2, zi_1, zKd_5_0, zKd_7_6, zKd_7_7, sh_4, rf_4_0, sh_1, zcl_2, zcl_1, zKn_s, zKn_0, zFind, zTs_12, zTs_13, zTs_14, zTs_15, zTs_16, zTs_17, zTs_o, zTs_u, hx, hx2, e, y1, y3, zN10, zN01, not_true_eq_false, not_false_eq_true, false_implies, true_implies, implies_true, eq_self, nI_1, nI_40, nI_7, vz0, vz1, zb1_e0, zb1_n0]
      refine z_cV0 (M' := mX5_fail) (R' := rX5_fail) (i := 4) [.int 2] [] eX5_fail k5_78 (by decide +kernel : decode cX5_number 43 = .ok (.invokevirtual 78, 3)) (Nat.le_of_ble_eq_true rfl) ⟨Nat.le_of_ble_eq_true rfl, Nat.le_of_ble_eq_true rfl, Nat.le_of_ble_eq_true rfl, Nat.le_of_ble_eq_true rfl, Nat.le_of_ble_eq_true rfl⟩ rfl rfl rfl sh_4 ?_
      refine cl_fail ?_
      refine zBlkR (M := mX5_number) (nL := 4) (rt := (Option.some .int)) (blk := bX5_number_46) (T := []) 0 hX5_number_46 zChks_nil rfl rfl rfl (Nat.le_of_ble_eq_true rfl) (Nat.le_of_ble_eq_true rfl) ?_
      simp (implicitDefEqProofs := false) only [bX5_number_46, zRun_cons, zRun_nil, zLk, zSto, zIns, zFil, zf0, zf1, zf2, zf3, List.filter_cons, List.filter_nil, Nat.reduceAdd, Nat.reduceEqDiff, Nat.reduceLT, Nat.reduceLeDiff, Nat.reduceBEq, Nat.reduceBNe, reduceIte, if_true, if_false, Bool.false_and, Bool.true_and, Bool.and_true, Bool.and_false, Bool.not_false, Bool.not_true, Bool.false_eq_true, beq_self_eq_true, BEq.rfl, zCat1, zCat2, zCat3, zKdI, zKdL, zKdR, true_and, and_true, zSI, zSL, zSR, zu_at, and_self, and_false, false_and, lv_args, zKdZ, zKdO, zB01, zB11, Option.toList_none, Option.toList_some, List.nil_append, List.cons_append, true_or, or_true, zRow_rd, zu_rd, zo_pop, zo_iconst, zo_ireturn, zi_m1, zRt, zKn_0, zN10, zN01, not_true_eq_false, not_false_eq_true, false_implies, true_implies, implies_true, eq_self, nI_1, nI_40, nI_7, vz0, vz1, zb1_e0, zb1_n0]
      exact h1 _ hg
    · have y3 : (n < lo) = False := eq_false g1
      by_cases g2 : n ≤ hi
      · have y4 : (n ≤ hi) = True := eq_true g2
        rw [if_pos ⟨by omega, g2⟩] at hg
        refine zBlkR (M := mX5_number) (nL := 4) (rt := (Option.some .int)) (blk := bX5_number_0) (T := [(19, bX5_number_19), (41, bX5_number_41), (49, bX5_number_49)]) 2 hX5_number_0 (zChks_cons hX5_number_19 (zChks_cons hX5_number_41 (zChks_cons hX5_number_49 zChks_nil))) rfl rfl rfl (Nat.le_of_ble_eq_true rfl) (Nat.le_of_ble_eq_true rfl) ?_
        simp (implicitDefEqProofs := false) only [bX5_number_0, bX5_number_19, bX5_number_41, bX5_number_49, zRun_cons, zRun_nil, zLk, zSto, zIns, zFil, zf0, zf1, zf2, zf3, List.filter_cons, List.filter_nil, Nat.reduceAdd, Nat.reduceEqDiff, Nat.reduceLT, Nat.reduceLeDiff, Nat.reduceBEq, Nat.reduceBNe, reduceIte, if_true, if_false, Bool.false_and, Bool.true_and, Bool.and_true, Bool.and_false, Bool.not_false, Bool.not_true, Bool.false_eq_true, beq_self_eq_true, BEq.rfl, zCat1, zCat2, zCat3, zKdI, zKdL, zKdR, true_and, and_true, zSI, zSL, zSR, zu_at, and_self, and_false, false_and, lv_args, zKdZ, zKdO, zB01, zB11, Option.toList_none, Option.toList_some, List.nil_append, List.cons_append, true_or, or_true, zRow_rd, zu_rd, zo_aload_n, zo_getfield, zo_iconst, zo_icmp_eq, zo_iload_n, zo_icmp_lt, zo_icmp_le, zo_istore_n, zi_2, zi_1, zKd_5_0, zKd_7_6, zKd_7_7, sh_4, rf_4_0, sh_1, zcl_2, zcl_1, zKn_s, zKn_0, zFind, zTs_12, zTs_13, zTs_14, zTs_15, zTs_16, zTs_17, zTs_o, zTs_u, hx, hx2, e, y1, y3, y2, y4, zN10, zN01, not_true_eq_false, not_false_eq_true, false_implies, true_implies, implies_true, eq_self, nI_1, nI_40, nI_7, vz0, vz1, zb1_e0, zb1_n0]
        refine z_cV0 (M' := mX7_advance) (R' := rX7_advance) (i := 1) [] [] eX7_advance k5_81 (by decide +kernel : decode cX5_number 61 = .ok (.invokevirtual 81, 3)) (Nat.le_of_ble_eq_true rfl) ⟨Nat.le_of_ble_eq_true rfl, Nat.le_of_ble_eq_true rfl, Nat.le_of_ble_eq_true rfl, Nat.le_of_ble_eq_true rfl, Nat.le_of_ble_eq_true rfl⟩ rfl rfl rfl sh_1 ?_
        refine cl_adv hE ht ?_
        refine zBlkR (M := mX5_number) (nL := 4) (rt := (Option.some .int)) (blk := bX5_number_64) (T := []) 0 hX5_number_64 zChks_nil rfl rfl rfl (Nat.le_of_ble_eq_true rfl) (Nat.le_of_ble_eq_true rfl) ?_
        simp (implicitDefEqProofs := false) only [bX5_number_64, zRun_cons, zRun_nil, zLk, zSto, zIns, zFil, zf0, zf1, zf2, zf3, List.filter_cons, List.filter_nil, Nat.reduceAdd, Nat.reduceEqDiff, Nat.reduceLT, Nat.reduceLeDiff, Nat.reduceBEq, Nat.reduceBNe, reduceIte, if_true, if_false, Bool.false_and, Bool.true_and, Bool.and_true, Bool.and_false, Bool.not_false, Bool.not_true, Bool.false_eq_true, beq_self_eq_true, BEq.rfl, zCat1, zCat2, zCat3, zKdI, zKdL, zKdR, true_and, and_true, zSI, zSL, zSR, zu_at, and_self, and_false, false_and, lv_args, zKdZ, zKdO, zB01, zB11, Option.toList_none, Option.toList_some, List.nil_append, List.cons_append, true_or, or_true, zRow_rd, zu_rd, zo_iload_n, zo_ireturn, zRt, zKn_0, zN10, zN01, not_true_eq_false, not_false_eq_true, false_implies, true_implies, implies_true, eq_self, nI_1, nI_40, nI_7, vz0, vz1, zb1_e0, zb1_n0]
        exact h2 _ hg
      · have y4 : (n ≤ hi) = False := eq_false g2
        rw [if_neg (by omega)] at hg
        refine zBlkR (M := mX5_number) (nL := 4) (rt := (Option.some .int)) (blk := bX5_number_0) (T := [(19, bX5_number_19), (41, bX5_number_41), (49, bX5_number_49)]) 2 hX5_number_0 (zChks_cons hX5_number_19 (zChks_cons hX5_number_41 (zChks_cons hX5_number_49 zChks_nil))) rfl rfl rfl (Nat.le_of_ble_eq_true rfl) (Nat.le_of_ble_eq_true rfl) ?_
        simp (implicitDefEqProofs := false) only [bX5_number_0, bX5_number_19, bX5_number_41, bX5_number_49, zRun_cons, zRun_nil, zLk, zSto, zIns, zFil, zf0, zf1, zf2, zf3, List.filter_cons, List.filter_nil, Nat.reduceAdd, Nat.reduceEqDiff, Nat.reduceLT, Nat.reduceLeDiff, Nat.reduceBEq, Nat.reduceBNe, reduceIte, if_true, if_false, Bool.false_and, Bool.true_and, Bool.and_true, Bool.and_false, Bool.not_false, Bool.not_true, Bool.false_eq_true, beq_self_eq_true, BEq.rfl, zCat1, zCat2, zCat3, zKdI, zKdL, zKdR, true_and, and_true, zSI, zSL, zSR, zu_at, and_self, and_false, false_and, lv_args, zKdZ, zKdO, zB01, zB11, Option.toList_none, Option.toList_some, List.nil_append, List.cons_append, true_or, or_true, zRow_rd, zu_rd, zo_aload_n, zo_getfield, zo_iconst, zo_icmp_eq, zo_iload_n, zo_icmp_lt, zo_icmp_le, zo_istore_n, zi_2, zi_1, zKd_5_0, zKd_7_6, zKd_7_7, sh_4, rf_4_0, sh_1, zcl_2, zcl_1, zKn_s, zKn_0, zFind, zTs_12, zTs_13, zTs_14, zTs_15, zTs_16, zTs_17, zTs_o, zTs_u, hx, hx2, e, y1, y3, y2, y4, zN10, zN01, not_true_eq_false, not_false_eq_true, false_implies, true_implies, implies_true, eq_self, nI_1, nI_40, nI_7, vz0, vz1, zb1_e0, zb1_n0]
        refine z_cV0 (M' := mX5_fail) (R' := rX5_fail) (i := 4) [.int 2] [] eX5_fail k5_78 (by decide +kernel : decode cX5_number 43 = .ok (.invokevirtual 78, 3)) (Nat.le_of_ble_eq_true rfl) ⟨Nat.le_of_ble_eq_true rfl, Nat.le_of_ble_eq_true rfl, Nat.le_of_ble_eq_true rfl, Nat.le_of_ble_eq_true rfl, Nat.le_of_ble_eq_true rfl⟩ rfl rfl rfl sh_4 ?_
        refine cl_fail ?_
        refine zBlkR (M := mX5_number) (nL := 4) (rt := (Option.some .int)) (blk := bX5_number_46) (T := []) 0 hX5_number_46 zChks_nil rfl rfl rfl (Nat.le_of_ble_eq_true rfl) (Nat.le_of_ble_eq_true rfl) ?_
        simp (implicitDefEqProofs := false) only [bX5_number_46, zRun_cons, zRun_nil, zLk, zSto, zIns, zFil, zf0, zf1, zf2, zf3, List.filter_cons, List.filter_nil, Nat.reduceAdd, Nat.reduceEqDiff, Nat.reduceLT, Nat.reduceLeDiff, Nat.reduceBEq, Nat.reduceBNe, reduceIte, if_true, if_false, Bool.false_and, Bool.true_and, Bool.and_true, Bool.and_false, Bool.not_false, Bool.not_true, Bool.false_eq_true, beq_self_eq_true, BEq.rfl, zCat1, zCat2, zCat3, zKdI, zKdL, zKdR, true_and, and_true, zSI, zSL, zSR, zu_at, and_self, and_false, false_and, lv_args, zKdZ, zKdO, zB01, zB11, Option.toList_none, Option.toList_some, List.nil_append, List.cons_append, true_or, or_true, zRow_rd, zu_rd, zo_pop, zo_iconst, zo_ireturn, zi_m1, zRt, zKn_0, zN10, zN01, not_true_eq_false, not_false_eq_true, false_implies, true_implies, implies_true, eq_self, nI_1, nI_40, nI_7, vz0, vz1, zb1_e0, zb1_n0]
        exact h1 _ hg
  · have hx2 : (t.2.2.1 = 2) = False := eq_false h
    have hg : gN lo hi t = .inl (1, tAt t) := by unfold gN; rw [if_neg h]
    refine zBlkR (M := mX5_number) (nL := 4) (rt := (Option.some .int)) (blk := bX5_number_0) (T := [(19, bX5_number_19), (41, bX5_number_41), (49, bX5_number_49)]) 2 hX5_number_0 (zChks_cons hX5_number_19 (zChks_cons hX5_number_41 (zChks_cons hX5_number_49 zChks_nil))) rfl rfl rfl (Nat.le_of_ble_eq_true rfl) (Nat.le_of_ble_eq_true rfl) ?_
    simp (implicitDefEqProofs := false) only [bX5_number_0, bX5_number_19, bX5_number_41, bX5_number_49, zRun_cons, zRun_nil, zLk, zSto, zIns, zFil, zf0, zf1, zf2, zf3, List.filter_cons, List.filter_nil, Nat.reduceAdd, Nat.reduceEqDiff, Nat.reduceLT, Nat.reduceLeDiff, Nat.reduceBEq, Nat.reduceBNe, reduceIte, if_true, if_false, Bool.false_and, Bool.true_and, Bool.and_true, Bool.and_false, Bool.not_false, Bool.not_true, Bool.false_eq_true, beq_self_eq_true, BEq.rfl, zCat1, zCat2, zCat3, zKdI, zKdL, zKdR, true_and, and_true, zSI, zSL, zSR, zu_at, and_self, and_false, false_and, lv_args, zKdZ, zKdO, zB01, zB11, Option.toList_none, Option.toList_some, List.nil_append, List.cons_append, true_or, or_true, zRow_rd, zu_rd, zo_aload_n, zo_getfield, zo_iconst, zo_icmp_eq, zo_iload_n, zo_icmp_lt, zo_icmp_le, zo_istore_n, zi_2, zi_1, zKd_5_0, zKd_7_6, zKd_7_7, sh_4, rf_4_0, sh_1, zcl_2, zcl_1, zKn_s, zKn_0, zFind, zTs_12, zTs_13, zTs_14, zTs_15, zTs_16, zTs_17, zTs_o, zTs_u, hx, hx2, zN10, zN01, not_true_eq_false, not_false_eq_true, false_implies, true_implies, implies_true, eq_self, nI_1, nI_40, nI_7, vz0, vz1, zb1_e0, zb1_n0]
    refine z_cV0 (M' := mX5_fail) (R' := rX5_fail) (i := 4) [.int 1] [] eX5_fail k5_78 (by decide +kernel : decode cX5_number 13 = .ok (.invokevirtual 78, 3)) (Nat.le_of_ble_eq_true rfl) ⟨Nat.le_of_ble_eq_true rfl, Nat.le_of_ble_eq_true rfl, Nat.le_of_ble_eq_true rfl, Nat.le_of_ble_eq_true rfl, Nat.le_of_ble_eq_true rfl⟩ rfl rfl rfl sh_4 ?_
    refine cl_fail ?_
    refine zBlkR (M := mX5_number) (nL := 4) (rt := (Option.some .int)) (blk := bX5_number_16) (T := []) 0 hX5_number_16 zChks_nil rfl rfl rfl (Nat.le_of_ble_eq_true rfl) (Nat.le_of_ble_eq_true rfl) ?_
    simp (implicitDefEqProofs := false) only [bX5_number_16, zRun_cons, zRun_nil, zLk, zSto, zIns, zFil, zf0, zf1, zf2, zf3, List.filter_cons, List.filter_nil, Nat.reduceAdd, Nat.reduceEqDiff, Nat.reduceLT, Nat.reduceLeDiff, Nat.reduceBEq, Nat.reduceBNe, reduceIte, if_true, if_false, Bool.false_and, Bool.true_and, Bool.and_true, Bool.and_false, Bool.not_false, Bool.not_true, Bool.false_eq_true, beq_self_eq_true, BEq.rfl, zCat1, zCat2, zCat3, zKdI, zKdL, zKdR, true_and, and_true, zSI, zSL, zSR, zu_at, and_self, and_false, false_and, lv_args, zKdZ, zKdO, zB01, zB11, Option.toList_none, Option.toList_some, List.nil_append, List.cons_append, true_or, or_true, zRow_rd, zu_rd, zo_pop, zo_iconst, zo_ireturn, zi_m1, zRt, zKn_0, zN10, zN01, not_true_eq_false, not_false_eq_true, false_implies, true_implies, implies_true, eq_self, nI_1, nI_40, nI_7, vz0, vz1, zb1_e0, zb1_n0]
    exact h1 _ hg
end ZN98r
