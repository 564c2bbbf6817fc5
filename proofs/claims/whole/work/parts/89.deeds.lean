/-! ===== DEEDS: what can be undone ===== -/
/-- how many; kinds, places, from, bits; and beside them the snapshots: chairs, carried, route -/
abbrev oUd : Type := Nat × (Nat → Nat) × (Nat → Nat) × (Nat → Nat) × (Nat → Int64) × (Nat → Nat → Nat → Int32) × (Nat → Nat) × (Nat → oRt)
abbrev uKd (u : oUd) : Nat → Nat := u.2.1
abbrev uPl (u : oUd) : Nat → Nat := u.2.2.1
abbrev uRf (u : oUd) : Nat → Nat := u.2.2.2.1
abbrev uBt (u : oUd) : Nat → Int64 := u.2.2.2.2.1
abbrev uV (u : oUd) : Nat → Nat → Nat → Int32 := u.2.2.2.2.2.1
abbrev uK (u : oUd) : Nat → Nat := u.2.2.2.2.2.2.1
abbrev uR (u : oUd) : Nat → oRt := u.2.2.2.2.2.2.2
def zcDeeds (I : Nat → Nat → Int32) (L : Nat → Nat → Int64) (u : oUd) : Prop := I 43 4 = nI u.1 ∧ ∀ k, k < u.1 → I 44 k = nI (uKd u k) ∧ I 45 k = nI (uPl u k) ∧ (uKd u k = 2 → I 46 k = nI (uRf u k)) ∧ L 47 k = uBt u k
def zrUndo (I : Nat → Nat → Int32) (u : oUd) : Prop := I 87 78 = nI u.1 ∧ ∀ k, k < u.1 → (∀ c, c < 40 → I 123 (40 * k + c) = 8 * uV u k 1 c + uV u k 2 c + 1) ∧ I 124 k = nI (uK u k) ∧ I 125 k = nI (uR u k).1 ∧ I 126 k = nI (uR u k).2.1 ∧ ∀ j, j < (uR u k).1 → I 127 (8 * k + j) = nI ((uR u k).2.2 j)
/-- what lies between two snapshots -/
def uLk (P : oPn) (t kd pl rf : Nat) (bt : Int64) (V1 : Nat → Nat → Int32) (K1 : Nat) (R1 : oRt) (V2 : Nat → Nat → Int32) (K2 : Nat) (R2 : oRt) : Prop :=
  (kd = 0 ∧ pl < pNp P ∧ R1 = R2 ∧ ∃ b, bt = lN b ∧ b < 2 ^ 40 ∧ (∀ c, b.testBit c = true → c < pCh P) ∧ K2 = K1 + pcN b ∧ ∀ c, c < 40 → if b.testBit c = true then (V1 1 c = 0 ∧ V1 2 c = -1 ∧ V2 1 c = 1 ∧ V2 2 c = nI pl) else (V1 1 c = V2 1 c ∧ V1 2 c = V2 2 c)) ∨
  (kd = 1 ∧ pl < pNp P ∧ R1 = R2 ∧ ∃ b, bt = lN b ∧ b < 2 ^ 40 ∧ (∀ c, b.testBit c = true → c < pCh P) ∧ K2 = K1 + pcN b ∧ ∀ c, c < 40 → if b.testBit c = true then (V1 1 c = 1 ∧ V1 2 c = nI pl ∧ V2 1 c = 0 ∧ V2 2 c = -1) else (V1 1 c = V2 1 c ∧ V1 2 c = V2 2 c)) ∨
  (kd = 2 ∧ pl = R1.1 ∧ rf = R1.2.1 ∧ ROk P R1 t ∧ (∀ j, j < R1.1 → (bt >>> ((4 * nI j).toInt64 &&& 63)).toInt32 &&& 15 = nI (R1.2.2 j)) ∧ K1 = K2 ∧ ∀ c, c < 40 → V1 1 c = V2 1 c ∧ V1 2 c = V2 2 c)
def UdOk (P : oPn) (t : Nat) (V : Nat → Nat → Int32) (kc : Nat) (rt : oRt) (u : oUd) : Prop := u.1 ≤ 20 ∧ (∀ c, c < 40 → uV u u.1 1 c = V 1 c ∧ uV u u.1 2 c = V 2 c) ∧ uK u u.1 = kc ∧ uR u u.1 = rt ∧ ∀ k, k < u.1 → uLk P t (uKd u k) (uPl u k) (uRf u k) (uBt u k) (uV u k) (uK u k) (uR u k) (uV u (k + 1)) (uK u (k + 1)) (uR u (k + 1))
def uD (u : oUd) : Nat := if u.1 = 20 then 1 else 0
/-- room for one more -/
def uRoom (u : oUd) : oUd := (u.1 - uD u, fun k => uKd u (k + uD u), fun k => uPl u (k + uD u), fun k => uRf u (k + uD u), fun k => uBt u (k + uD u), fun k => uV u (k + uD u), fun k => uK u (k + uD u), fun k => uR u (k + uD u))
def uAdd (u : oUd) (kd pl rf : Nat) (bt : Int64) (V : Nat → Nat → Int32) (K : Nat) (R : oRt) : oUd := (u.1 + 1, fun k => if k = u.1 then kd else uKd u k, fun k => if k = u.1 then pl else uPl u k, fun k => if k = u.1 then rf else uRf u k, fun k => if k = u.1 then bt else uBt u k, fun k => if k = u.1 + 1 then V else uV u k, fun k => if k = u.1 + 1 then K else uK u k, fun k => if k = u.1 + 1 then R else uR u k)
def uPop (u : oUd) : oUd := (u.1 - 1, u.2)
def zSdd (i k : Nat) : Prop := (i = 43 ∧ k = 4) ∨ i = 44 ∨ i = 45 ∨ i = 46
def zSddL (i _k : Nat) : Prop := i = 47
theorem zCpW_Deeds : zCpW (zOwn 1) 44 := ⟨zt4 109 (by decide +kernel) rfl, zt2 170 (by decide +kernel) rfl, zt2 169 (by decide +kernel) rfl, zt1 16 (by decide +kernel) rfl⟩
section ZU89
variable {w : zP} {Q : Option Value → zMem → Prop} {μ : zMem} {I J V V' : Nat → Nat → Int32} {L : Nat → Nat → Int64} {p s t kc : Nat} {r : Option Nat} {P : oPn} {c i k q n kd pl rf : Nat} {bt : Int64} {K K' : Nat} {rt R' : oRt} {u : oUd}
theorem uRoom_lt (h : u.1 ≤ 20) : (uRoom u).1 < 20 := by
  show u.1 - uD u < 20
  unfold uD; split <;> omega
theorem UdOk_room (h : UdOk P t V kc rt u) : UdOk P t V kc rt (uRoom u) := by
  obtain ⟨h1, h2, h3, h4, h5⟩ := h
  have hd : u.1 - uD u + uD u = u.1 := by unfold uD; split <;> omega
  refine ⟨Nat.le_of_lt (uRoom_lt h1), ?_, ?_, ?_, fun k hk => ?_⟩
  · show ∀ c, c < 40 → uV u (u.1 - uD u + uD u) 1 c = V 1 c ∧ uV u (u.1 - uD u + uD u) 2 c = V 2 c
    rw [hd]; exact h2
  · show uK u (u.1 - uD u + uD u) = kc
    rw [hd]; exact h3
  · show uR u (u.1 - uD u + uD u) = rt
    rw [hd]; exact h4
  · have hk : k < u.1 - uD u := hk
    have := h5 (k + uD u) (by omega)
    show uLk P t (uKd u (k + uD u)) (uPl u (k + uD u)) (uRf u (k + uD u)) (uBt u (k + uD u)) (uV u (k + uD u)) (uK u (k + uD u)) (uR u (k + uD u)) (uV u (k + 1 + uD u)) (uK u (k + 1 + uD u)) (uR u (k + 1 + uD u))
    rw [show k + 1 + uD u = k + uD u + 1 by omega]
    exact this
theorem UdOk_add (h : UdOk P t V kc rt u) (hn : u.1 < 20) (hl : uLk P t kd pl rf bt (uV u u.1) kc rt V' K' R') : UdOk P t V' K' R' (uAdd u kd pl rf bt V' K' R') := by
  obtain ⟨h1, h2, h3, h4, h5⟩ := h
  refine ⟨by show u.1 + 1 ≤ 20; omega, fun c _ => ?_, ?_, ?_, fun k hk => ?_⟩
  · show (if u.1 + 1 = u.1 + 1 then V' else uV u (u.1 + 1)) 1 c = V' 1 c ∧ (if u.1 + 1 = u.1 + 1 then V' else uV u (u.1 + 1)) 2 c = V' 2 c
    simp
  · show (if u.1 + 1 = u.1 + 1 then K' else uK u (u.1 + 1)) = K'
    simp
  · show (if u.1 + 1 = u.1 + 1 then R' else uR u (u.1 + 1)) = R'
    simp
  · have hk : k < u.1 + 1 := hk
    show uLk P t (if k = u.1 then kd else uKd u k) (if k = u.1 then pl else uPl u k) (if k = u.1 then rf else uRf u k) (if k = u.1 then bt else uBt u k) (if k = u.1 + 1 then V' else uV u k) (if k = u.1 + 1 then K' else uK u k) (if k = u.1 + 1 then R' else uR u k) (if k + 1 = u.1 + 1 then V' else uV u (k + 1)) (if k + 1 = u.1 + 1 then K' else uK u (k + 1)) (if k + 1 = u.1 + 1 then R' else uR u (k + 1))
    by_cases e : k = u.1
    · subst e
      rw [if_pos rfl, if_pos rfl, if_pos rfl, if_pos rfl, if_neg (by omega), if_neg (by omega), if_neg (by omega), if_pos rfl, if_pos rfl, if_pos rfl, h3, h4]
      exact hl
    · have := h5 k (by omega)
      rw [if_neg e, if_neg e, if_neg e, if_neg e, if_neg (by omega), if_neg (by omega), if_neg (by omega), if_neg (by omega), if_neg (by omega), if_neg (by omega)]
      exact this
theorem zcDeeds_room {I' : Nat → Nat → Int32} {L' : Nat → Nat → Int64} (h : zcDeeds I L u) (h4 : I' 43 4 = nI (u.1 - uD u)) (h44 : ∀ k, k < u.1 - uD u → I' 44 k = I 44 (k + uD u) ∧ I' 45 k = I 45 (k + uD u) ∧ I' 46 k = I 46 (k + uD u) ∧ L' 47 k = L 47 (k + uD u)) : zcDeeds I' L' (uRoom u) := by
  refine ⟨h4, fun k hk => ?_⟩
  have hk : k < u.1 - uD u := hk
  obtain ⟨a1, a2, a3, a4⟩ := h44 k hk
  obtain ⟨b1, b2, b3, b4⟩ := h.2 (k + uD u) (by omega)
  exact ⟨by rw [a1]; exact b1, by rw [a2]; exact b2, fun g => by rw [a3]; exact b3 g, by rw [a4]; exact b4⟩
set_option maxRecDepth 20000 in
theorem cl_makeRoom (h : zcDeeds I L u) (hn : u.1 ≤ 20) (hQ : ∀ I' L', zKpt zSdd I I' → zKpt zSddL L L' → zcDeeds I' L' (uRoom u) → Q none (SH, I', L', RF p s r)) : zXM w mX1_makeRoom rX1_makeRoom [.ref 43] (SH, I, L, RF p s r) Q := by
  unfold zXM
  have h4 := h.1
  by_cases h20 : u.1 = 20
  · have e20 : I 43 4 = 20 := by rw [h4, h20]; rfl
    have n1 : ((20 : Int32) ≤ 20) = True := eq_true (by decide)
    have hd : uD u = 1 := if_pos h20
    refine zBlkR (M := mX1_makeRoom) (nL := 1) (rt := (Option.none : Option Jvm.ClassFile.FieldType)) (blk := bX1_makeRoom_0) (T := [(10, bX1_makeRoom_10)]) 1 hX1_makeRoom_0 (zChks_cons hX1_makeRoom_10 zChks_nil) rfl rfl rfl (Nat.le_of_ble_eq_true rfl) (Nat.le_of_ble_eq_true rfl) ?_
    simp (implicitDefEqProofs := false) only [bX1_makeRoom_0, bX1_makeRoom_10, zRun_cons, zRun_nil, zLk, zSto, zIns, zFil, zf0, zf1, zf2, zf3, List.filter_cons, List.filter_nil, Nat.reduceAdd, Nat.reduceEqDiff, Nat.reduceLT, Nat.reduceLeDiff, Nat.reduceBEq, Nat.reduceBNe, reduceIte, if_true, if_false, Bool.false_and, Bool.true_and, Bool.and_true, Bool.and_false, Bool.not_false, Bool.not_true, Bool.false_eq_true, beq_self_eq_true, BEq.rfl, zCat1, zCat2, zCat3, zKdI, zKdL, zKdR, true_and, and_true, zSI, zSL, zSR, zu_at, and_self, and_false, false_and, lv_args, zKdZ, zKdO, zB01, zB11, Option.toList_none, Option.toList_some, List.nil_append, List.cons_append, true_or, or_true, zRow_rd, zu_rd, zo_aload_n, zo_getfield, zo_bipush, zo_icmp_ge, zo_return_, zo_putfield, zo_putfield_2, zo_putfield_3, zo_iconst, zb_20, zb_19, zi_1, zi_0, zKd_1_4, zTy_1_4, zKd_1_0, sh_43, zcl_20, zcl_19, rf_43_0, sh_44, zcl_1, zcl_0, zvi_19_20, zvi_1_20, zvi_0_20, zPutC, zKn_s, zKn_0, zFind, e20, n1, zN10, zN01, not_true_eq_false, not_false_eq_true, false_implies, true_implies, implies_true, eq_self, nI_1, nI_40, nI_7, vz0, vz1, zb1_e0, zb1_n0]
    refine z_cpyI (i := 44) (j := 44) (by decide +kernel : decode cX1_makeRoom 30 = .ok (.invokestatic 44, 3)) zCpW_Deeds sh_44 sh_44 (by decide) (by decide) (by decide) (by decide) (by decide) (by decide) (by decide) ?_
    refine zBlkR (M := mX1_makeRoom) (nL := 1) (rt := (Option.none : Option Jvm.ClassFile.FieldType)) (blk := bX1_makeRoom_33) (T := []) 0 hX1_makeRoom_33 zChks_nil rfl rfl rfl (Nat.le_of_ble_eq_true rfl) (Nat.le_of_ble_eq_true rfl) ?_
    simp (implicitDefEqProofs := false) only [bX1_makeRoom_33, zRun_cons, zRun_nil, zLk, zSto, zIns, zFil, zf0, zf1, zf2, zf3, List.filter_cons, List.filter_nil, Nat.reduceAdd, Nat.reduceEqDiff, Nat.reduceLT, Nat.reduceLeDiff, Nat.reduceBEq, Nat.reduceBNe, reduceIte, if_true, if_false, Bool.false_and, Bool.true_and, Bool.and_true, Bool.and_false, Bool.not_false, Bool.not_true, Bool.false_eq_true, beq_self_eq_true, BEq.rfl, zCat1, zCat2, zCat3, zKdI, zKdL, zKdR, true_and, and_true, zSI, zSL, zSR, zu_at, and_self, and_false, false_and, lv_args, zKdZ, zKdO, zB01, zB11, Option.toList_none, Option.toList_some, List.nil_append, List.cons_append, true_or, or_true, zRow_rd, zu_rd, zo_aload_n, zo_getfield, zo_iconst, zi_1, zi_0, zKd_1_1, zKd_1_4, sh_43, rf_43_1, sh_45, zcl_1, zcl_0, zvi_1_20, zvi_0_20, zKn_0, zN10, zN01, not_true_eq_false, not_false_eq_true, false_implies, true_implies, implies_true, eq_self, nI_1, nI_40, nI_7, vz0, vz1, zb1_e0, zb1_n0]
    refine z_cpyI (i := 45) (j := 45) (by decide +kernel : decode cX1_makeRoom 47 = .ok (.invokestatic 44, 3)) zCpW_Deeds sh_45 sh_45 (by decide) (by decide) (by decide) (by decide) (by decide) (by decide) (by decide) ?_
    refine zBlkR (M := mX1_makeRoom) (nL := 1) (rt := (Option.none : Option Jvm.ClassFile.FieldType)) (blk := bX1_makeRoom_50) (T := []) 0 hX1_makeRoom_50 zChks_nil rfl rfl rfl (Nat.le_of_ble_eq_true rfl) (Nat.le_of_ble_eq_true rfl) ?_
    simp (implicitDefEqProofs := false) only [bX1_makeRoom_50, zRun_cons, zRun_nil, zLk, zSto, zIns, zFil, zf0, zf1, zf2, zf3, List.filter_cons, List.filter_nil, Nat.reduceAdd, Nat.reduceEqDiff, Nat.reduceLT, Nat.reduceLeDiff, Nat.reduceBEq, Nat.reduceBNe, reduceIte, if_true, if_false, Bool.false_and, Bool.true_and, Bool.and_true, Bool.and_false, Bool.not_false, Bool.not_true, Bool.false_eq_true, beq_self_eq_true, BEq.rfl, zCat1, zCat2, zCat3, zKdI, zKdL, zKdR, true_and, and_true, zSI, zSL, zSR, zu_at, and_self, and_false, false_and, lv_args, zKdZ, zKdO, zB01, zB11, Option.toList_none, Option.toList_some, List.nil_append, List.cons_append, true_or, or_true, zRow_rd, zu_rd, zo_aload_n, zo_getfield, zo_iconst, zi_1, zi_0, zKd_1_2, zKd_1_4, sh_43, rf_43_2, sh_46, zcl_1, zcl_0, zvi_1_20, zvi_0_20, zKn_0, zN10, zN01, not_true_eq_false, not_false_eq_true, false_implies, true_implies, implies_true, eq_self, nI_1, nI_40, nI_7, vz0, vz1, zb1_e0, zb1_n0]
    refine z_cpyI (i := 46) (j := 46) (by decide +kernel : decode cX1_makeRoom 64 = .ok (.invokestatic 44, 3)) zCpW_Deeds sh_46 sh_46 (by decide) (by decide) (by decide) (by decide) (by decide) (by decide) (by decide) ?_
    refine zBlkR (M := mX1_makeRoom) (nL := 1) (rt := (Option.none : Option Jvm.ClassFile.FieldType)) (blk := bX1_makeRoom_67) (T := []) 0 hX1_makeRoom_67 zChks_nil rfl rfl rfl (Nat.le_of_ble_eq_true rfl) (Nat.le_of_ble_eq_true rfl) ?_
    simp (implicitDefEqProofs := false) only [bX1_makeRoom_67, zRun_cons, zRun_nil, zLk, zSto, zIns, zFil, zf0, zf1, zf2, zf3, List.filter_cons, List.filter_nil, Nat.reduceAdd, Nat.reduceEqDiff, Nat.reduceLT, Nat.reduceLeDiff, Nat.reduceBEq, Nat.reduceBNe, reduceIte, if_true, if_false, Bool.false_and, Bool.true_and, Bool.and_true, Bool.and_false, Bool.not_false, Bool.not_true, Bool.false_eq_true, beq_self_eq_true, BEq.rfl, zCat1, zCat2, zCat3, zKdI, zKdL, zKdR, true_and, and_true, zSI, zSL, zSR, zu_at, and_self, and_false, false_and, lv_args, zKdZ, zKdO, zB01, zB11, Option.toList_none, Option.toList_some, List.nil_append, List.cons_append, true_or, or_true, zRow_rd, zu_rd, zo_aload_n, zo_getfield, zo_iconst, zi_1, zi_0, zKd_1_3, zKd_1_4, sh_43, rf_43_3, sh_47, zcl_1, zcl_0, zvi_1_20, zvi_0_20, zKn_0, zN10, zN01, not_true_eq_false, not_false_eq_true, false_implies, true_implies, implies_true, eq_self, nI_1, nI_40, nI_7, vz0, vz1, zb1_e0, zb1_n0]
    refine z_cpyL (i := 47) (j := 47) (by decide +kernel : decode cX1_makeRoom 81 = .ok (.invokestatic 44, 3)) zCpW_Deeds sh_47 sh_47 (by decide) (by decide) (by decide) (by decide) (by decide) (by decide) (by decide) ?_
    refine zBlkR (M := mX1_makeRoom) (nL := 1) (rt := (Option.none : Option Jvm.ClassFile.FieldType)) (blk := bX1_makeRoom_84) (T := []) 0 hX1_makeRoom_84 zChks_nil rfl rfl rfl (Nat.le_of_ble_eq_true rfl) (Nat.le_of_ble_eq_true rfl) ?_
    simp (implicitDefEqProofs := false) only [bX1_makeRoom_84, zRun_cons, zRun_nil, zLk, zSto, zIns, zFil, zf0, zf1, zf2, zf3, List.filter_cons, List.filter_nil, Nat.reduceAdd, Nat.reduceEqDiff, Nat.reduceLT, Nat.reduceLeDiff, Nat.reduceBEq, Nat.reduceBNe, reduceIte, if_true, if_false, Bool.false_and, Bool.true_and, Bool.and_true, Bool.and_false, Bool.not_false, Bool.not_true, Bool.false_eq_true, beq_self_eq_true, BEq.rfl, zCat1, zCat2, zCat3, zKdI, zKdL, zKdR, true_and, and_true, zSI, zSL, zSR, zu_at, and_self, and_false, false_and, lv_args, zKdZ, zKdO, zB01, zB11, Option.toList_none, Option.toList_some, List.nil_append, List.cons_append, true_or, or_true, zRow_rd, zu_rd, zo_return_, zKn_0, zN10, zN01, not_true_eq_false, not_false_eq_true, false_implies, true_implies, implies_true, eq_self, nI_1, nI_40, nI_7, vz0, vz1, zb1_e0, zb1_n0]
    refine hQ _ _ ?_ ?_ (zcDeeds_room h ?_ ?_)
    · repeat' first | exact zKpt_rfl | refine zKpt.u ?_ ?_ | refine zRow_kp ?_ ?_
      all_goals first | (intro k; unfold zSdd; omega) | (unfold zSdd; omega)
    · exact zRow_kp zKpt_rfl (fun k => rfl)
    · rw [h20, hd]; simp [zu_at, zRow_at]; rfl
    · intro k hk
      rw [hd] at hk ⊢
      have h19 : k < 0 + 19 := by omega
      refine ⟨?_, ?_, ?_, ?_⟩ <;> simp [zu_at, zRow_at, pk_cpy_in (Nat.zero_le k) h19, Int32.toNatClampNeg, Nat.add_comm]
  · have n1 : ((20 : Int32) ≤ nI u.1) = False := eq_false (by rw [show (20 : Int32) = nI 20 from rfl, zle_nat (by omega) (by omega)]; omega)
    have hd : uD u = 0 := if_neg h20
    refine zBlkR (M := mX1_makeRoom) (nL := 1) (rt := (Option.none : Option Jvm.ClassFile.FieldType)) (blk := bX1_makeRoom_0) (T := [(10, bX1_makeRoom_10)]) 1 hX1_makeRoom_0 (zChks_cons hX1_makeRoom_10 zChks_nil) rfl rfl rfl (Nat.le_of_ble_eq_true rfl) (Nat.le_of_ble_eq_true rfl) ?_
    simp (implicitDefEqProofs := false) only [bX1_makeRoom_0, bX1_makeRoom_10, zRun_cons, zRun_nil, zLk, zSto, zIns, zFil, zf0, zf1, zf2, zf3, List.filter_cons, List.filter_nil, Nat.reduceAdd, Nat.reduceEqDiff, Nat.reduceLT, Nat.reduceLeDiff, Nat.reduceBEq, Nat.reduceBNe, reduceIte, if_true, if_false, Bool.false_and, Bool.true_and, Bool.and_true, Bool.and_false, Bool.not_false, Bool.not_true, Bool.false_eq_true, beq_self_eq_true, BEq.rfl, zCat1, zCat2, zCat3, zKdI, zKdL, zKdR, true_and, and_true, zSI, zSL, zSR, zu_at, and_self, and_false, false_and, lv_args, zKdZ, zKdO, zB01, zB11, Option.toList_none, Option.toList_some, List.nil_append, List.cons_append, true_or, or_true, zRow_rd, zu_rd, zo_aload_n, zo_getfield, zo_bipush, zo_icmp_ge, zo_return_, zo_putfield, zo_putfield_2, zo_putfield_3, zo_iconst, zb_20, zb_19, zi_1, zi_0, zKd_1_4, zTy_1_4, zKd_1_0, sh_43, zcl_20, zcl_19, rf_43_0, sh_44, zcl_1, zcl_0, zvi_19_20, zvi_1_20, zvi_0_20, zPutC, zKn_s, zKn_0, zFind, h4, n1, zN10, zN01, not_true_eq_false, not_false_eq_true, false_implies, true_implies, implies_true, eq_self, nI_1, nI_40, nI_7, vz0, vz1, zb1_e0, zb1_n0]
    refine hQ I L zKpt_rfl zKpt_rfl (zcDeeds_room h ?_ ?_)
    · rw [hd]; exact h4
    · intro k hk; rw [hd]; simp
theorem zcDeeds_add {I' : Nat → Nat → Int32} {L' : Nat → Nat → Int64} (h : zcDeeds I L u) (h4 : I' 43 4 = nI (u.1 + 1)) (hn : I' 44 u.1 = nI kd ∧ I' 45 u.1 = nI pl ∧ (kd = 2 → I' 46 u.1 = nI rf) ∧ L' 47 u.1 = bt) (h44 : ∀ k, k < u.1 → I' 44 k = I 44 k ∧ I' 45 k = I 45 k ∧ I' 46 k = I 46 k ∧ L' 47 k = L 47 k) : zcDeeds I' L' (uAdd u kd pl rf bt V' K' R') := by
  refine ⟨h4, fun k hk => ?_⟩
  have hk : k < u.1 + 1 := hk
  show I' 44 k = nI (if k = u.1 then kd else uKd u k) ∧ I' 45 k = nI (if k = u.1 then pl else uPl u k) ∧ ((if k = u.1 then kd else uKd u k) = 2 → I' 46 k = nI (if k = u.1 then rf else uRf u k)) ∧ L' 47 k = (if k = u.1 then bt else uBt u k)
  by_cases e : k = u.1
  · subst e
    rw [if_pos rfl, if_pos rfl, if_pos rfl, if_pos rfl]
    exact hn
  · obtain ⟨a1, a2, a3, a4⟩ := h44 k (by omega)
    obtain ⟨b1, b2, b3, b4⟩ := h.2 k (by omega)
    rw [if_neg e, if_neg e, if_neg e, if_neg e]
    exact ⟨by rw [a1]; exact b1, by rw [a2]; exact b2, fun g => by rw [a3]; exact b3 g, by rw [a4]; exact b4⟩
set_option maxRecDepth 20000 in
theorem cl_noteChairs (h : zcDeeds I L u) (hn : u.1 ≤ 20) (hQ : ∀ I' L', zKpt zSdd I I' → zKpt zSddL L L' → (∀ rf V' K' R', kd < 2 → zcDeeds I' L' (uAdd (uRoom u) kd pl rf bt V' K' R')) → Q none (SH, I', L', RF p s r)) : zXM w mX1_noteChairs rX1_noteChairs [.ref 43, .int (nI kd), .int (nI pl), .long bt] (SH, I, L, RF p s r) Q := by
  unfold zXM
  refine zBlkR (M := mX1_noteChairs) (nL := 5) (rt := (Option.none : Option Jvm.ClassFile.FieldType)) (blk := bX1_noteChairs_0) (T := []) 0 hX1_noteChairs_0 zChks_nil rfl rfl rfl (Nat.le_of_ble_eq_true rfl) (Nat.le_of_ble_eq_true rfl) ?_
  simp (implicitDefEqProofs := false) only [bX1_noteChairs_0, zRun_cons, zRun_nil, zLk, zSto, zIns, zFil, zf0, zf1, zf2, zf3, List.filter_cons, List.filter_nil, Nat.reduceAdd, Nat.reduceEqDiff, Nat.reduceLT, Nat.reduceLeDiff, Nat.reduceBEq, Nat.reduceBNe, reduceIte, if_true, if_false, Bool.false_and, Bool.true_and, Bool.and_true, Bool.and_false, Bool.not_false, Bool.not_true, Bool.false_eq_true, beq_self_eq_true, BEq.rfl, zCat1, zCat2, zCat3, zKdI, zKdL, zKdR, true_and, and_true, zSI, zSL, zSR, zu_at, and_self, and_false, false_and, lv_args, zKdZ, zKdO, zB01, zB11, Option.toList_none, Option.toList_some, List.nil_append, List.cons_append, true_or, or_true, zRow_rd, zu_rd, zo_aload_n, zKn_0, zCat2, zN10, zN01, not_true_eq_false, not_false_eq_true, false_implies, true_implies, implies_true, eq_self, nI_1, nI_40, nI_7, vz0, vz1, zb1_e0, zb1_n0]
  refine z_cV0 (M' := mX1_makeRoom) (R' := rX1_makeRoom) (i := 43) [] [] eX1_makeRoom k1_25 (by decide +kernel : decode cX1_noteChairs 1 = .ok (.invokevirtual 25, 3)) (Nat.le_of_ble_eq_true rfl) ⟨Nat.le_of_ble_eq_true rfl, Nat.le_of_ble_eq_true rfl, Nat.le_of_ble_eq_true rfl, Nat.le_of_ble_eq_true rfl, Nat.le_of_ble_eq_true rfl⟩ rfl rfl rfl sh_43 ?_
  refine cl_makeRoom h hn (fun I1 L1 k1 k2 d1 => ?_)
  have hlt := uRoom_lt hn
  have h4 := d1.1
  generalize uRoom u = u' at *
  have hv : vp_in (nI u'.1) 20 := zvn hlt (by omega)
  refine zBlkR (M := mX1_noteChairs) (nL := 5) (rt := (Option.none : Option Jvm.ClassFile.FieldType)) (blk := bX1_noteChairs_4) (T := []) 0 hX1_noteChairs_4 zChks_nil rfl rfl rfl (Nat.le_of_ble_eq_true rfl) (Nat.le_of_ble_eq_true rfl) ?_
  simp (implicitDefEqProofs := false) only [bX1_noteChairs_4, zRun_cons, zRun_nil, zLk, zSto, zIns, zFil, zf0, zf1, zf2, zf3, List.filter_cons, List.filter_nil, Nat.reduceAdd, Nat.reduceEqDiff, Nat.reduceLT, Nat.reduceLeDiff, Nat.reduceBEq, Nat.reduceBNe, reduceIte, if_true, if_false, Bool.false_and, Bool.true_and, Bool.and_true, Bool.and_false, Bool.not_false, Bool.not_true, Bool.false_eq_true, beq_self_eq_true, BEq.rfl, zCat1, zCat2, zCat3, zKdI, zKdL, zKdR, true_and, and_true, zSI, zSL, zSR, zu_at, and_self, and_false, false_and, lv_args, zKdZ, zKdO, zB01, zB11, Option.toList_none, Option.toList_some, List.nil_append, List.cons_append, true_or, or_true, zRow_rd, zu_rd, zo_aload_n, zo_getfield, zo_iload_n, zo_iastore, zo_lload_n, zo_lastore, zo_dup, zo_iconst, zo_iadd, zo_putfield, zo_putfield_2, zo_putfield_3, zo_return_, zi_1, zKd_1_0, zKd_1_4, zKd_1_1, zKd_1_3, zTy_1_4, sh_43, rf_43_0, sh_44, rf_43_1, sh_45, rf_43_3, sh_47, zcl_1, zvi_1_20, zPutC, zKn_0, h4, hv, zCat2, nI_clamp (n := u'.1) (by omega), zN10, zN01, not_true_eq_false, not_false_eq_true, false_implies, true_implies, implies_true, eq_self, nI_1, nI_40, nI_7, vz0, vz1, zb1_e0, zb1_n0]
  refine hQ _ _ ?_ (k2.u rfl) (fun rf V' K' R' hkd => zcDeeds_add d1 ?_ ⟨?_, ?_, fun g => by omega, ?_⟩ (fun k hk => ?_))
  · refine ((k1.u ?_).u ?_).u ?_ <;> unfold zSdd <;> omega
  · simp [zu_at]
  · simp [zu_at]
  · simp [zu_at]
  · simp [zu_at]
  · have : ¬ k = u'.1 := by omega
    simp [zu_at, this]
set_option maxRecDepth 20000 in
theorem cl_noteRoute (h : zcDeeds I L u) (hn : u.1 ≤ 20) (h12 : I 10 12 = nI rt.1) (h13 : I 10 13 = nI rt.2.1) (hQ : ∀ I' L', zKpt zSdd I I' → zKpt zSddL L L' → (∀ V' K' R', zcDeeds I' L' (uAdd (uRoom u) 2 rt.1 rt.2.1 (L 10 14) V' K' R')) → Q none (SH, I', L', RF p s r)) : zXM w mX1_noteRoute rX1_noteRoute [.ref 43, .ref 10] (SH, I, L, RF p s r) Q := by
  unfold zXM
  refine zBlkR (M := mX1_noteRoute) (nL := 2) (rt := (Option.none : Option Jvm.ClassFile.FieldType)) (blk := bX1_noteRoute_0) (T := []) 0 hX1_noteRoute_0 zChks_nil rfl rfl rfl (Nat.le_of_ble_eq_true rfl) (Nat.le_of_ble_eq_true rfl) ?_
  simp (implicitDefEqProofs := false) only [bX1_noteRoute_0, zRun_cons, zRun_nil, zLk, zSto, zIns, zFil, zf0, zf1, zf2, zf3, List.filter_cons, List.filter_nil, Nat.reduceAdd, Nat.reduceEqDiff, Nat.reduceLT, Nat.reduceLeDiff, Nat.reduceBEq, Nat.reduceBNe, reduceIte, if_true, if_false, Bool.false_and, Bool.true_and, Bool.and_true, Bool.and_false, Bool.not_false, Bool.not_true, Bool.false_eq_true, beq_self_eq_true, BEq.rfl, zCat1, zCat2, zCat3, zKdI, zKdL, zKdR, true_and, and_true, zSI, zSL, zSR, zu_at, and_self, and_false, false_and, lv_args, zKdZ, zKdO, zB01, zB11, Option.toList_none, Option.toList_some, List.nil_append, List.cons_append, true_or, or_true, zRow_rd, zu_rd, zo_aload_n, zKn_0, zN10, zN01, not_true_eq_false, not_false_eq_true, false_implies, true_implies, implies_true, eq_self, nI_1, nI_40, nI_7, vz0, vz1, zb1_e0, zb1_n0]
  refine z_cV0 (M' := mX1_makeRoom) (R' := rX1_makeRoom) (i := 43) [] [] eX1_makeRoom k1_25 (by decide +kernel : decode cX1_noteRoute 1 = .ok (.invokevirtual 25, 3)) (Nat.le_of_ble_eq_true rfl) ⟨Nat.le_of_ble_eq_true rfl, Nat.le_of_ble_eq_true rfl, Nat.le_of_ble_eq_true rfl, Nat.le_of_ble_eq_true rfl, Nat.le_of_ble_eq_true rfl⟩ rfl rfl rfl sh_43 ?_
  refine cl_makeRoom h hn (fun I1 L1 k1 k2 d1 => ?_)
  have hlt := uRoom_lt hn
  have h4 := d1.1
  have g12 : I1 10 12 = nI rt.1 := by rw [k1 10 12 (by unfold zSdd; omega), h12]
  have g13 : I1 10 13 = nI rt.2.1 := by rw [k1 10 13 (by unfold zSdd; omega), h13]
  have g14 : L1 10 14 = L 10 14 := k2 10 14 (by unfold zSddL; omega)
  generalize uRoom u = u' at *
  have hv : vp_in (nI u'.1) 20 := zvn hlt (by omega)
  refine zBlkR (M := mX1_noteRoute) (nL := 2) (rt := (Option.none : Option Jvm.ClassFile.FieldType)) (blk := bX1_noteRoute_4) (T := []) 0 hX1_noteRoute_4 zChks_nil rfl rfl rfl (Nat.le_of_ble_eq_true rfl) (Nat.le_of_ble_eq_true rfl) ?_
  simp (implicitDefEqProofs := false) only [bX1_noteRoute_4, zRun_cons, zRun_nil, zLk, zSto, zIns, zFil, zf0, zf1, zf2, zf3, List.filter_cons, List.filter_nil, Nat.reduceAdd, Nat.reduceEqDiff, Nat.reduceLT, Nat.reduceLeDiff, Nat.reduceBEq, Nat.reduceBNe, reduceIte, if_true, if_false, Bool.false_and, Bool.true_and, Bool.and_true, Bool.and_false, Bool.not_false, Bool.not_true, Bool.false_eq_true, beq_self_eq_true, BEq.rfl, zCat1, zCat2, zCat3, zKdI, zKdL, zKdR, true_and, and_true, zSI, zSL, zSR, zu_at, and_self, and_false, false_and, lv_args, zKdZ, zKdO, zB01, zB11, Option.toList_none, Option.toList_some, List.nil_append, List.cons_append, true_or, or_true, zRow_rd, zu_rd, zo_aload_n, zo_getfield, zo_iconst, zo_iastore, zo_lastore, zo_dup, zo_iadd, zo_putfield, zo_putfield_2, zo_putfield_3, zo_return_, zi_2, zi_1, zKd_1_0, zKd_1_4, zKd_1_1, zKd_2_12, zKd_1_2, zKd_2_13, zKd_1_3, zKd_2_14, zTy_1_4, sh_43, rf_43_0, sh_44, zcl_2, rf_43_1, sh_45, sh_10, sh_19, sh_28, rf_43_2, sh_46, rf_43_3, sh_47, zcl_1, zvi_2_20, zvi_1_20, zPutC, zKn_0, h4, hv, g12, g13, g14, zCat2, nI_clamp (n := u'.1) (by omega), zN10, zN01, not_true_eq_false, not_false_eq_true, false_implies, true_implies, implies_true, eq_self, nI_1, nI_40, nI_7, vz0, vz1, zb1_e0, zb1_n0]
  refine hQ _ _ ?_ (k2.u rfl) (fun V' K' R' => zcDeeds_add d1 ?_ ⟨?_, ?_, fun _ => ?_, ?_⟩ (fun k hk => ?_))
  · refine (((k1.u ?_).u ?_).u ?_).u ?_ <;> unfold zSdd <;> omega
  · simp [zu_at]
  · simp [zu_at]; rfl
  · simp [zu_at]
  · simp [zu_at]
  · simp [zu_at]
  · have : ¬ k = u'.1 := by omega
    simp [zu_at, this]
end ZU89
