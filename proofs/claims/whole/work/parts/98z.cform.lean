/-! ===== TEXT: a formula in the class ===== -/
def zWs (f g : Nat → Int32) : List Nat → Prop
  | [] => True
  | k :: ws => f ws.length = nI (cJt k) ∧ g ws.length = nI (rkN k) ∧ zWs f g ws
/-- the class's stacks and code beside the pure ones -/
def zFc (J : Nat → Nat → Int32) (s : Nat) (S : oFm) : Prop := J 4 4 = nI S.1.length ∧ J 4 5 = nI (brk S.1) ∧ J 4 6 = nI S.2.2.2.1 ∧ J s 16 = nI S.2.2.2.2 ∧ zWs (J 6) (J 7) S.1 ∧ ∀ i, i < S.2.2.2.1 → J (s + 13) i = jEnc (S.2.2.1 107 i) (S.2.2.1 108 i)
/-- what a formula changes in the class -/
def SFc (s i k : Nat) : Prop := (i = 4 ∧ 4 ≤ k ∧ k ≤ 6) ∨ i = 6 ∨ i = 7 ∨ (i = s ∧ k = 16) ∨ i = s + 13
section ZN98z
variable {w : zP} {Q : Option Value → zMem → Prop} {μ : zMem} {I J J' : Nat → Nat → Int32} {L K : Nat → Nat → Int64} {p s : Nat} {r : Option Nat} {a b c i j k n e m lo hi l : Nat} {x y v : Int32} {E : oEn} {t u : oTk} {D : oDf} {ws hs : List Nat} {R : Nat → Nat → Int32} {X : oFx} {S : oFm} {f g f' g' : Nat → Int32}
theorem zWs_c : ∀ {ws : List Nat}, zWs f g ws → (∀ i, i < ws.length → f' i = f i ∧ g' i = g i) → zWs f' g' ws
  | [], _, _ => trivial
  | k :: ws, h, hc => by
    obtain ⟨h1, h2, h3⟩ := h
    have := hc ws.length (by simp)
    exact ⟨by rw [this.1]; exact h1, by rw [this.2]; exact h2, zWs_c h3 (fun i hi => hc i (by rw [List.length_cons]; omega))⟩
theorem SFc_s (h : SFc s i k) : SPs s i k := by unfold SFc at h; unfold SPs; omega
theorem cJt_lt (h : k ≤ 14) : cJt k < 47 := by unfold cJt; (repeat' split) <;> omega
theorem jEnd_0 : jEnc (nI 0) x = x := by unfold jEnc; rw [if_pos (by decide)]
theorem jEnd_1 : ∀ k, k < 28 → 20 ≤ k → jEnc (nI 1) (nI (nmN k)) = -nI k := by
  have h : ∀ k, k < 28 → (k < 20 ∨ jEnc (nI 1) (nI (nmN k)) = -nI k) := by decide +kernel
  exact fun k h1 h2 => (h k h1).resolve_left (by omega)
theorem jEnd_k : ∀ k, k < 15 → k ≠ 0 → k ≠ 1 → ∀ a, jEnc (nI k) a = -nI (cJt k) := by
  have h : ∀ k, k < 15 → (k = 0 ∨ k = 1 ∨ ((¬ nI k = 0 ∧ ¬ nI k = 1) ∧ (if nI k = 2 then (-46 : Int32) else if nI k = 3 then -45 else if nI k = 4 then -44 else -(nI k + 2)) = -nI (cJt k))) := by decide +kernel
  intro k hk h0 h1 a
  rcases h k hk with h | h | ⟨⟨g1, g2⟩, h⟩
  · exact absurd h h0
  · exact absurd h h1
  · unfold jEnc; rw [if_neg g1, if_neg g2]; exact h
set_option maxRecDepth 20000 in
theorem cl_topRank (h4 : J 4 4 = nI ws.length) (hw : zWs (J 6) (J 7) ws) (hl : ws.length ≤ 72) (hQ : Q (some (.int (nI (rkN (ws.headD 0))))) (SH, zTs J t, L, RF p s r)) : zXM w mX5_topRank rX5_topRank [.ref 4] (SH, zTs J t, L, RF p s r) Q := by
  unfold zXM
  match ws, h4, hw, hl, hQ with
  | [], h4, hw, hl, hQ =>
    have h4' : J 4 4 = 0 := h4
    refine zBlkR (M := mX5_topRank) (nL := 1) (rt := (Option.some .int)) (blk := bX5_topRank_0) (T := [(11, bX5_topRank_11), (22, bX5_topRank_22)]) 1 hX5_topRank_0 (zChks_cons hX5_topRank_11 (zChks_cons hX5_topRank_22 zChks_nil)) rfl rfl rfl (Nat.le_of_ble_eq_true rfl) (Nat.le_of_ble_eq_true rfl) ?_
    simp (implicitDefEqProofs := false) only [bX5_topRank_0, bX5_topRank_11, bX5_topRank_22, zRun_cons, zRun_nil, zLk, zSto, zIns, zFil, zf0, zf1, zf2, zf3, List.filter_cons, List.filter_nil, Nat.reduceAdd, Nat.reduceEqDiff, Nat.reduceLT, Nat.reduceLeDiff, Nat.reduceBEq, Nat.reduceBNe, reduceIte, if_true, if_false, Bool.false_and, Bool.true_and, Bool.and_true, Bool.and_false, Bool.not_false, Bool.not_true, Bool.false_eq_true, beq_self_eq_true, BEq.rfl, zCat1, zCat2, zCat3, zKdI, zKdL, zKdR, true_and, and_true, zSI, zSL, zSR, zu_at, and_self, and_false, false_and, lv_args, zKdZ, zKdO, zB01, zB11, Option.toList_none, Option.toList_some, List.nil_append, List.cons_append, true_or, or_true, zRow_rd, zu_rd, zo_aload_n, zo_getfield, zo_if_ne, zo_iconst, zo_goto, zo_isub, zo_iaload, zo_ireturn, zi_0, zi_1, zKd_5_4, zKd_5_3, sh_4, zcl_0, rf_4_3, sh_7, zcl_1, zvi_0_72, zvi_1_72, zRt, zKn_s, zKn_0, zFind, zTs_12, zTs_13, zTs_14, zTs_15, zTs_16, zTs_17, zTs_o, zTs_u, h4', zN10, zN01, not_true_eq_false, not_false_eq_true, false_implies, true_implies, implies_true, eq_self, nI_1, nI_40, nI_7, vz0, vz1, zb1_e0, zb1_n0]
    exact hQ
  | k :: ws, h4, hw, hl, hQ =>
    rw [List.length_cons] at h4 hl
    have z : (nI (ws.length + 1) = 0) = False := eq_false (fun q => by have := (nI_eq (b := 0) (by omega) (by omega)).mp q; omega)
    have e1 : nI (ws.length + 1) - 1 = nI ws.length := by rw [← nI_1, Int32.add_sub_cancel]
    have hv : vp_in (nI ws.length) 72 := zvn (by omega) (by omega)
    have cl : (nI ws.length).toNatClampNeg = ws.length := nI_clamp (by omega)
    have h7 := hw.2.1
    refine zBlkR (M := mX5_topRank) (nL := 1) (rt := (Option.some .int)) (blk := bX5_topRank_0) (T := [(11, bX5_topRank_11), (22, bX5_topRank_22)]) 1 hX5_topRank_0 (zChks_cons hX5_topRank_11 (zChks_cons hX5_topRank_22 zChks_nil)) rfl rfl rfl (Nat.le_of_ble_eq_true rfl) (Nat.le_of_ble_eq_true rfl) ?_
    simp (implicitDefEqProofs := false) only [bX5_topRank_0, bX5_topRank_11, bX5_topRank_22, zRun_cons, zRun_nil, zLk, zSto, zIns, zFil, zf0, zf1, zf2, zf3, List.filter_cons, List.filter_nil, Nat.reduceAdd, Nat.reduceEqDiff, Nat.reduceLT, Nat.reduceLeDiff, Nat.reduceBEq, Nat.reduceBNe, reduceIte, if_true, if_false, Bool.false_and, Bool.true_and, Bool.and_true, Bool.and_false, Bool.not_false, Bool.not_true, Bool.false_eq_true, beq_self_eq_true, BEq.rfl, zCat1, zCat2, zCat3, zKdI, zKdL, zKdR, true_and, and_true, zSI, zSL, zSR, zu_at, and_self, and_false, false_and, lv_args, zKdZ, zKdO, zB01, zB11, Option.toList_none, Option.toList_some, List.nil_append, List.cons_append, true_or, or_true, zRow_rd, zu_rd, zo_aload_n, zo_getfield, zo_if_ne, zo_iconst, zo_goto, zo_isub, zo_iaload, zo_ireturn, zi_0, zi_1, zKd_5_4, zKd_5_3, sh_4, zcl_0, rf_4_3, sh_7, zcl_1, zvi_0_72, zvi_1_72, zRt, zKn_s, zKn_0, zFind, zTs_12, zTs_13, zTs_14, zTs_15, zTs_16, zTs_17, zTs_o, zTs_u, h4, z, e1, hv, cl, h7, zN10, zN01, not_true_eq_false, not_false_eq_true, false_implies, true_implies, implies_true, eq_self, nI_1, nI_40, nI_7, vz0, vz1, zb1_e0, zb1_n0]
    exact hQ
set_option maxRecDepth 20000 in
theorem cl_rdWrite (hs : zPc s) (hn : n < 64) (h6 : J 4 6 = nI n) (hQ : Q (some (.int 1)) (SH, zTs (zu (zu J (s + 13) n x) 4 6 (nI (n + 1))) t, L, RF p s (some s))) : zXM w mX5_write rX5_write [.ref 4, .int x] (SH, zTs J t, L, RF p s (some s)) Q := by
  unfold zXM
  have z : ((64 : Int32) ≤ nI n) = False := eq_false (by rw [show (64 : Int32) = nI 64 from rfl, zle_nat (by omega) (by omega)]; omega)
  have hv : vp_in (nI n) 64 := zvn (by omega) (by omega)
  have cl : (nI n).toNatClampNeg = n := nI_clamp (by omega)
  refine zBlkR (M := mX5_write) (nL := 2) (rt := (Option.some .boolean)) (blk := bX5_write_0) (T := [(32, bX5_write_32)]) 1 hX5_write_0 (zChks_cons hX5_write_32 zChks_nil) rfl rfl rfl (Nat.le_of_ble_eq_true rfl) (Nat.le_of_ble_eq_true rfl) ?_
  simp (implicitDefEqProofs := false) only [bX5_write_0, bX5_write_32, zRun_cons, zRun_nil, zLk, zSto, zIns, zFil, zf0, zf1, zf2, zf3, List.filter_cons, List.filter_nil, Nat.reduceAdd, Nat.reduceEqDiff, Nat.reduceLT, Nat.reduceLeDiff, Nat.reduceBEq, Nat.reduceBNe, reduceIte, if_true, if_false, Bool.false_and, Bool.true_and, Bool.and_true, Bool.and_false, Bool.not_false, Bool.not_true, Bool.false_eq_true, beq_self_eq_true, BEq.rfl, zCat1, zCat2, zCat3, zKdI, zKdL, zKdR, true_and, and_true, zSI, zSL, zSR, zu_at, and_self, and_false, false_and, lv_args, zKdZ, zKdO, zB01, zB11, Option.toList_none, Option.toList_some, List.nil_append, List.cons_append, true_or, or_true, zRow_rd, zu_rd, zo_aload_n, zo_getfield, zo_bipush, zo_icmp_ge, zo_iload_n, zo_iastore, zo_dup, zo_iconst, zo_iadd, zo_putfield, zo_putfield_2, zo_putfield_3, zo_ireturn, zb_64, zi_1, zKd_5_6, zKd_5_8, zKd_4_17, zTy_5_6, sh_4, zcl_64, rf_4_8, sh_55, rf_55_17, sh_68, sh_71, rf_71_17, sh_84, zcl_1, zvi_1_64, zRt, zPutC, zKn_s, zKn_0, zFind, (psh_0 hs), (psh_1 hs), (psh_2 hs), (psh_3 hs), (psh_4 hs), (psh_5 hs), (psh_6 hs), (psh_7 hs), (psh_8 hs), (psh_9 hs), (psh_10 hs), (psh_11 hs), (psh_12 hs), (psh_13 hs), (psh_14 hs), (psh_15 hs), (prf_1 hs), (prf_2 hs), (prf_3 hs), (prf_4 hs), (prf_6 hs), (prf_7 hs), (prf_8 hs), (prf_10 hs), (prf_11 hs), (prf_12 hs), (prf_13 hs), (prf_15 hs), (prf_17 hs), (prf_18 hs), (prf_19 hs), Nat.add_left_cancel_iff, Nat.left_eq_add, Nat.add_eq_left, (zpn_0 hs), (zpn_1 hs), (zpn_2 hs), (zpn_3 hs), (zpn_4 hs), (zpn_5 hs), (zpn_6 hs), (zpn_7 hs), zTs_12, zTs_13, zTs_14, zTs_15, zTs_16, zTs_17, zTs_o, zTs_u, h6, z, hv, cl, nI_1, zN10, zN01, not_true_eq_false, not_false_eq_true, false_implies, true_implies, implies_true, eq_self, nI_1, nI_40, nI_7, vz0, vz1, zb1_e0, zb1_n0]
  exact hQ
set_option maxRecDepth 20000 in
theorem cl_countKnot (hs : zPc s) (hn : n ≤ 64) (h6 : J s 16 = nI n) (h1 : n = 64 → Q (some (.int 0)) (SH, zTs (zu (zu J 4 10 2) 4 11 (nI (tAt t))) t, L, RF p s (some s))) (h2 : n < 64 → Q (some (.int 1)) (SH, zTs (zu J s 16 (nI (n + 1))) t, L, RF p s (some s))) : zXM w mX5_countKnot rX5_countKnot [.ref 4] (SH, zTs J t, L, RF p s (some s)) Q := by
  unfold zXM
  have z : (nI n < 64) = (n < 64) := by rw [show (64 : Int32) = nI 64 from rfl, zlt_nat (by omega) (by omega)]
  by_cases h : n < 64
  · have h' : (n < 64) = True := eq_true h
    refine zBlkR (M := mX5_countKnot) (nL := 1) (rt := (Option.some .boolean)) (blk := bX5_countKnot_0) (T := [(18, bX5_countKnot_18)]) 1 hX5_countKnot_0 (zChks_cons hX5_countKnot_18 zChks_nil) rfl rfl rfl (Nat.le_of_ble_eq_true rfl) (Nat.le_of_ble_eq_true rfl) ?_
    simp (implicitDefEqProofs := false) only [bX5_countKnot_0, bX5_countKnot_18, zRun_cons, zRun_nil, zLk, zSto, zIns, zFil, zf0, zf1, zf2, zf3, List.filter_cons, List.filter_nil, Nat.reduceAdd, Nat.reduceEqDiff, Nat.reduceLT, Nat.reduceLeDiff, Nat.reduceBEq, Nat.reduceBNe, reduceIte, if_true, if_false, Bool.false_and, Bool.true_and, Bool.and_true, Bool.and_false, Bool.not_false, Bool.not_true, Bool.false_eq_true, beq_self_eq_true, BEq.rfl, zCat1, zCat2, zCat3, zKdI, zKdL, zKdR, true_and, and_true, zSI, zSL, zSR, zu_at, and_self, and_false, false_and, lv_args, zKdZ, zKdO, zB01, zB11, Option.toList_none, Option.toList_some, List.nil_append, List.cons_append, true_or, or_true, zRow_rd, zu_rd, zo_aload_n, zo_getfield, zo_bipush, zo_icmp_lt, zo_iconst, zo_dup, zo_iadd, zo_putfield, zo_putfield_2, zo_putfield_3, zo_ireturn, zb_64, zi_2, zi_1, zKd_5_8, zKd_4_16, zTy_4_16, sh_4, rf_4_8, sh_55, sh_71, zcl_64, zcl_2, zcl_1, zRt, zPutC, zKn_s, zKn_0, zFind, (psh_0 hs), (psh_1 hs), (psh_2 hs), (psh_3 hs), (psh_4 hs), (psh_5 hs), (psh_6 hs), (psh_7 hs), (psh_8 hs), (psh_9 hs), (psh_10 hs), (psh_11 hs), (psh_12 hs), (psh_13 hs), (psh_14 hs), (psh_15 hs), (prf_1 hs), (prf_2 hs), (prf_3 hs), (prf_4 hs), (prf_6 hs), (prf_7 hs), (prf_8 hs), (prf_10 hs), (prf_11 hs), (prf_12 hs), (prf_13 hs), (prf_15 hs), (prf_17 hs), (prf_18 hs), (prf_19 hs), Nat.add_left_cancel_iff, Nat.left_eq_add, Nat.add_eq_left, (zpn_0 hs), (zpn_1 hs), (zpn_2 hs), (zpn_3 hs), (zpn_4 hs), (zpn_5 hs), (zpn_6 hs), (zpn_7 hs), zTs_12, zTs_13, zTs_14, zTs_15, zTs_16, zTs_17, zTs_o, zTs_u, h6, z, h', nI_1, zN10, zN01, not_true_eq_false, not_false_eq_true, false_implies, true_implies, implies_true, eq_self, nI_1, nI_40, nI_7, vz0, vz1, zb1_e0, zb1_n0]
    exact h2 h
  · have h' : (n < 64) = False := eq_false h
    refine zBlkR (M := mX5_countKnot) (nL := 1) (rt := (Option.some .boolean)) (blk := bX5_countKnot_0) (T := [(18, bX5_countKnot_18)]) 1 hX5_countKnot_0 (zChks_cons hX5_countKnot_18 zChks_nil) rfl rfl rfl (Nat.le_of_ble_eq_true rfl) (Nat.le_of_ble_eq_true rfl) ?_
    simp (implicitDefEqProofs := false) only [bX5_countKnot_0, bX5_countKnot_18, zRun_cons, zRun_nil, zLk, zSto, zIns, zFil, zf0, zf1, zf2, zf3, List.filter_cons, List.filter_nil, Nat.reduceAdd, Nat.reduceEqDiff, Nat.reduceLT, Nat.reduceLeDiff, Nat.reduceBEq, Nat.reduceBNe, reduceIte, if_true, if_false, Bool.false_and, Bool.true_and, Bool.and_true, Bool.and_false, Bool.not_false, Bool.not_true, Bool.false_eq_true, beq_self_eq_true, BEq.rfl, zCat1, zCat2, zCat3, zKdI, zKdL, zKdR, true_and, and_true, zSI, zSL, zSR, zu_at, and_self, and_false, false_and, lv_args, zKdZ, zKdO, zB01, zB11, Option.toList_none, Option.toList_some, List.nil_append, List.cons_append, true_or, or_true, zRow_rd, zu_rd, zo_aload_n, zo_getfield, zo_bipush, zo_icmp_lt, zo_iconst, zo_dup, zo_iadd, zo_putfield, zo_putfield_2, zo_putfield_3, zo_ireturn, zb_64, zi_2, zi_1, zKd_5_8, zKd_4_16, zTy_4_16, sh_4, rf_4_8, sh_55, sh_71, zcl_64, zcl_2, zcl_1, zRt, zPutC, zKn_s, zKn_0, zFind, (psh_0 hs), (psh_1 hs), (psh_2 hs), (psh_3 hs), (psh_4 hs), (psh_5 hs), (psh_6 hs), (psh_7 hs), (psh_8 hs), (psh_9 hs), (psh_10 hs), (psh_11 hs), (psh_12 hs), (psh_13 hs), (psh_14 hs), (psh_15 hs), (prf_1 hs), (prf_2 hs), (prf_3 hs), (prf_4 hs), (prf_6 hs), (prf_7 hs), (prf_8 hs), (prf_10 hs), (prf_11 hs), (prf_12 hs), (prf_13 hs), (prf_15 hs), (prf_17 hs), (prf_18 hs), (prf_19 hs), Nat.add_left_cancel_iff, Nat.left_eq_add, Nat.add_eq_left, (zpn_0 hs), (zpn_1 hs), (zpn_2 hs), (zpn_3 hs), (zpn_4 hs), (zpn_5 hs), (zpn_6 hs), (zpn_7 hs), zTs_12, zTs_13, zTs_14, zTs_15, zTs_16, zTs_17, zTs_o, zTs_u, h6, z, h', zN10, zN01, not_true_eq_false, not_false_eq_true, false_implies, true_implies, implies_true, eq_self, nI_1, nI_40, nI_7, vz0, vz1, zb1_e0, zb1_n0]
    refine z_cV0 (M' := mX5_fail) (R' := rX5_fail) (i := 4) [.int 2] [] eX5_fail k5_78 (by decide +kernel : decode cX5_countKnot 14 = .ok (.invokevirtual 78, 3)) (Nat.le_of_ble_eq_true rfl) ⟨Nat.le_of_ble_eq_true rfl, Nat.le_of_ble_eq_true rfl, Nat.le_of_ble_eq_true rfl, Nat.le_of_ble_eq_true rfl, Nat.le_of_ble_eq_true rfl⟩ rfl rfl rfl sh_4 ?_
    refine cl_fail ?_
    refine zBlkR (M := mX5_countKnot) (nL := 1) (rt := (Option.some .boolean)) (blk := bX5_countKnot_17) (T := []) 0 hX5_countKnot_17 zChks_nil rfl rfl rfl (Nat.le_of_ble_eq_true rfl) (Nat.le_of_ble_eq_true rfl) ?_
    simp (implicitDefEqProofs := false) only [bX5_countKnot_17, zRun_cons, zRun_nil, zLk, zSto, zIns, zFil, zf0, zf1, zf2, zf3, List.filter_cons, List.filter_nil, Nat.reduceAdd, Nat.reduceEqDiff, Nat.reduceLT, Nat.reduceLeDiff, Nat.reduceBEq, Nat.reduceBNe, reduceIte, if_true, if_false, Bool.false_and, Bool.true_and, Bool.and_true, Bool.and_false, Bool.not_false, Bool.not_true, Bool.false_eq_true, beq_self_eq_true, BEq.rfl, zCat1, zCat2, zCat3, zKdI, zKdL, zKdR, true_and, and_true, zSI, zSL, zSR, zu_at, and_self, and_false, false_and, lv_args, zKdZ, zKdO, zB01, zB11, Option.toList_none, Option.toList_some, List.nil_append, List.cons_append, true_or, or_true, zRow_rd, zu_rd, zo_ireturn, zRt, zKn_0, zN10, zN01, not_true_eq_false, not_false_eq_true, false_implies, true_implies, implies_true, eq_self, nI_1, nI_40, nI_7, vz0, vz1, zb1_e0, zb1_n0]
    exact h1 (by omega)
set_option maxRecDepth 20000 in
theorem cl_push (hn : n < 72) (h6 : J 4 4 = nI n) (hQ : Q (some (.int 1)) (SH, zTs (zu (zu (zu J 6 n x) 7 n y) 4 4 (nI (n + 1))) t, L, RF p s r)) : zXM w mX5_push rX5_push [.ref 4, .int x, .int y] (SH, zTs J t, L, RF p s r) Q := by
  unfold zXM
  have e72 : Int32.ofNat 72 = nI 72 := rfl
  have z : (nI n < nI 72) = True := eq_true (by rw [zlt_nat (by omega) (by omega)]; exact hn)
  have hv : vp_in (nI n) 72 := zvn (by omega) (by omega)
  have cl : (nI n).toNatClampNeg = n := nI_clamp (by omega)
  refine zBlkR (M := mX5_push) (nL := 3) (rt := (Option.some .boolean)) (blk := bX5_push_0) (T := [(18, bX5_push_18)]) 1 hX5_push_0 (zChks_cons hX5_push_18 zChks_nil) rfl rfl rfl (Nat.le_of_ble_eq_true rfl) (Nat.le_of_ble_eq_true rfl) ?_
  simp (implicitDefEqProofs := false) only [bX5_push_0, bX5_push_18, zRun_cons, zRun_nil, zLk, zSto, zIns, zFil, zf0, zf1, zf2, zf3, List.filter_cons, List.filter_nil, Nat.reduceAdd, Nat.reduceEqDiff, Nat.reduceLT, Nat.reduceLeDiff, Nat.reduceBEq, Nat.reduceBNe, reduceIte, if_true, if_false, Bool.false_and, Bool.true_and, Bool.and_true, Bool.and_false, Bool.not_false, Bool.not_true, Bool.false_eq_true, beq_self_eq_true, BEq.rfl, zCat1, zCat2, zCat3, zKdI, zKdL, zKdR, true_and, and_true, zSI, zSL, zSR, zu_at, and_self, and_false, false_and, lv_args, zKdZ, zKdO, zB01, zB11, Option.toList_none, Option.toList_some, List.nil_append, List.cons_append, true_or, or_true, zRow_rd, zu_rd, zo_aload_n, zo_getfield, zo_arraylength, zo_icmp_lt, zo_iconst, zo_iload_n, zo_iastore, zo_dup, zo_iadd, zo_putfield, zo_putfield_2, zo_putfield_3, zo_ireturn, zi_2, zi_1, zKd_5_4, zKd_5_2, zKd_5_3, zTy_5_4, sh_4, rf_4_2, sh_6, zcl_2, rf_4_3, sh_7, zcl_1, zvi_2_72, zvi_1_72, zRt, zPutC, zKn_s, zKn_0, zFind, zTs_12, zTs_13, zTs_14, zTs_15, zTs_16, zTs_17, zTs_o, zTs_u, e72, h6, z, hv, cl, nI_1, zN10, zN01, not_true_eq_false, not_false_eq_true, false_implies, true_implies, implies_true, eq_self, nI_1, nI_40, nI_7, vz0, vz1, zb1_e0, zb1_n0]
  exact hQ
set_option maxRecDepth 20000 in
theorem cl_rankOf (hk : k < 47) (hQ : Q (some (.int (if opN k = 0 then -1 else nI (rkN (opN k))))) μ) : zXM w mX5_rankOf rX5_rankOf [.int (nI k)] μ Q := by
  unfold zXM
  have y : ∀ c, c < 47 → (nI k = nI c) = (k = c) := fun c hc => zeq_nat (by omega) (by omega)
  refine zBlkR (M := mX5_rankOf) (nL := 1) (rt := (Option.some .int)) (blk := bX5_rankOf_0) (T := []) 0 hX5_rankOf_0 zChks_nil rfl rfl rfl (Nat.le_of_ble_eq_true rfl) (Nat.le_of_ble_eq_true rfl) ?_
  simp (implicitDefEqProofs := false) only [bX5_rankOf_0, zRun_cons, zRun_nil, zLk, zSto, zIns, zFil, zf0, zf1, zf2, zf3, List.filter_cons, List.filter_nil, Nat.reduceAdd, Nat.reduceEqDiff, Nat.reduceLT, Nat.reduceLeDiff, Nat.reduceBEq, Nat.reduceBNe, reduceIte, if_true, if_false, Bool.false_and, Bool.true_and, Bool.and_true, Bool.and_false, Bool.not_false, Bool.not_true, Bool.false_eq_true, beq_self_eq_true, BEq.rfl, zCat1, zCat2, zCat3, zKdI, zKdL, zKdR, true_and, and_true, zSI, zSL, zSR, zu_at, and_self, and_false, false_and, lv_args, zKdZ, zKdO, zB01, zB11, Option.toList_none, Option.toList_some, List.nil_append, List.cons_append, true_or, or_true, zRow_rd, zu_rd, zo_iload_n, zKn_0, zN10, zN01, not_true_eq_false, not_false_eq_true, false_implies, true_implies, implies_true, eq_self, nI_1, nI_40, nI_7, vz0, vz1, zb1_e0, zb1_n0]
  refine z_lsw (dt := 69) [(13, 64), (14, 64), (15, 66), (16, 66), (44, 60), (45, 62)] (by decide +kernel : decode cX5_rankOf 1 = .ok (.lookupswitch 68 #[(13, 63), (14, 63), (15, 65), (16, 65), (44, 59), (45, 61)], 59)) (by decide) (by decide) (by decide) ?_
  simp only [zSw_cons, zSw_nil]
  refine ⟨fun h0 => ?_, fun h0 => ⟨fun h1 => ?_, fun h1 => ⟨fun h2 => ?_, fun h2 => ⟨fun h3 => ?_, fun h3 => ⟨fun h4 => ?_, fun h4 => ⟨fun h5 => ?_, fun h5 => ?_⟩⟩⟩⟩⟩⟩
  · have e : k = 13 := by rw [← y 13 (by omega)]; exact h0
    subst e
    refine zBlkR (M := mX5_rankOf) (nL := 1) (rt := (Option.some .int)) (blk := bX5_rankOf_64) (T := []) 0 hX5_rankOf_64 zChks_nil rfl rfl rfl (Nat.le_of_ble_eq_true rfl) (Nat.le_of_ble_eq_true rfl) ?_
    simp (implicitDefEqProofs := false) only [bX5_rankOf_64, zRun_cons, zRun_nil, zLk, zSto, zIns, zFil, zf0, zf1, zf2, zf3, List.filter_cons, List.filter_nil, Nat.reduceAdd, Nat.reduceEqDiff, Nat.reduceLT, Nat.reduceLeDiff, Nat.reduceBEq, Nat.reduceBNe, reduceIte, if_true, if_false, Bool.false_and, Bool.true_and, Bool.and_true, Bool.and_false, Bool.not_false, Bool.not_true, Bool.false_eq_true, beq_self_eq_true, BEq.rfl, zCat1, zCat2, zCat3, zKdI, zKdL, zKdR, true_and, and_true, zSI, zSL, zSR, zu_at, and_self, and_false, false_and, lv_args, zKdZ, zKdO, zB01, zB11, Option.toList_none, Option.toList_some, List.nil_append, List.cons_append, true_or, or_true, zRow_rd, zu_rd, zo_iconst, zo_ireturn, zi_5, zcl_5, zRt, zKn_0, zN10, zN01, not_true_eq_false, not_false_eq_true, false_implies, true_implies, implies_true, eq_self, nI_1, nI_40, nI_7, vz0, vz1, zb1_e0, zb1_n0]
    exact hQ
  · have e : k = 14 := by rw [← y 14 (by omega)]; exact h1
    subst e
    refine zBlkR (M := mX5_rankOf) (nL := 1) (rt := (Option.some .int)) (blk := bX5_rankOf_64) (T := []) 0 hX5_rankOf_64 zChks_nil rfl rfl rfl (Nat.le_of_ble_eq_true rfl) (Nat.le_of_ble_eq_true rfl) ?_
    simp (implicitDefEqProofs := false) only [bX5_rankOf_64, zRun_cons, zRun_nil, zLk, zSto, zIns, zFil, zf0, zf1, zf2, zf3, List.filter_cons, List.filter_nil, Nat.reduceAdd, Nat.reduceEqDiff, Nat.reduceLT, Nat.reduceLeDiff, Nat.reduceBEq, Nat.reduceBNe, reduceIte, if_true, if_false, Bool.false_and, Bool.true_and, Bool.and_true, Bool.and_false, Bool.not_false, Bool.not_true, Bool.false_eq_true, beq_self_eq_true, BEq.rfl, zCat1, zCat2, zCat3, zKdI, zKdL, zKdR, true_and, and_true, zSI, zSL, zSR, zu_at, and_self, and_false, false_and, lv_args, zKdZ, zKdO, zB01, zB11, Option.toList_none, Option.toList_some, List.nil_append, List.cons_append, true_or, or_true, zRow_rd, zu_rd, zo_iconst, zo_ireturn, zi_5, zcl_5, zRt, zKn_0, zN10, zN01, not_true_eq_false, not_false_eq_true, false_implies, true_implies, implies_true, eq_self, nI_1, nI_40, nI_7, vz0, vz1, zb1_e0, zb1_n0]
    exact hQ
  · have e : k = 15 := by rw [← y 15 (by omega)]; exact h2
    subst e
    refine zBlkR (M := mX5_rankOf) (nL := 1) (rt := (Option.some .int)) (blk := bX5_rankOf_66) (T := []) 0 hX5_rankOf_66 zChks_nil rfl rfl rfl (Nat.le_of_ble_eq_true rfl) (Nat.le_of_ble_eq_true rfl) ?_
    simp (implicitDefEqProofs := false) only [bX5_rankOf_66, zRun_cons, zRun_nil, zLk, zSto, zIns, zFil, zf0, zf1, zf2, zf3, List.filter_cons, List.filter_nil, Nat.reduceAdd, Nat.reduceEqDiff, Nat.reduceLT, Nat.reduceLeDiff, Nat.reduceBEq, Nat.reduceBNe, reduceIte, if_true, if_false, Bool.false_and, Bool.true_and, Bool.and_true, Bool.and_false, Bool.not_false, Bool.not_true, Bool.false_eq_true, beq_self_eq_true, BEq.rfl, zCat1, zCat2, zCat3, zKdI, zKdL, zKdR, true_and, and_true, zSI, zSL, zSR, zu_at, and_self, and_false, false_and, lv_args, zKdZ, zKdO, zB01, zB11, Option.toList_none, Option.toList_some, List.nil_append, List.cons_append, true_or, or_true, zRow_rd, zu_rd, zo_bipush, zo_ireturn, zb_6, zcl_6, zRt, zKn_0, zN10, zN01, not_true_eq_false, not_false_eq_true, false_implies, true_implies, implies_true, eq_self, nI_1, nI_40, nI_7, vz0, vz1, zb1_e0, zb1_n0]
    exact hQ
  · have e : k = 16 := by rw [← y 16 (by omega)]; exact h3
    subst e
    refine zBlkR (M := mX5_rankOf) (nL := 1) (rt := (Option.some .int)) (blk := bX5_rankOf_66) (T := []) 0 hX5_rankOf_66 zChks_nil rfl rfl rfl (Nat.le_of_ble_eq_true rfl) (Nat.le_of_ble_eq_true rfl) ?_
    simp (implicitDefEqProofs := false) only [bX5_rankOf_66, zRun_cons, zRun_nil, zLk, zSto, zIns, zFil, zf0, zf1, zf2, zf3, List.filter_cons, List.filter_nil, Nat.reduceAdd, Nat.reduceEqDiff, Nat.reduceLT, Nat.reduceLeDiff, Nat.reduceBEq, Nat.reduceBNe, reduceIte, if_true, if_false, Bool.false_and, Bool.true_and, Bool.and_true, Bool.and_false, Bool.not_false, Bool.not_true, Bool.false_eq_true, beq_self_eq_true, BEq.rfl, zCat1, zCat2, zCat3, zKdI, zKdL, zKdR, true_and, and_true, zSI, zSL, zSR, zu_at, and_self, and_false, false_and, lv_args, zKdZ, zKdO, zB01, zB11, Option.toList_none, Option.toList_some, List.nil_append, List.cons_append, true_or, or_true, zRow_rd, zu_rd, zo_bipush, zo_ireturn, zb_6, zcl_6, zRt, zKn_0, zN10, zN01, not_true_eq_false, not_false_eq_true, false_implies, true_implies, implies_true, eq_self, nI_1, nI_40, nI_7, vz0, vz1, zb1_e0, zb1_n0]
    exact hQ
  · have e : k = 44 := by rw [← y 44 (by omega)]; exact h4
    subst e
    refine zBlkR (M := mX5_rankOf) (nL := 1) (rt := (Option.some .int)) (blk := bX5_rankOf_60) (T := []) 0 hX5_rankOf_60 zChks_nil rfl rfl rfl (Nat.le_of_ble_eq_true rfl) (Nat.le_of_ble_eq_true rfl) ?_
    simp (implicitDefEqProofs := false) only [bX5_rankOf_60, zRun_cons, zRun_nil, zLk, zSto, zIns, zFil, zf0, zf1, zf2, zf3, List.filter_cons, List.filter_nil, Nat.reduceAdd, Nat.reduceEqDiff, Nat.reduceLT, Nat.reduceLeDiff, Nat.reduceBEq, Nat.reduceBNe, reduceIte, if_true, if_false, Bool.false_and, Bool.true_and, Bool.and_true, Bool.and_false, Bool.not_false, Bool.not_true, Bool.false_eq_true, beq_self_eq_true, BEq.rfl, zCat1, zCat2, zCat3, zKdI, zKdL, zKdR, true_and, and_true, zSI, zSL, zSR, zu_at, and_self, and_false, false_and, lv_args, zKdZ, zKdO, zB01, zB11, Option.toList_none, Option.toList_some, List.nil_append, List.cons_append, true_or, or_true, zRow_rd, zu_rd, zo_iconst, zo_ireturn, zi_1, zcl_1, zRt, zKn_0, zN10, zN01, not_true_eq_false, not_false_eq_true, false_implies, true_implies, implies_true, eq_self, nI_1, nI_40, nI_7, vz0, vz1, zb1_e0, zb1_n0]
    exact hQ
  · have e : k = 45 := by rw [← y 45 (by omega)]; exact h5
    subst e
    refine zBlkR (M := mX5_rankOf) (nL := 1) (rt := (Option.some .int)) (blk := bX5_rankOf_62) (T := []) 0 hX5_rankOf_62 zChks_nil rfl rfl rfl (Nat.le_of_ble_eq_true rfl) (Nat.le_of_ble_eq_true rfl) ?_
    simp (implicitDefEqProofs := false) only [bX5_rankOf_62, zRun_cons, zRun_nil, zLk, zSto, zIns, zFil, zf0, zf1, zf2, zf3, List.filter_cons, List.filter_nil, Nat.reduceAdd, Nat.reduceEqDiff, Nat.reduceLT, Nat.reduceLeDiff, Nat.reduceBEq, Nat.reduceBNe, reduceIte, if_true, if_false, Bool.false_and, Bool.true_and, Bool.and_true, Bool.and_false, Bool.not_false, Bool.not_true, Bool.false_eq_true, beq_self_eq_true, BEq.rfl, zCat1, zCat2, zCat3, zKdI, zKdL, zKdR, true_and, and_true, zSI, zSL, zSR, zu_at, and_self, and_false, false_and, lv_args, zKdZ, zKdO, zB01, zB11, Option.toList_none, Option.toList_some, List.nil_append, List.cons_append, true_or, or_true, zRow_rd, zu_rd, zo_iconst, zo_ireturn, zi_2, zcl_2, zRt, zKn_0, zN10, zN01, not_true_eq_false, not_false_eq_true, false_implies, true_implies, implies_true, eq_self, nI_1, nI_40, nI_7, vz0, vz1, zb1_e0, zb1_n0]
    exact hQ
  · have n13 : ¬ k = 13 := fun e => h0 (by rw [e]; rfl)
    have n14 : ¬ k = 14 := fun e => h1 (by rw [e]; rfl)
    have n15 : ¬ k = 15 := fun e => h2 (by rw [e]; rfl)
    have n16 : ¬ k = 16 := fun e => h3 (by rw [e]; rfl)
    have n44 : ¬ k = 44 := fun e => h4 (by rw [e]; rfl)
    have n45 : ¬ k = 45 := fun e => h5 (by rw [e]; rfl)
    have z7 : (nI k < 7) = (k < 7) := by rw [show (7 : Int32) = nI 7 from rfl, zlt_nat (by omega) (by omega)]
    have z12 : ((12 : Int32) < nI k) = (12 < k) := by rw [show (12 : Int32) = nI 12 from rfl, zlt_nat (by omega) (by omega)]
    by_cases g1 : k < 7
    · have g1' : (k < 7) = True := eq_true g1
      have e : opN k = 0 := by unfold opN; rw [if_neg n45, if_neg n44, if_neg (by omega)]
      rw [if_pos e] at hQ
      refine zBlkR (M := mX5_rankOf) (nL := 1) (rt := (Option.some .int)) (blk := bX5_rankOf_69) (T := [(85, bX5_rankOf_85), (86, bX5_rankOf_86)]) 1 hX5_rankOf_69 (zChks_cons hX5_rankOf_85 (zChks_cons hX5_rankOf_86 zChks_nil)) rfl rfl rfl (Nat.le_of_ble_eq_true rfl) (Nat.le_of_ble_eq_true rfl) ?_
      simp (implicitDefEqProofs := false) only [bX5_rankOf_69, bX5_rankOf_85, bX5_rankOf_86, zRun_cons, zRun_nil, zLk, zSto, zIns, zFil, zf0, zf1, zf2, zf3, List.filter_cons, List.filter_nil, Nat.reduceAdd, Nat.reduceEqDiff, Nat.reduceLT, Nat.reduceLeDiff, Nat.reduceBEq, Nat.reduceBNe, reduceIte, if_true, if_false, Bool.false_and, Bool.true_and, Bool.and_true, Bool.and_false, Bool.not_false, Bool.not_true, Bool.false_eq_true, beq_self_eq_true, BEq.rfl, zCat1, zCat2, zCat3, zKdI, zKdL, zKdR, true_and, and_true, zSI, zSL, zSR, zu_at, and_self, and_false, false_and, lv_args, zKdZ, zKdO, zB01, zB11, Option.toList_none, Option.toList_some, List.nil_append, List.cons_append, true_or, or_true, zRow_rd, zu_rd, zo_iload_n, zo_bipush, zo_icmp_lt, zo_icmp_gt, zo_iconst, zo_goto, zo_ireturn, zb_7, zb_12, zi_4, zi_m1, zcl_7, zcl_12, zcl_4, zRt, zKn_s, zKn_0, zFind, z7, z12, g1', zN10, zN01, not_true_eq_false, not_false_eq_true, false_implies, true_implies, implies_true, eq_self, nI_1, nI_40, nI_7, vz0, vz1, zb1_e0, zb1_n0]
      exact hQ
    · have g1' : (k < 7) = False := eq_false g1
      by_cases g2 : 12 < k
      · have g2' : (12 < k) = True := eq_true g2
        have e : opN k = 0 := by unfold opN; rw [if_neg n45, if_neg n44, if_neg (by omega)]
        rw [if_pos e] at hQ
        refine zBlkR (M := mX5_rankOf) (nL := 1) (rt := (Option.some .int)) (blk := bX5_rankOf_69) (T := [(85, bX5_rankOf_85), (86, bX5_rankOf_86)]) 1 hX5_rankOf_69 (zChks_cons hX5_rankOf_85 (zChks_cons hX5_rankOf_86 zChks_nil)) rfl rfl rfl (Nat.le_of_ble_eq_true rfl) (Nat.le_of_ble_eq_true rfl) ?_
        simp (implicitDefEqProofs := false) only [bX5_rankOf_69, bX5_rankOf_85, bX5_rankOf_86, zRun_cons, zRun_nil, zLk, zSto, zIns, zFil, zf0, zf1, zf2, zf3, List.filter_cons, List.filter_nil, Nat.reduceAdd, Nat.reduceEqDiff, Nat.reduceLT, Nat.reduceLeDiff, Nat.reduceBEq, Nat.reduceBNe, reduceIte, if_true, if_false, Bool.false_and, Bool.true_and, Bool.and_true, Bool.and_false, Bool.not_false, Bool.not_true, Bool.false_eq_true, beq_self_eq_true, BEq.rfl, zCat1, zCat2, zCat3, zKdI, zKdL, zKdR, true_and, and_true, zSI, zSL, zSR, zu_at, and_self, and_false, false_and, lv_args, zKdZ, zKdO, zB01, zB11, Option.toList_none, Option.toList_some, List.nil_append, List.cons_append, true_or, or_true, zRow_rd, zu_rd, zo_iload_n, zo_bipush, zo_icmp_lt, zo_icmp_gt, zo_iconst, zo_goto, zo_ireturn, zb_7, zb_12, zi_4, zi_m1, zcl_7, zcl_12, zcl_4, zRt, zKn_s, zKn_0, zFind, z7, z12, g1', g2', zN10, zN01, not_true_eq_false, not_false_eq_true, false_implies, true_implies, implies_true, eq_self, nI_1, nI_40, nI_7, vz0, vz1, zb1_e0, zb1_n0]
        exact hQ
      · have g2' : (12 < k) = False := eq_false g2
        have e : opN k = k - 2 := by unfold opN; rw [if_neg n45, if_neg n44, if_pos (by omega)]
        have e2 : rkN (k - 2) = 4 := by unfold rkN; rw [if_neg (by omega), if_neg (by omega), if_pos (by omega)]
        rw [e, if_neg (by omega), e2] at hQ
        refine zBlkR (M := mX5_rankOf) (nL := 1) (rt := (Option.some .int)) (blk := bX5_rankOf_69) (T := [(85, bX5_rankOf_85), (86, bX5_rankOf_86)]) 1 hX5_rankOf_69 (zChks_cons hX5_rankOf_85 (zChks_cons hX5_rankOf_86 zChks_nil)) rfl rfl rfl (Nat.le_of_ble_eq_true rfl) (Nat.le_of_ble_eq_true rfl) ?_
        simp (implicitDefEqProofs := false) only [bX5_rankOf_69, bX5_rankOf_85, bX5_rankOf_86, zRun_cons, zRun_nil, zLk, zSto, zIns, zFil, zf0, zf1, zf2, zf3, List.filter_cons, List.filter_nil, Nat.reduceAdd, Nat.reduceEqDiff, Nat.reduceLT, Nat.reduceLeDiff, Nat.reduceBEq, Nat.reduceBNe, reduceIte, if_true, if_false, Bool.false_and, Bool.true_and, Bool.and_true, Bool.and_false, Bool.not_false, Bool.not_true, Bool.false_eq_true, beq_self_eq_true, BEq.rfl, zCat1, zCat2, zCat3, zKdI, zKdL, zKdR, true_and, and_true, zSI, zSL, zSR, zu_at, and_self, and_false, false_and, lv_args, zKdZ, zKdO, zB01, zB11, Option.toList_none, Option.toList_some, List.nil_append, List.cons_append, true_or, or_true, zRow_rd, zu_rd, zo_iload_n, zo_bipush, zo_icmp_lt, zo_icmp_gt, zo_iconst, zo_goto, zo_ireturn, zb_7, zb_12, zi_4, zi_m1, zcl_7, zcl_12, zcl_4, zRt, zKn_s, zKn_0, zFind, z7, z12, g1', g2', zN10, zN01, not_true_eq_false, not_false_eq_true, false_implies, true_implies, implies_true, eq_self, nI_1, nI_40, nI_7, vz0, vz1, zb1_e0, zb1_n0]
        exact hQ
/-- one joint written -/
theorem zFc_pop (hs : zPc s) (hn : X.2.2.1 < 64) (hk : k ≠ 0 ∧ k ≠ 1 ∧ k ≤ 14) (h : zFc J s (k :: ws, X)) : zFc (zu (zu (zu J 4 4 (nI ws.length)) (s + 13) X.2.2.1 (-nI (cJt k))) 4 6 (nI (X.2.2.1 + 1))) s (ws, fPop k X) := by
  obtain ⟨hd, R, n, c⟩ := X
  have s8 : 8 < s := by rcases hs with rfl | rfl <;> omega
  obtain ⟨h1, h2, h3, h4, h5, h6⟩ := h
  have eX : ∃ hd' a b, fPop k (hd, R, n, c) = (hd', fGr R n k a b, n + 1, c) := by
    unfold fPop
    by_cases e : k = 2
    · rw [if_pos e, e]; exact ⟨_, _, _, rfl⟩
    · rw [if_neg e]; exact ⟨_, _, _, rfl⟩
  obtain ⟨hd', a, b, e⟩ := eX
  rw [e]
  refine ⟨by simp [zu_at] <;> omega, ?_, by simp [zu_at], ?_, ?_, fun i hi => ?_⟩
  · simp only [brk, hk.1, if_false, Nat.add_zero] at h2
    rw [zu_at, if_neg (by omega), zu_at, if_neg (by omega), zu_at, if_neg (by omega)]; exact h2
  · rw [zu_at, if_neg (by omega), zu_at, if_neg (by omega), zu_at, if_neg (by omega)]; exact h4
  · refine zWs_c h5.2.2 (fun i hi => ?_)
    rw [zu_at, if_neg (by omega), zu_at, if_neg (by omega), zu_at, if_neg (by omega), zu_at, if_neg (by omega), zu_at, if_neg (by omega), zu_at, if_neg (by omega)]
    exact ⟨rfl, rfl⟩
  · simp only at hi ⊢
    rw [zu_at, if_neg (by omega), zu_at, fGr_107, fGr_108]
    simp only [true_and]
    by_cases e : i = n
    · subst e; simp only [if_true]; rw [jEnd_k k (by omega) hk.1 hk.2.1]
    · simp only [e, if_false]
      rw [zu_at, if_neg (by omega)]; exact h6 i (by simp only; omega)
set_option maxRecDepth 20000 in
theorem cl_writeJoints (hs : zPc s) (hl : 1 ≤ l) (hl7 : l ≤ 7) : ∀ (ws : List Nat) (X : oFx) (J : Nat → Nat → Int32) (q : Nat), q + ws.length ≤ 72 → X.2.2.1 + nbk ws ≤ 64 → (∀ k ∈ ws, k ≠ 1 ∧ k ≤ 14) → zFc J s (ws, X) → (∀ J', zKpt (SFc s) J J' → zFc J' s (fBind l ws X) → Q none (SH, zTs J' t, L, RF p s (some s))) → zX w mX5_writeJoints rX5_writeJoints Q 0 0 2 [(0, Value.ref 4), (1, Value.int (nI (l - 1))), (2, Value.int (nI q))] [] (SH, zTs J t, L, RF p s (some s)) := by
  intro ws
  have s8 : 8 < s := by rcases hs with rfl | rfl <;> omega
  have e72 : Int32.ofNat 72 = nI 72 := rfl
  induction ws with
  | nil =>
    intro X J q hq hn h7 hJ hQ
    have z2 : (nI 0 ≤ nI (l - 1)) = True := eq_true (by rw [zle_nat (by omega) (by omega)]; omega)
    by_cases hq2 : 72 ≤ q
    · have z1 : (nI 72 ≤ nI q) = True := eq_true (by rw [zle_nat (by omega) (by omega)]; exact hq2)
      refine zBlkR (M := mX5_writeJoints) (nL := 3) (rt := (Option.none : Option Jvm.ClassFile.FieldType)) (blk := bX5_writeJoints_2) (T := [(50, bX5_writeJoints_50)]) 1 hX5_writeJoints_2 (zChks_cons hX5_writeJoints_50 zChks_nil) rfl rfl rfl (Nat.le_of_ble_eq_true rfl) (Nat.le_of_ble_eq_true rfl) ?_
      simp (implicitDefEqProofs := false) only [bX5_writeJoints_2, bX5_writeJoints_50, zRun_cons, zRun_nil, zLk, zSto, zIns, zFil, zf0, zf1, zf2, zf3, List.filter_cons, List.filter_nil, Nat.reduceAdd, Nat.reduceEqDiff, Nat.reduceLT, Nat.reduceLeDiff, Nat.reduceBEq, Nat.reduceBNe, reduceIte, if_true, if_false, Bool.false_and, Bool.true_and, Bool.and_true, Bool.and_false, Bool.not_false, Bool.not_true, Bool.false_eq_true, beq_self_eq_true, BEq.rfl, zCat1, zCat2, zCat3, zKdI, zKdL, zKdR, true_and, and_true, zSI, zSL, zSR, zu_at, and_self, and_false, false_and, lv_args, zKdZ, zKdO, zB01, zB11, Option.toList_none, Option.toList_some, List.nil_append, List.cons_append, true_or, or_true, zRow_rd, zu_rd, zo_iload_n, zo_aload_n, zo_getfield, zo_arraylength, zo_icmp_ge, zo_return_, zKd_5_2, sh_4, rf_4_2, sh_6, zKn_s, zKn_0, zFind, e72, z1, zN10, zN01, not_true_eq_false, not_false_eq_true, false_implies, true_implies, implies_true, eq_self, nI_1, nI_40, nI_7, vz0, vz1, zb1_e0, zb1_n0]
      exact hQ J zKpt_rfl hJ
    · have z1 : (nI 72 ≤ nI q) = False := eq_false (by rw [zle_nat (by omega) (by omega)]; exact hq2)
      refine zBlkR (M := mX5_writeJoints) (nL := 3) (rt := (Option.none : Option Jvm.ClassFile.FieldType)) (blk := bX5_writeJoints_2) (T := [(50, bX5_writeJoints_50)]) 1 hX5_writeJoints_2 (zChks_cons hX5_writeJoints_50 zChks_nil) rfl rfl rfl (Nat.le_of_ble_eq_true rfl) (Nat.le_of_ble_eq_true rfl) ?_
      simp (implicitDefEqProofs := false) only [bX5_writeJoints_2, bX5_writeJoints_50, zRun_cons, zRun_nil, zLk, zSto, zIns, zFil, zf0, zf1, zf2, zf3, List.filter_cons, List.filter_nil, Nat.reduceAdd, Nat.reduceEqDiff, Nat.reduceLT, Nat.reduceLeDiff, Nat.reduceBEq, Nat.reduceBNe, reduceIte, if_true, if_false, Bool.false_and, Bool.true_and, Bool.and_true, Bool.and_false, Bool.not_false, Bool.not_true, Bool.false_eq_true, beq_self_eq_true, BEq.rfl, zCat1, zCat2, zCat3, zKdI, zKdL, zKdR, true_and, and_true, zSI, zSL, zSR, zu_at, and_self, and_false, false_and, lv_args, zKdZ, zKdO, zB01, zB11, Option.toList_none, Option.toList_some, List.nil_append, List.cons_append, true_or, or_true, zRow_rd, zu_rd, zo_iload_n, zo_aload_n, zo_getfield, zo_arraylength, zo_icmp_ge, zo_return_, zKd_5_2, sh_4, rf_4_2, sh_6, zKn_s, zKn_0, zFind, e72, z1, zN10, zN01, not_true_eq_false, not_false_eq_true, false_implies, true_implies, implies_true, eq_self, nI_1, nI_40, nI_7, vz0, vz1, zb1_e0, zb1_n0]
      refine z_cV0 (M' := mX5_topRank) (R' := rX5_topRank) (i := 4) [] [] eX5_topRank k5_213 (by decide +kernel : decode cX5_writeJoints 12 = .ok (.invokevirtual 213, 3)) (Nat.le_of_ble_eq_true rfl) ⟨Nat.le_of_ble_eq_true rfl, Nat.le_of_ble_eq_true rfl, Nat.le_of_ble_eq_true rfl, Nat.le_of_ble_eq_true rfl, Nat.le_of_ble_eq_true rfl⟩ rfl rfl rfl sh_4 ?_
      refine cl_topRank (ws := []) hJ.1 trivial (by simp) ?_
      show zX w mX5_writeJoints rX5_writeJoints Q 0 0 15 [(0, Value.ref 4), (1, Value.int (nI (l - 1))), (2, Value.int (nI q))] [Value.int (nI 0)] (SH, zTs J t, L, RF p s (some s))
      refine zBlkR (M := mX5_writeJoints) (nL := 3) (rt := (Option.none : Option Jvm.ClassFile.FieldType)) (blk := bX5_writeJoints_15) (T := [(50, bX5_writeJoints_50)]) 1 hX5_writeJoints_15 (zChks_cons hX5_writeJoints_50 zChks_nil) rfl rfl rfl (Nat.le_of_ble_eq_true rfl) (Nat.le_of_ble_eq_true rfl) ?_
      simp (implicitDefEqProofs := false) only [bX5_writeJoints_15, bX5_writeJoints_50, zRun_cons, zRun_nil, zLk, zSto, zIns, zFil, zf0, zf1, zf2, zf3, List.filter_cons, List.filter_nil, Nat.reduceAdd, Nat.reduceEqDiff, Nat.reduceLT, Nat.reduceLeDiff, Nat.reduceBEq, Nat.reduceBNe, reduceIte, if_true, if_false, Bool.false_and, Bool.true_and, Bool.and_true, Bool.and_false, Bool.not_false, Bool.not_true, Bool.false_eq_true, beq_self_eq_true, BEq.rfl, zCat1, zCat2, zCat3, zKdI, zKdL, zKdR, true_and, and_true, zSI, zSL, zSR, zu_at, and_self, and_false, false_and, lv_args, zKdZ, zKdO, zB01, zB11, Option.toList_none, Option.toList_some, List.nil_append, List.cons_append, true_or, or_true, zRow_rd, zu_rd, zo_iload_n, zo_icmp_le, zo_aload_n, zo_dup, zo_getfield, zo_iconst, zo_isub, zo_putfield, zo_putfield_2, zo_putfield_3, zo_iaload, zo_ineg, zo_return_, zi_1, zKd_5_4, zTy_5_4, zKd_5_2, sh_4, zcl_1, rf_4_2, sh_6, zvi_1_72, zPutC, zKn_s, zKn_0, zFind, z2, zN10, zN01, not_true_eq_false, not_false_eq_true, false_implies, true_implies, implies_true, eq_self, nI_1, nI_40, nI_7, vz0, vz1, zb1_e0, zb1_n0]
      exact hQ J zKpt_rfl hJ
  | cons k ws ih =>
    intro X J q hq hn h7 hJ hQ
    rw [List.length_cons] at hq
    have hk := h7 k List.mem_cons_self
    have hr := rkN_lt hk.2
    have z1 : (nI 72 ≤ nI q) = False := eq_false (by rw [zle_nat (by omega) (by omega)]; omega)
    have z2 : (nI (rkN k) ≤ nI (l - 1)) = (rkN k ≤ l - 1) := zle_nat (by omega) (by omega)
    unfold fBind at hQ
    refine zBlkR (M := mX5_writeJoints) (nL := 3) (rt := (Option.none : Option Jvm.ClassFile.FieldType)) (blk := bX5_writeJoints_2) (T := [(50, bX5_writeJoints_50)]) 1 hX5_writeJoints_2 (zChks_cons hX5_writeJoints_50 zChks_nil) rfl rfl rfl (Nat.le_of_ble_eq_true rfl) (Nat.le_of_ble_eq_true rfl) ?_
    simp (implicitDefEqProofs := false) only [bX5_writeJoints_2, bX5_writeJoints_50, zRun_cons, zRun_nil, zLk, zSto, zIns, zFil, zf0, zf1, zf2, zf3, List.filter_cons, List.filter_nil, Nat.reduceAdd, Nat.reduceEqDiff, Nat.reduceLT, Nat.reduceLeDiff, Nat.reduceBEq, Nat.reduceBNe, reduceIte, if_true, if_false, Bool.false_and, Bool.true_and, Bool.and_true, Bool.and_false, Bool.not_false, Bool.not_true, Bool.false_eq_true, beq_self_eq_true, BEq.rfl, zCat1, zCat2, zCat3, zKdI, zKdL, zKdR, true_and, and_true, zSI, zSL, zSR, zu_at, and_self, and_false, false_and, lv_args, zKdZ, zKdO, zB01, zB11, Option.toList_none, Option.toList_some, List.nil_append, List.cons_append, true_or, or_true, zRow_rd, zu_rd, zo_iload_n, zo_aload_n, zo_getfield, zo_arraylength, zo_icmp_ge, zo_return_, zKd_5_2, sh_4, rf_4_2, sh_6, zKn_s, zKn_0, zFind, e72, z1, zN10, zN01, not_true_eq_false, not_false_eq_true, false_implies, true_implies, implies_true, eq_self, nI_1, nI_40, nI_7, vz0, vz1, zb1_e0, zb1_n0]
    refine z_cV0 (M' := mX5_topRank) (R' := rX5_topRank) (i := 4) [] [] eX5_topRank k5_213 (by decide +kernel : decode cX5_writeJoints 12 = .ok (.invokevirtual 213, 3)) (Nat.le_of_ble_eq_true rfl) ⟨Nat.le_of_ble_eq_true rfl, Nat.le_of_ble_eq_true rfl, Nat.le_of_ble_eq_true rfl, Nat.le_of_ble_eq_true rfl, Nat.le_of_ble_eq_true rfl⟩ rfl rfl rfl sh_4 ?_
    refine cl_topRank (ws := k :: ws) hJ.1 hJ.2.2.2.2.1 (by rw [List.length_cons]; omega) ?_
    show zX w mX5_writeJoints rX5_writeJoints Q 0 0 15 [(0, Value.ref 4), (1, Value.int (nI (l - 1))), (2, Value.int (nI q))] [Value.int (nI (rkN k))] (SH, zTs J t, L, RF p s (some s))
    by_cases hb : l ≤ rkN k
    · have hb' : (rkN k ≤ l - 1) = False := eq_false (by omega)
      rw [if_pos hb] at hQ
      have k0 : k ≠ 0 := fun e => by subst e; have : rkN 0 = 0 := rfl; omega
      have h44 : J 4 4 = nI (ws.length + 1) := hJ.1
      have e1 : nI (ws.length + 1) - 1 = nI ws.length := by rw [← nI_1, Int32.add_sub_cancel]
      have hv : vp_in (nI ws.length) 72 := zvn (by omega) (by omega)
      have cl : (nI ws.length).toNatClampNeg = ws.length := nI_clamp (by omega)
      have h6 := hJ.2.2.2.2.1.1
      have hn2 : X.2.2.1 < 64 := by
        simp only [nbk, k0, if_false] at hn; omega
      refine zBlkR (M := mX5_writeJoints) (nL := 3) (rt := (Option.none : Option Jvm.ClassFile.FieldType)) (blk := bX5_writeJoints_15) (T := [(50, bX5_writeJoints_50)]) 1 hX5_writeJoints_15 (zChks_cons hX5_writeJoints_50 zChks_nil) rfl rfl rfl (Nat.le_of_ble_eq_true rfl) (Nat.le_of_ble_eq_true rfl) ?_
      simp (implicitDefEqProofs := false) only [bX5_writeJoints_15, bX5_writeJoints_50, zRun_cons, zRun_nil, zLk, zSto, zIns, zFil, zf0, zf1, zf2, zf3, List.filter_cons, List.filter_nil, Nat.reduceAdd, Nat.reduceEqDiff, Nat.reduceLT, Nat.reduceLeDiff, Nat.reduceBEq, Nat.reduceBNe, reduceIte, if_true, if_false, Bool.false_and, Bool.true_and, Bool.and_true, Bool.and_false, Bool.not_false, Bool.not_true, Bool.false_eq_true, beq_self_eq_true, BEq.rfl, zCat1, zCat2, zCat3, zKdI, zKdL, zKdR, true_and, and_true, zSI, zSL, zSR, zu_at, and_self, and_false, false_and, lv_args, zKdZ, zKdO, zB01, zB11, Option.toList_none, Option.toList_some, List.nil_append, List.cons_append, true_or, or_true, zRow_rd, zu_rd, zo_iload_n, zo_icmp_le, zo_aload_n, zo_dup, zo_getfield, zo_iconst, zo_isub, zo_putfield, zo_putfield_2, zo_putfield_3, zo_iaload, zo_ineg, zo_return_, zi_1, zKd_5_4, zTy_5_4, zKd_5_2, sh_4, zcl_1, rf_4_2, sh_6, zvi_1_72, zPutC, zKn_s, zKn_0, zFind, zTs_12, zTs_13, zTs_14, zTs_15, zTs_16, zTs_17, zTs_o, zTs_u, z2, hb', h44, e1, hv, cl, h6, zN10, zN01, not_true_eq_false, not_false_eq_true, false_implies, true_implies, implies_true, eq_self, nI_1, nI_40, nI_7, vz0, vz1, zb1_e0, zb1_n0]
      refine z_cV0 (M' := mX5_write) (R' := rX5_write) (i := 4) [.int (-nI (cJt k))] [] eX5_write k5_207 (by decide +kernel : decode cX5_writeJoints 40 = .ok (.invokevirtual 207, 3)) (Nat.le_of_ble_eq_true rfl) ⟨Nat.le_of_ble_eq_true rfl, Nat.le_of_ble_eq_true rfl, Nat.le_of_ble_eq_true rfl, Nat.le_of_ble_eq_true rfl, Nat.le_of_ble_eq_true rfl⟩ rfl rfl rfl sh_4 ?_
      refine cl_rdWrite hs (n := X.2.2.1) hn2 (by simp [zu_at]; exact hJ.2.2.1) ?_
      refine zBlkR (M := mX5_writeJoints) (nL := 3) (rt := (Option.none : Option Jvm.ClassFile.FieldType)) (blk := bX5_writeJoints_43) (T := []) 0 hX5_writeJoints_43 zChks_nil rfl rfl rfl (Nat.le_of_ble_eq_true rfl) (Nat.le_of_ble_eq_true rfl) ?_
      simp (implicitDefEqProofs := false) only [bX5_writeJoints_43, zRun_cons, zRun_nil, zLk, zSto, zIns, zFil, zf0, zf1, zf2, zf3, List.filter_cons, List.filter_nil, Nat.reduceAdd, Nat.reduceEqDiff, Nat.reduceLT, Nat.reduceLeDiff, Nat.reduceBEq, Nat.reduceBNe, reduceIte, if_true, if_false, Bool.false_and, Bool.true_and, Bool.and_true, Bool.and_false, Bool.not_false, Bool.not_true, Bool.false_eq_true, beq_self_eq_true, BEq.rfl, zCat1, zCat2, zCat3, zKdI, zKdL, zKdR, true_and, and_true, zSI, zSL, zSR, zu_at, and_self, and_false, false_and, lv_args, zKdZ, zKdO, zB01, zB11, Option.toList_none, Option.toList_some, List.nil_append, List.cons_append, true_or, or_true, zRow_rd, zu_rd, zo_pop, zo_iinc, zo_goto, zi_1, zKn_0, nI_1, zN10, zN01, not_true_eq_false, not_false_eq_true, false_implies, true_implies, implies_true, eq_self, nI_1, nI_40, nI_7, vz0, vz1, zb1_e0, zb1_n0]
      have kA : zKpt (SFc s) J (zu (zu (zu J 4 4 (nI ws.length)) (s + 13) X.2.2.1 (-nI (cJt k))) 4 6 (nI (X.2.2.1 + 1))) := ((zKpt_rfl.u (by unfold SFc; omega)).u (by unfold SFc; omega)).u (by unfold SFc; omega)
      have hX : (fPop k X).2.2.1 = X.2.2.1 + 1 := by unfold fPop; split <;> rfl
      exact ih (fPop k X) _ (q + 1) (by omega) (by rw [hX]; simp only [nbk, k0, if_false] at hn; omega) (fun q hq => h7 q (List.mem_cons_of_mem _ hq)) (zFc_pop hs hn2 ⟨k0, hk.1, hk.2⟩ hJ) (fun J' kJ' hJ' => hQ J' (kA.trans kJ') hJ')
    · have hb' : (rkN k ≤ l - 1) = True := eq_true (by omega)
      rw [if_neg hb] at hQ
      refine zBlkR (M := mX5_writeJoints) (nL := 3) (rt := (Option.none : Option Jvm.ClassFile.FieldType)) (blk := bX5_writeJoints_15) (T := [(50, bX5_writeJoints_50)]) 1 hX5_writeJoints_15 (zChks_cons hX5_writeJoints_50 zChks_nil) rfl rfl rfl (Nat.le_of_ble_eq_true rfl) (Nat.le_of_ble_eq_true rfl) ?_
      simp (implicitDefEqProofs := false) only [bX5_writeJoints_15, bX5_writeJoints_50, zRun_cons, zRun_nil, zLk, zSto, zIns, zFil, zf0, zf1, zf2, zf3, List.filter_cons, List.filter_nil, Nat.reduceAdd, Nat.reduceEqDiff, Nat.reduceLT, Nat.reduceLeDiff, Nat.reduceBEq, Nat.reduceBNe, reduceIte, if_true, if_false, Bool.false_and, Bool.true_and, Bool.and_true, Bool.and_false, Bool.not_false, Bool.not_true, Bool.false_eq_true, beq_self_eq_true, BEq.rfl, zCat1, zCat2, zCat3, zKdI, zKdL, zKdR, true_and, and_true, zSI, zSL, zSR, zu_at, and_self, and_false, false_and, lv_args, zKdZ, zKdO, zB01, zB11, Option.toList_none, Option.toList_some, List.nil_append, List.cons_append, true_or, or_true, zRow_rd, zu_rd, zo_iload_n, zo_icmp_le, zo_aload_n, zo_dup, zo_getfield, zo_iconst, zo_isub, zo_putfield, zo_putfield_2, zo_putfield_3, zo_iaload, zo_ineg, zo_return_, zi_1, zKd_5_4, zTy_5_4, zKd_5_2, sh_4, zcl_1, rf_4_2, sh_6, zvi_1_72, zPutC, zKn_s, zKn_0, zFind, z2, hb', zN10, zN01, not_true_eq_false, not_false_eq_true, false_implies, true_implies, implies_true, eq_self, nI_1, nI_40, nI_7, vz0, vz1, zb1_e0, zb1_n0]
      exact hQ J zKpt_rfl hJ
end ZN98z
