/-! ===== THE CLASS: a plan is asked ===== -/
def oIn (x : Int32) (n : Nat) : Bool := !decide (x < 0) && !decide (nI n ≤ x)
/-- the place of a name among the first n -/
def oFnd (f : Nat → Int32) (n : Nat) (x : Int32) : Int32 := if zFst (fun k => f k == x) n < n then nI (zFst (fun k => f k == x) n) else -1
section ZP63
variable {w : zP} {Q : Option Value → zMem → Prop} {μ : zMem} {I V : Nat → Nat → Int32} {L : Nat → Nat → Int64} {p s a n q wh : Nat} {r : Option Nat} {x t ab : Int32}
theorem oIn_t (h : oIn x n = true) (hn : n < 2 ^ 31) : ∃ q, q < n ∧ x = nI q := by
  simp only [oIn, Bool.and_eq_true, Bool.not_eq_true', decide_eq_false_iff_not] at h
  obtain ⟨h1, h2⟩ := h
  have h1 : 0 ≤ x.toInt := by have := Int32.not_lt.mp h1; have := Int32.le_iff_toInt_le.mp this; simpa using this
  have h2 := Int32.lt_iff_toInt_lt.mp (Int32.not_le.mp h2)
  rw [nI_toInt hn] at h2
  refine ⟨x.toInt.toNat, by omega, ?_⟩
  apply Int32.toInt_inj.mp
  rw [nI_toInt (by omega)]
  omega
theorem oIn_q (hq : q < n) (hn : n < 2 ^ 31) : oIn (nI q) n = true := by
  have h1 : ¬ nI q < 0 := nI_nn (by omega)
  have h2 : ¬ nI n ≤ nI q := by rw [zle_nat (by omega) (by omega)]; omega
  simp [oIn, h1, h2]
set_option maxRecDepth 20000 in
theorem cl_hasPlace (ha : zPc a) (h0 : I a 0 = nI n) (hQ : Q (some (.int (zb1 (oIn x n)))) (SH, I, L, RF p s r)) : zXM w mX4_hasPlace rX4_hasPlace [.ref a, .int x] (SH, I, L, RF p s r) Q := by
  unfold zXM
  refine zBlkR (M := mX4_hasPlace) (nL := 2) (rt := (Option.some .boolean)) (blk := bX4_hasPlace_0) (T := [(16, bX4_hasPlace_16), (17, bX4_hasPlace_17)]) 1 hX4_hasPlace_0 (zChks_cons hX4_hasPlace_16 (zChks_cons hX4_hasPlace_17 zChks_nil)) rfl rfl rfl (Nat.le_of_ble_eq_true rfl) (Nat.le_of_ble_eq_true rfl) ?_
  simp only [bX4_hasPlace_0, bX4_hasPlace_16, bX4_hasPlace_17, zRun_cons, zRun_nil, zLk, zSto, zIns, zFil, zf0, zf1, zf2, zf3, List.filter_cons, List.filter_nil, Nat.reduceAdd, Nat.reduceEqDiff, Nat.reduceLT, Nat.reduceLeDiff, Nat.reduceBEq, Nat.reduceBNe, reduceIte, if_true, if_false, Bool.false_and, Bool.true_and, Bool.and_true, Bool.and_false, Bool.not_false, Bool.not_true, Bool.false_eq_true, beq_self_eq_true, BEq.rfl, zCat1, zCat2, zCat3, zKdI, zKdL, zKdR, true_and, and_true, zSI, zSL, zSR, zu_at, and_self, and_false, false_and, lv_args, zKdZ, zKdO, zB01, zB11, Option.toList_none, Option.toList_some, List.nil_append, List.cons_append, true_or, or_true, zRow_rd, zu_rd, zo_iload_n, zo_if_lt, zo_aload_n, zo_getfield, zo_icmp_ge, zo_iconst, zo_goto, zo_ireturn, zi_1, zi_0, zKd_4_0, sh_55, sh_71, zcl_1, zcl_0, zRt, zKn_s, zKn_0, zFind, (psh_0 ha), (psh_1 ha), (psh_2 ha), (psh_3 ha), (psh_4 ha), (psh_5 ha), (psh_6 ha), (psh_7 ha), (psh_8 ha), (psh_9 ha), (psh_10 ha), (psh_11 ha), (psh_12 ha), (psh_13 ha), (psh_14 ha), (psh_15 ha), (prf_1 ha), (prf_2 ha), (prf_3 ha), (prf_4 ha), (prf_6 ha), (prf_7 ha), (prf_8 ha), (prf_10 ha), (prf_11 ha), (prf_12 ha), (prf_13 ha), (prf_15 ha), (prf_17 ha), (prf_18 ha), (prf_19 ha), Nat.add_left_cancel_iff, Nat.left_eq_add, Nat.add_eq_left, h0, zN10, zN01, not_true_eq_false, not_false_eq_true, false_implies, true_implies, implies_true, eq_self, nI_1, nI_40, nI_7, vz0, vz1, zb1_e0, zb1_n0]
  unfold oIn at hQ
  by_cases h1 : x < 0 <;> by_cases h2 : nI n ≤ x <;> simp [zb1, h1, h2] at hQ ⊢ <;> exact hQ
set_option maxRecDepth 20000 in
theorem cl_hasSign (ha : zPc a) (h0 : I a 14 = nI n) (hQ : Q (some (.int (zb1 (oIn x n)))) (SH, I, L, RF p s r)) : zXM w mX4_hasSign rX4_hasSign [.ref a, .int x] (SH, I, L, RF p s r) Q := by
  unfold zXM
  refine zBlkR (M := mX4_hasSign) (nL := 2) (rt := (Option.some .boolean)) (blk := bX4_hasSign_0) (T := [(16, bX4_hasSign_16), (17, bX4_hasSign_17)]) 1 hX4_hasSign_0 (zChks_cons hX4_hasSign_16 (zChks_cons hX4_hasSign_17 zChks_nil)) rfl rfl rfl (Nat.le_of_ble_eq_true rfl) (Nat.le_of_ble_eq_true rfl) ?_
  simp only [bX4_hasSign_0, bX4_hasSign_16, bX4_hasSign_17, zRun_cons, zRun_nil, zLk, zSto, zIns, zFil, zf0, zf1, zf2, zf3, List.filter_cons, List.filter_nil, Nat.reduceAdd, Nat.reduceEqDiff, Nat.reduceLT, Nat.reduceLeDiff, Nat.reduceBEq, Nat.reduceBNe, reduceIte, if_true, if_false, Bool.false_and, Bool.true_and, Bool.and_true, Bool.and_false, Bool.not_false, Bool.not_true, Bool.false_eq_true, beq_self_eq_true, BEq.rfl, zCat1, zCat2, zCat3, zKdI, zKdL, zKdR, true_and, and_true, zSI, zSL, zSR, zu_at, and_self, and_false, false_and, lv_args, zKdZ, zKdO, zB01, zB11, Option.toList_none, Option.toList_some, List.nil_append, List.cons_append, true_or, or_true, zRow_rd, zu_rd, zo_iload_n, zo_if_lt, zo_aload_n, zo_getfield, zo_icmp_ge, zo_iconst, zo_goto, zo_ireturn, zi_1, zi_0, zKd_4_14, sh_55, sh_71, zcl_1, zcl_0, zRt, zKn_s, zKn_0, zFind, (psh_0 ha), (psh_1 ha), (psh_2 ha), (psh_3 ha), (psh_4 ha), (psh_5 ha), (psh_6 ha), (psh_7 ha), (psh_8 ha), (psh_9 ha), (psh_10 ha), (psh_11 ha), (psh_12 ha), (psh_13 ha), (psh_14 ha), (psh_15 ha), (prf_1 ha), (prf_2 ha), (prf_3 ha), (prf_4 ha), (prf_6 ha), (prf_7 ha), (prf_8 ha), (prf_10 ha), (prf_11 ha), (prf_12 ha), (prf_13 ha), (prf_15 ha), (prf_17 ha), (prf_18 ha), (prf_19 ha), Nat.add_left_cancel_iff, Nat.left_eq_add, Nat.add_eq_left, h0, zN10, zN01, not_true_eq_false, not_false_eq_true, false_implies, true_implies, implies_true, eq_self, nI_1, nI_40, nI_7, vz0, vz1, zb1_e0, zb1_n0]
  unfold oIn at hQ
  by_cases h1 : x < 0 <;> by_cases h2 : nI n ≤ x <;> simp [zb1, h1, h2] at hQ ⊢ <;> exact hQ
set_option maxRecDepth 20000 in
theorem cl_hasLaw (ha : zPc a) (hwh : wh < 3) (hQ : Q (some (.int (zb1 (!decide (I (a + 14) wh = -1))))) (SH, I, L, RF p s r)) : zXM w mX4_hasLaw rX4_hasLaw [.ref a, .int (nI wh)] (SH, I, L, RF p s r) Q := by
  unfold zXM
  have h1 : ¬ nI wh < 0 := nI_nn (by omega)
  have h2 : ¬ (3 : Int32) ≤ nI wh := by rw [show (3 : Int32) = nI 3 from rfl, zle_nat (by omega) (by omega)]; omega
  have hv : vp_in (nI wh) 3 := zvn hwh (by omega)
  refine zBlkR (M := mX4_hasLaw) (nL := 2) (rt := (Option.some .boolean)) (blk := bX4_hasLaw_0) (T := [(23, bX4_hasLaw_23), (24, bX4_hasLaw_24)]) 1 hX4_hasLaw_0 (zChks_cons hX4_hasLaw_23 (zChks_cons hX4_hasLaw_24 zChks_nil)) rfl rfl rfl (Nat.le_of_ble_eq_true rfl) (Nat.le_of_ble_eq_true rfl) ?_
  simp only [bX4_hasLaw_0, bX4_hasLaw_23, bX4_hasLaw_24, zRun_cons, zRun_nil, zLk, zSto, zIns, zFil, zf0, zf1, zf2, zf3, List.filter_cons, List.filter_nil, Nat.reduceAdd, Nat.reduceEqDiff, Nat.reduceLT, Nat.reduceLeDiff, Nat.reduceBEq, Nat.reduceBNe, reduceIte, if_true, if_false, Bool.false_and, Bool.true_and, Bool.and_true, Bool.and_false, Bool.not_false, Bool.not_true, Bool.false_eq_true, beq_self_eq_true, BEq.rfl, zCat1, zCat2, zCat3, zKdI, zKdL, zKdR, true_and, and_true, zSI, zSL, zSR, zu_at, and_self, and_false, false_and, lv_args, zKdZ, zKdO, zB01, zB11, Option.toList_none, Option.toList_some, List.nil_append, List.cons_append, true_or, or_true, zRow_rd, zu_rd, zo_iload_n, zo_if_lt, zo_iconst, zo_icmp_ge, zo_aload_n, zo_getfield, zo_iaload, zo_icmp_eq, zo_goto, zo_ireturn, zi_3, zi_m1, zi_1, zi_0, zKd_4_18, zcl_3, sh_55, rf_55_18, sh_69, sh_71, rf_71_18, sh_85, zcl_1, zcl_0, zvi_1_3, zvi_0_3, zRt, zKn_s, zKn_0, zFind, (psh_0 ha), (psh_1 ha), (psh_2 ha), (psh_3 ha), (psh_4 ha), (psh_5 ha), (psh_6 ha), (psh_7 ha), (psh_8 ha), (psh_9 ha), (psh_10 ha), (psh_11 ha), (psh_12 ha), (psh_13 ha), (psh_14 ha), (psh_15 ha), (prf_1 ha), (prf_2 ha), (prf_3 ha), (prf_4 ha), (prf_6 ha), (prf_7 ha), (prf_8 ha), (prf_10 ha), (prf_11 ha), (prf_12 ha), (prf_13 ha), (prf_15 ha), (prf_17 ha), (prf_18 ha), (prf_19 ha), Nat.add_left_cancel_iff, Nat.left_eq_add, Nat.add_eq_left, h1, h2, hv, nI_clamp (n := wh) (by omega), zN10, zN01, not_true_eq_false, not_false_eq_true, false_implies, true_implies, implies_true, eq_self, nI_1, nI_40, nI_7, vz0, vz1, zb1_e0, zb1_n0]
  by_cases h3 : I (a + 14) wh = -1 <;> simp [zb1, h3] at hQ ⊢ <;> exact hQ
set_option maxRecDepth 20000 in
theorem cl_placeNamed (ha : zPc a) (h0 : I a 0 = nI n) (hn : n ≤ 5) (hQ : Q (some (.int (oFnd (I (a + 1)) n x))) (SH, I, L, RF p s r)) : zXM w mX4_placeNamed rX4_placeNamed [.ref a, .int x] (SH, I, L, RF p s r) Q := by
  unfold zXM
  refine zBlkR (M := mX4_placeNamed) (nL := 3) (rt := (Option.some .int)) (blk := bX4_placeNamed_0) (T := []) 0 hX4_placeNamed_0 zChks_nil rfl rfl rfl (Nat.le_of_ble_eq_true rfl) (Nat.le_of_ble_eq_true rfl) ?_
  simp only [bX4_placeNamed_0, zRun_cons, zRun_nil, zLk, zSto, zIns, zFil, zf0, zf1, zf2, zf3, List.filter_cons, List.filter_nil, Nat.reduceAdd, Nat.reduceEqDiff, Nat.reduceLT, Nat.reduceLeDiff, Nat.reduceBEq, Nat.reduceBNe, reduceIte, if_true, if_false, Bool.false_and, Bool.true_and, Bool.and_true, Bool.and_false, Bool.not_false, Bool.not_true, Bool.false_eq_true, beq_self_eq_true, BEq.rfl, zCat1, zCat2, zCat3, zKdI, zKdL, zKdR, true_and, and_true, zSI, zSL, zSR, zu_at, and_self, and_false, false_and, lv_args, zKdZ, zKdO, zB01, zB11, Option.toList_none, Option.toList_some, List.nil_append, List.cons_append, true_or, or_true, zRow_rd, zu_rd, zo_iconst, zo_istore_n, zi_0, zcl_0, zKn_0, zN10, zN01, not_true_eq_false, not_false_eq_true, false_implies, true_implies, implies_true, eq_self, nI_1, nI_40, nI_7, vz0, vz1, zb1_e0, zb1_n0]
  refine zLoop (n := n) (P := fun c => (∀ d, d < c → (I (a + 1) d == x) = false) → zX w mX4_placeNamed rX4_placeNamed Q 0 0 2 [(0, Value.ref a), (1, Value.int x), (2, Value.int (nI c))] [] (SH, I, L, RF p s r)) (fun c hc ih => ?_) 0 (Nat.zero_le _) (fun d hd => absurd hd (by omega))
  intro hno
  refine zBlkR (M := mX4_placeNamed) (nL := 3) (rt := (Option.some .int)) (blk := bX4_placeNamed_2) (T := [(22, bX4_placeNamed_22), (28, bX4_placeNamed_28)]) 1 hX4_placeNamed_2 (zChks_cons hX4_placeNamed_22 (zChks_cons hX4_placeNamed_28 zChks_nil)) rfl rfl rfl (Nat.le_of_ble_eq_true rfl) (Nat.le_of_ble_eq_true rfl) ?_
  simp only [bX4_placeNamed_2, bX4_placeNamed_22, bX4_placeNamed_28, zRun_cons, zRun_nil, zLk, zSto, zIns, zFil, zf0, zf1, zf2, zf3, List.filter_cons, List.filter_nil, Nat.reduceAdd, Nat.reduceEqDiff, Nat.reduceLT, Nat.reduceLeDiff, Nat.reduceBEq, Nat.reduceBNe, reduceIte, if_true, if_false, Bool.false_and, Bool.true_and, Bool.and_true, Bool.and_false, Bool.not_false, Bool.not_true, Bool.false_eq_true, beq_self_eq_true, BEq.rfl, zCat1, zCat2, zCat3, zKdI, zKdL, zKdR, true_and, and_true, zSI, zSL, zSR, zu_at, and_self, and_false, false_and, lv_args, zKdZ, zKdO, zB01, zB11, Option.toList_none, Option.toList_some, List.nil_append, List.cons_append, true_or, or_true, zRow_rd, zu_rd, zo_iload_n, zo_aload_n, zo_getfield, zo_icmp_ge, zo_iaload, zo_icmp_ne, zo_ireturn, zo_iinc, zo_goto, zo_iconst, zi_1, zi_m1, zKd_4_0, zKd_4_1, sh_55, sh_71, rf_55_1, sh_56, rf_71_1, sh_72, zRt, zKn_s, zKn_0, zFind, (psh_0 ha), (psh_1 ha), (psh_2 ha), (psh_3 ha), (psh_4 ha), (psh_5 ha), (psh_6 ha), (psh_7 ha), (psh_8 ha), (psh_9 ha), (psh_10 ha), (psh_11 ha), (psh_12 ha), (psh_13 ha), (psh_14 ha), (psh_15 ha), (prf_1 ha), (prf_2 ha), (prf_3 ha), (prf_4 ha), (prf_6 ha), (prf_7 ha), (prf_8 ha), (prf_10 ha), (prf_11 ha), (prf_12 ha), (prf_13 ha), (prf_15 ha), (prf_17 ha), (prf_18 ha), (prf_19 ha), Nat.add_left_cancel_iff, Nat.left_eq_add, Nat.add_eq_left, h0, zle_nat (a := n) (b := c) (by omega) (by omega), nI_clamp (n := c) (by omega), zN10, zN01, not_true_eq_false, not_false_eq_true, false_implies, true_implies, implies_true, eq_self, nI_1, nI_40, nI_7, vz0, vz1, zb1_e0, zb1_n0]
  refine ⟨fun h => ?_, fun h => ⟨zvn (by omega) (by omega), fun h1 => ?_, fun h1 => ?_⟩⟩
  · rw [oFnd, zFst_none (fun d hd => hno d (by omega)), if_neg (by omega)] at hQ
    exact hQ
  · refine ih (by omega) (fun d hd => ?_)
    by_cases e : d = c
    · subst e; simpa using h1
    · exact hno d (by omega)
  · rw [oFnd, zFst_eq (c := c) (by omega) (by simpa using h1) hno, if_pos (by omega)] at hQ
    exact hQ
set_option maxRecDepth 20000 in
theorem cl_signNamed (ha : zPc a) (h0 : I a 14 = nI n) (hn : n ≤ 4) (hQ : Q (some (.int (oFnd (I (a + 12)) n x))) (SH, I, L, RF p s r)) : zXM w mX4_signNamed rX4_signNamed [.ref a, .int x] (SH, I, L, RF p s r) Q := by
  unfold zXM
  refine zBlkR (M := mX4_signNamed) (nL := 3) (rt := (Option.some .int)) (blk := bX4_signNamed_0) (T := []) 0 hX4_signNamed_0 zChks_nil rfl rfl rfl (Nat.le_of_ble_eq_true rfl) (Nat.le_of_ble_eq_true rfl) ?_
  simp only [bX4_signNamed_0, zRun_cons, zRun_nil, zLk, zSto, zIns, zFil, zf0, zf1, zf2, zf3, List.filter_cons, List.filter_nil, Nat.reduceAdd, Nat.reduceEqDiff, Nat.reduceLT, Nat.reduceLeDiff, Nat.reduceBEq, Nat.reduceBNe, reduceIte, if_true, if_false, Bool.false_and, Bool.true_and, Bool.and_true, Bool.and_false, Bool.not_false, Bool.not_true, Bool.false_eq_true, beq_self_eq_true, BEq.rfl, zCat1, zCat2, zCat3, zKdI, zKdL, zKdR, true_and, and_true, zSI, zSL, zSR, zu_at, and_self, and_false, false_and, lv_args, zKdZ, zKdO, zB01, zB11, Option.toList_none, Option.toList_some, List.nil_append, List.cons_append, true_or, or_true, zRow_rd, zu_rd, zo_iconst, zo_istore_n, zi_0, zcl_0, zKn_0, zN10, zN01, not_true_eq_false, not_false_eq_true, false_implies, true_implies, implies_true, eq_self, nI_1, nI_40, nI_7, vz0, vz1, zb1_e0, zb1_n0]
  refine zLoop (n := n) (P := fun c => (∀ d, d < c → (I (a + 12) d == x) = false) → zX w mX4_signNamed rX4_signNamed Q 0 0 2 [(0, Value.ref a), (1, Value.int x), (2, Value.int (nI c))] [] (SH, I, L, RF p s r)) (fun c hc ih => ?_) 0 (Nat.zero_le _) (fun d hd => absurd hd (by omega))
  intro hno
  refine zBlkR (M := mX4_signNamed) (nL := 3) (rt := (Option.some .int)) (blk := bX4_signNamed_2) (T := [(22, bX4_signNamed_22), (28, bX4_signNamed_28)]) 1 hX4_signNamed_2 (zChks_cons hX4_signNamed_22 (zChks_cons hX4_signNamed_28 zChks_nil)) rfl rfl rfl (Nat.le_of_ble_eq_true rfl) (Nat.le_of_ble_eq_true rfl) ?_
  simp only [bX4_signNamed_2, bX4_signNamed_22, bX4_signNamed_28, zRun_cons, zRun_nil, zLk, zSto, zIns, zFil, zf0, zf1, zf2, zf3, List.filter_cons, List.filter_nil, Nat.reduceAdd, Nat.reduceEqDiff, Nat.reduceLT, Nat.reduceLeDiff, Nat.reduceBEq, Nat.reduceBNe, reduceIte, if_true, if_false, Bool.false_and, Bool.true_and, Bool.and_true, Bool.and_false, Bool.not_false, Bool.not_true, Bool.false_eq_true, beq_self_eq_true, BEq.rfl, zCat1, zCat2, zCat3, zKdI, zKdL, zKdR, true_and, and_true, zSI, zSL, zSR, zu_at, and_self, and_false, false_and, lv_args, zKdZ, zKdO, zB01, zB11, Option.toList_none, Option.toList_some, List.nil_append, List.cons_append, true_or, or_true, zRow_rd, zu_rd, zo_iload_n, zo_aload_n, zo_getfield, zo_icmp_ge, zo_iaload, zo_icmp_ne, zo_ireturn, zo_iinc, zo_goto, zo_iconst, zi_1, zi_m1, zKd_4_14, zKd_4_15, sh_55, sh_71, rf_55_15, sh_67, rf_71_15, sh_83, zRt, zKn_s, zKn_0, zFind, (psh_0 ha), (psh_1 ha), (psh_2 ha), (psh_3 ha), (psh_4 ha), (psh_5 ha), (psh_6 ha), (psh_7 ha), (psh_8 ha), (psh_9 ha), (psh_10 ha), (psh_11 ha), (psh_12 ha), (psh_13 ha), (psh_14 ha), (psh_15 ha), (prf_1 ha), (prf_2 ha), (prf_3 ha), (prf_4 ha), (prf_6 ha), (prf_7 ha), (prf_8 ha), (prf_10 ha), (prf_11 ha), (prf_12 ha), (prf_13 ha), (prf_15 ha), (prf_17 ha), (prf_18 ha), (prf_19 ha), Nat.add_left_cancel_iff, Nat.left_eq_add, Nat.add_eq_left, h0, zle_nat (a := n) (b := c) (by omega) (by omega), nI_clamp (n := c) (by omega), zN10, zN01, not_true_eq_false, not_false_eq_true, false_implies, true_implies, implies_true, eq_self, nI_1, nI_40, nI_7, vz0, vz1, zb1_e0, zb1_n0]
  refine ⟨fun h => ?_, fun h => ⟨zvn (by omega) (by omega), fun h1 => ?_, fun h1 => ?_⟩⟩
  · rw [oFnd, zFst_none (fun d hd => hno d (by omega)), if_neg (by omega)] at hQ
    exact hQ
  · refine ih (by omega) (fun d hd => ?_)
    by_cases e : d = c
    · subst e; simpa using h1
    · exact hno d (by omega)
  · rw [oFnd, zFst_eq (c := c) (by omega) (by simpa using h1) hno, if_pos (by omega)] at hQ
    exact hQ
set_option maxRecDepth 20000 in
theorem cl_isFlooded (ha : zPc a) (h0 : I a 0 = nI n) (hn : n ≤ 5) (hq : q < n) (hQ : Q (some (.int (zb1 (!decide (I (a + 4) q = -1) && !decide (t < I (a + 4) q))))) (SH, I, L, RF p s r)) : zXM w mX4_isFlooded rX4_isFlooded [.ref a, .int (nI q), .int t] (SH, I, L, RF p s r) Q := by
  unfold zXM
  refine zBlkR (M := mX4_isFlooded) (nL := 3) (rt := (Option.some .boolean)) (blk := bX4_isFlooded_0) (T := []) 0 hX4_isFlooded_0 zChks_nil rfl rfl rfl (Nat.le_of_ble_eq_true rfl) (Nat.le_of_ble_eq_true rfl) ?_
  simp only [bX4_isFlooded_0, zRun_cons, zRun_nil, zLk, zSto, zIns, zFil, zf0, zf1, zf2, zf3, List.filter_cons, List.filter_nil, Nat.reduceAdd, Nat.reduceEqDiff, Nat.reduceLT, Nat.reduceLeDiff, Nat.reduceBEq, Nat.reduceBNe, reduceIte, if_true, if_false, Bool.false_and, Bool.true_and, Bool.and_true, Bool.and_false, Bool.not_false, Bool.not_true, Bool.false_eq_true, beq_self_eq_true, BEq.rfl, zCat1, zCat2, zCat3, zKdI, zKdL, zKdR, true_and, and_true, zSI, zSL, zSR, zu_at, and_self, and_false, false_and, lv_args, zKdZ, zKdO, zB01, zB11, Option.toList_none, Option.toList_some, List.nil_append, List.cons_append, true_or, or_true, zRow_rd, zu_rd, zo_aload_n, zo_iload_n, zKn_0, zN10, zN01, not_true_eq_false, not_false_eq_true, false_implies, true_implies, implies_true, eq_self, nI_1, nI_40, nI_7, vz0, vz1, zb1_e0, zb1_n0]
  refine z_cV0 (M' := mX4_hasPlace) (R' := rX4_hasPlace) (i := a) [.int (nI q)] [] eX4_hasPlace k4_94 (by decide +kernel : decode cX4_isFlooded 2 = .ok (.invokevirtual 94, 3)) (Nat.le_of_ble_eq_true rfl) ⟨Nat.le_of_ble_eq_true rfl, Nat.le_of_ble_eq_true rfl, Nat.le_of_ble_eq_true rfl, Nat.le_of_ble_eq_true rfl, Nat.le_of_ble_eq_true rfl⟩ rfl rfl rfl (psh_0 ha) ?_
  refine cl_hasPlace ha h0 ?_
  rw [oIn_q hq (by omega)]
  have hv : vp_in (nI q) 5 := zvn (by omega) (by omega)
  refine zBlkR (M := mX4_isFlooded) (nL := 3) (rt := (Option.some .boolean)) (blk := bX4_isFlooded_5) (T := [(32, bX4_isFlooded_32), (33, bX4_isFlooded_33)]) 1 hX4_isFlooded_5 (zChks_cons hX4_isFlooded_32 (zChks_cons hX4_isFlooded_33 zChks_nil)) rfl rfl rfl (Nat.le_of_ble_eq_true rfl) (Nat.le_of_ble_eq_true rfl) ?_
  simp only [bX4_isFlooded_5, bX4_isFlooded_32, bX4_isFlooded_33, zRun_cons, zRun_nil, zLk, zSto, zIns, zFil, zf0, zf1, zf2, zf3, List.filter_cons, List.filter_nil, Nat.reduceAdd, Nat.reduceEqDiff, Nat.reduceLT, Nat.reduceLeDiff, Nat.reduceBEq, Nat.reduceBNe, reduceIte, if_true, if_false, Bool.false_and, Bool.true_and, Bool.and_true, Bool.and_false, Bool.not_false, Bool.not_true, Bool.false_eq_true, beq_self_eq_true, BEq.rfl, zCat1, zCat2, zCat3, zKdI, zKdL, zKdR, true_and, and_true, zSI, zSL, zSR, zu_at, and_self, and_false, false_and, lv_args, zKdZ, zKdO, zB01, zB11, Option.toList_none, Option.toList_some, List.nil_append, List.cons_append, true_or, or_true, zRow_rd, zu_rd, zo_if_eq, zo_aload_n, zo_getfield, zo_iload_n, zo_iaload, zo_iconst, zo_icmp_eq, zo_icmp_gt, zo_goto, zo_ireturn, zi_m1, zi_1, zi_0, zKd_4_4, sh_55, rf_55_4, sh_59, sh_71, rf_71_4, sh_75, zcl_1, zcl_0, zvi_1_5, zvi_0_5, zRt, zKn_s, zKn_0, zFind, (psh_0 ha), (psh_1 ha), (psh_2 ha), (psh_3 ha), (psh_4 ha), (psh_5 ha), (psh_6 ha), (psh_7 ha), (psh_8 ha), (psh_9 ha), (psh_10 ha), (psh_11 ha), (psh_12 ha), (psh_13 ha), (psh_14 ha), (psh_15 ha), (prf_1 ha), (prf_2 ha), (prf_3 ha), (prf_4 ha), (prf_6 ha), (prf_7 ha), (prf_8 ha), (prf_10 ha), (prf_11 ha), (prf_12 ha), (prf_13 ha), (prf_15 ha), (prf_17 ha), (prf_18 ha), (prf_19 ha), Nat.add_left_cancel_iff, Nat.left_eq_add, Nat.add_eq_left, hv, zb1_t, nI_clamp (n := q) (by omega), zN10, zN01, not_true_eq_false, not_false_eq_true, false_implies, true_implies, implies_true, eq_self, nI_1, nI_40, nI_7, vz0, vz1, zb1_e0, zb1_n0]
  by_cases h1 : I (a + 4) q = -1 <;> by_cases h2 : t < I (a + 4) q <;> simp [zb1, h1, h2] at hQ ⊢ <;> exact hQ
theorem zAny_t {P : Nat → Bool} {c : Nat} (h : P c = true) : ∀ m, c < m → zAny P m = true
  | 0, hm => absurd hm (by omega)
  | m + 1, hm => by
    rw [zAny]
    by_cases e : c = m
    · subst e; rw [h, Bool.or_true]
    · rw [zAny_t h m (by omega)]; rfl
set_option maxRecDepth 20000 in
theorem cl_hasBand (ha : zPc a) (h0 : I a 9 = nI n) (hn : n ≤ 2) (hQ : Q (some (.int (zb1 (zAny (oMusP (I (a + 8)) (I (a + 9)) (I (a + 10)) x t) n)))) (SH, I, L, RF p s r)) : zXM w mX4_hasBand rX4_hasBand [.ref a, .int x, .int t] (SH, I, L, RF p s r) Q := by
  unfold zXM
  refine zBlkR (M := mX4_hasBand) (nL := 4) (rt := (Option.some .boolean)) (blk := bX4_hasBand_0) (T := []) 0 hX4_hasBand_0 zChks_nil rfl rfl rfl (Nat.le_of_ble_eq_true rfl) (Nat.le_of_ble_eq_true rfl) ?_
  simp only [bX4_hasBand_0, zRun_cons, zRun_nil, zLk, zSto, zIns, zFil, zf0, zf1, zf2, zf3, List.filter_cons, List.filter_nil, Nat.reduceAdd, Nat.reduceEqDiff, Nat.reduceLT, Nat.reduceLeDiff, Nat.reduceBEq, Nat.reduceBNe, reduceIte, if_true, if_false, Bool.false_and, Bool.true_and, Bool.and_true, Bool.and_false, Bool.not_false, Bool.not_true, Bool.false_eq_true, beq_self_eq_true, BEq.rfl, zCat1, zCat2, zCat3, zKdI, zKdL, zKdR, true_and, and_true, zSI, zSL, zSR, zu_at, and_self, and_false, false_and, lv_args, zKdZ, zKdO, zB01, zB11, Option.toList_none, Option.toList_some, List.nil_append, List.cons_append, true_or, or_true, zRow_rd, zu_rd, zo_iconst, zo_istore_n, zi_0, zcl_0, zKn_0, zN10, zN01, not_true_eq_false, not_false_eq_true, false_implies, true_implies, implies_true, eq_self, nI_1, nI_40, nI_7, vz0, vz1, zb1_e0, zb1_n0]
  refine zLoop (n := n) (P := fun c => zAny (oMusP (I (a + 8)) (I (a + 9)) (I (a + 10)) x t) c = false → zX w mX4_hasBand rX4_hasBand Q 0 0 2 [(0, Value.ref a), (1, Value.int x), (2, Value.int t), (3, Value.int (nI c))] [] (SH, I, L, RF p s r)) (fun c hc ih => ?_) 0 (Nat.zero_le _) rfl
  intro hz
  have hnx : ¬ oMusP (I (a + 8)) (I (a + 9)) (I (a + 10)) x t c = true → zAny (oMusP (I (a + 8)) (I (a + 9)) (I (a + 10)) x t) (c + 1) = false := fun h => by rw [zAny, hz]; simpa using h
  refine zBlkR (M := mX4_hasBand) (nL := 4) (rt := (Option.some .boolean)) (blk := bX4_hasBand_2) (T := [(42, bX4_hasBand_42), (48, bX4_hasBand_48)]) 1 hX4_hasBand_2 (zChks_cons hX4_hasBand_42 (zChks_cons hX4_hasBand_48 zChks_nil)) rfl rfl rfl (Nat.le_of_ble_eq_true rfl) (Nat.le_of_ble_eq_true rfl) ?_
  simp only [bX4_hasBand_2, bX4_hasBand_42, bX4_hasBand_48, zRun_cons, zRun_nil, zLk, zSto, zIns, zFil, zf0, zf1, zf2, zf3, List.filter_cons, List.filter_nil, Nat.reduceAdd, Nat.reduceEqDiff, Nat.reduceLT, Nat.reduceLeDiff, Nat.reduceBEq, Nat.reduceBNe, reduceIte, if_true, if_false, Bool.false_and, Bool.true_and, Bool.and_true, Bool.and_false, Bool.not_false, Bool.not_true, Bool.false_eq_true, beq_self_eq_true, BEq.rfl, zCat1, zCat2, zCat3, zKdI, zKdL, zKdR, true_and, and_true, zSI, zSL, zSR, zu_at, and_self, and_false, false_and, lv_args, zKdZ, zKdO, zB01, zB11, Option.toList_none, Option.toList_some, List.nil_append, List.cons_append, true_or, or_true, zRow_rd, zu_rd, zo_iload_n, zo_aload_n, zo_getfield, zo_icmp_ge, zo_iaload, zo_icmp_ne, zo_icmp_gt, zo_iconst, zo_ireturn, zo_iinc, zo_goto, zi_1, zi_0, zKd_4_9, zKd_4_10, zKd_4_11, zKd_4_12, sh_55, sh_71, rf_55_10, sh_63, rf_71_10, sh_79, rf_55_11, sh_64, rf_71_11, sh_80, rf_55_12, sh_65, rf_71_12, sh_81, zcl_1, zcl_0, zvi_1_2, zvi_0_2, zRt, zKn_s, zKn_0, zFind, (psh_0 ha), (psh_1 ha), (psh_2 ha), (psh_3 ha), (psh_4 ha), (psh_5 ha), (psh_6 ha), (psh_7 ha), (psh_8 ha), (psh_9 ha), (psh_10 ha), (psh_11 ha), (psh_12 ha), (psh_13 ha), (psh_14 ha), (psh_15 ha), (prf_1 ha), (prf_2 ha), (prf_3 ha), (prf_4 ha), (prf_6 ha), (prf_7 ha), (prf_8 ha), (prf_10 ha), (prf_11 ha), (prf_12 ha), (prf_13 ha), (prf_15 ha), (prf_17 ha), (prf_18 ha), (prf_19 ha), Nat.add_left_cancel_iff, Nat.left_eq_add, Nat.add_eq_left, h0, zle_nat (a := n) (b := c) (by omega) (by omega), nI_clamp (n := c) (by omega), zN10, zN01, not_true_eq_false, not_false_eq_true, false_implies, true_implies, implies_true, eq_self, nI_1, nI_40, nI_7, vz0, vz1, zb1_e0, zb1_n0]
  refine ⟨fun h => ?_, fun h => ?_⟩
  · have : c = n := by omega
    subst this
    rw [hz] at hQ
    exact hQ
  have hv : vp_in (nI c) 2 := zvn (by omega) (by omega)
  simp only [hv, true_and]
  refine ⟨fun h1 => ih (by omega) (hnx ?_), fun h1 => ⟨fun h2 => ih (by omega) (hnx ?_), fun h2 => ⟨fun h3 => ih (by omega) (hnx ?_), fun h3 => ?_⟩⟩⟩
  · simp [oMusP, h1]
  · simp [oMusP, h2]
  · simp [oMusP, h3]
  · rw [zAny_t (c := c) (by simp [oMusP, h1, h2, h3]) n (by omega)] at hQ
    exact hQ
theorem nI_clampI {x : Int32} {m : Nat} (h : x = nI m) (hm : m < 2 ^ 31) : nI x.toNatClampNeg = x := by rw [h, nI_clamp hm]
set_option maxRecDepth 20000 in
theorem cl_comersOn (ha : zPc a) (h0 : I a 5 = nI n) (hn : n ≤ 16) (hg : ∀ k, k < n → ∃ m, m ≤ 20 ∧ I (a + 6) k = nI m) (hQ : Q (some (.int (nI (oComers (I (a + 5)) (I (a + 6)) ab t n)))) (SH, I, L, RF p s r)) : zXM w mX4_comersOn rX4_comersOn [.ref a, .int t, .int ab] (SH, I, L, RF p s r) Q := by
  unfold zXM
  refine zBlkR (M := mX4_comersOn) (nL := 5) (rt := (Option.some .int)) (blk := bX4_comersOn_0) (T := []) 0 hX4_comersOn_0 zChks_nil rfl rfl rfl (Nat.le_of_ble_eq_true rfl) (Nat.le_of_ble_eq_true rfl) ?_
  simp only [bX4_comersOn_0, zRun_cons, zRun_nil, zLk, zSto, zIns, zFil, zf0, zf1, zf2, zf3, List.filter_cons, List.filter_nil, Nat.reduceAdd, Nat.reduceEqDiff, Nat.reduceLT, Nat.reduceLeDiff, Nat.reduceBEq, Nat.reduceBNe, reduceIte, if_true, if_false, Bool.false_and, Bool.true_and, Bool.and_true, Bool.and_false, Bool.not_false, Bool.not_true, Bool.false_eq_true, beq_self_eq_true, BEq.rfl, zCat1, zCat2, zCat3, zKdI, zKdL, zKdR, true_and, and_true, zSI, zSL, zSR, zu_at, and_self, and_false, false_and, lv_args, zKdZ, zKdO, zB01, zB11, Option.toList_none, Option.toList_some, List.nil_append, List.cons_append, true_or, or_true, zRow_rd, zu_rd, zo_iconst, zo_istore_n, zo_istore, zi_0, zcl_0, zKn_0, zN10, zN01, not_true_eq_false, not_false_eq_true, false_implies, true_implies, implies_true, eq_self, nI_1, nI_40, nI_7, vz0, vz1, zb1_e0, zb1_n0]
  refine zLoop (n := n) (P := fun c => zX w mX4_comersOn rX4_comersOn Q 0 0 5 [(0, Value.ref a), (1, Value.int t), (2, Value.int ab), (3, Value.int (nI (oComers (I (a + 5)) (I (a + 6)) ab t c))), (4, Value.int (nI c))] [] (SH, I, L, RF p s r)) (fun c hc ih => ?_) 0 (Nat.zero_le _)
  refine zBlkR (M := mX4_comersOn) (nL := 5) (rt := (Option.some .int)) (blk := bX4_comersOn_5) (T := [(41, bX4_comersOn_41), (47, bX4_comersOn_47)]) 1 hX4_comersOn_5 (zChks_cons hX4_comersOn_41 (zChks_cons hX4_comersOn_47 zChks_nil)) rfl rfl rfl (Nat.le_of_ble_eq_true rfl) (Nat.le_of_ble_eq_true rfl) ?_
  simp only [bX4_comersOn_5, bX4_comersOn_41, bX4_comersOn_47, zRun_cons, zRun_nil, zLk, zSto, zIns, zFil, zf0, zf1, zf2, zf3, List.filter_cons, List.filter_nil, Nat.reduceAdd, Nat.reduceEqDiff, Nat.reduceLT, Nat.reduceLeDiff, Nat.reduceBEq, Nat.reduceBNe, reduceIte, if_true, if_false, Bool.false_and, Bool.true_and, Bool.and_true, Bool.and_false, Bool.not_false, Bool.not_true, Bool.false_eq_true, beq_self_eq_true, BEq.rfl, zCat1, zCat2, zCat3, zKdI, zKdL, zKdR, true_and, and_true, zSI, zSL, zSR, zu_at, and_self, and_false, false_and, lv_args, zKdZ, zKdO, zB01, zB11, Option.toList_none, Option.toList_some, List.nil_append, List.cons_append, true_or, or_true, zRow_rd, zu_rd, zo_iload, zo_aload_n, zo_getfield, zo_icmp_ge, zo_iaload, zo_iload_n, zo_icmp_ne, zo_icmp_eq, zo_iadd, zo_istore_n, zo_iinc, zo_goto, zo_ireturn, zi_1, zKd_4_5, zKd_4_6, zKd_4_7, sh_55, sh_71, rf_55_6, sh_60, rf_71_6, sh_76, rf_55_7, sh_61, rf_71_7, sh_77, zRt, zKn_s, zKn_0, zFind, (psh_0 ha), (psh_1 ha), (psh_2 ha), (psh_3 ha), (psh_4 ha), (psh_5 ha), (psh_6 ha), (psh_7 ha), (psh_8 ha), (psh_9 ha), (psh_10 ha), (psh_11 ha), (psh_12 ha), (psh_13 ha), (psh_14 ha), (psh_15 ha), (prf_1 ha), (prf_2 ha), (prf_3 ha), (prf_4 ha), (prf_6 ha), (prf_7 ha), (prf_8 ha), (prf_10 ha), (prf_11 ha), (prf_12 ha), (prf_13 ha), (prf_15 ha), (prf_17 ha), (prf_18 ha), (prf_19 ha), Nat.add_left_cancel_iff, Nat.left_eq_add, Nat.add_eq_left, h0, zle_nat (a := n) (b := c) (by omega) (by omega), nI_clamp (n := c) (by omega), zN10, zN01, not_true_eq_false, not_false_eq_true, false_implies, true_implies, implies_true, eq_self, nI_1, nI_40, nI_7, vz0, vz1, zb1_e0, zb1_n0]
  refine ⟨fun h => ?_, fun h => ?_⟩
  · have : c = n := by omega
    subst this
    exact hQ
  have hv : vp_in (nI c) 16 := zvn (by omega) (by omega)
  simp only [hv, true_and]
  have ih := ih (by omega)
  rw [oComers] at ih
  refine ⟨fun h1 => ?_, fun h1 => ⟨fun h2 => ?_, fun h2 => ?_⟩⟩
  · rw [if_neg (fun q => h1 q.1)] at ih
    exact ih
  · rw [if_neg (fun q => q.2 h2)] at ih
    exact ih
  · obtain ⟨m, hm, e⟩ := hg c (by omega)
    rw [if_pos ⟨h1, h2⟩, ← nI_add, nI_clampI e (by omega)] at ih
    exact ih
end ZP63
