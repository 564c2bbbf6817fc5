/-! ===== PUT, BRING: the reference's calls ===== -/
section ZU95
variable {w : zP} {Q : Option Value → zMem → Prop} {μ : zMem} {I J V V' S : Nat → Nat → Int32} {L K : Nat → Nat → Int64} {p s t kc kc' : Nat} {r : Option Nat} {P : oPn} {a b c i k q n l kd pl rf ch np cr : Nat} {bt d d' y' : Int64} {rt rt' : oRt} {u : oUd} {x y wm : Int32} {z : Nat × (Nat → Nat → Int32) × Nat}
theorem zrUndo_t (h : ∀ i k, (i = 87 ∧ k = 78) ∨ (123 ≤ i ∧ i ≤ 127) → J i k = I i k) (hu : zrUndo I u) : zrUndo J u := by
  have r : ∀ i, 123 ≤ i → i ≤ 127 → J i = I i := fun i h1 h2 => funext fun k => h i k (Or.inr ⟨h1, h2⟩)
  unfold zrUndo
  rw [h 87 78 (Or.inl ⟨rfl, rfl⟩), r 123 (by omega) (by omega), r 124 (by omega) (by omega), r 125 (by omega) (by omega), r 126 (by omega) (by omega), r 127 (by omega) (by omega)]
  exact hu
theorem UdOk_put (hF : FrOk P V t kc rt) (hch : pCh P ≤ 40) (hU : UdOk P t V kc rt u) (hq : q < pNp P) : UdOk P t (oPuts q (pCh P) l V).2.1 (kc + pcN (oPuts q (pCh P) l V).2.2) rt (uNote u 0 q (oPuts q (pCh P) l V).2.2 (oPuts q (pCh P) l V).2.1 (kc + pcN (oPuts q (pCh P) l V).2.2) rt) := by
  have hlt := oPuts_lt (q := q) (l := l) (V := V) (pCh P)
  have hb : (oPuts q (pCh P) l V).2.2 < 2 ^ 40 := Nat.lt_of_lt_of_le hlt (Nat.pow_le_pow_right (by omega) hch)
  have hbit := fun c => oPuts_bit (q := q) (l := l) (V := V) (a := pCh P) (c := c)
  have hV := fun i c => oPuts_V (q := q) (l := l) (V := V) (a := pCh P) (i := i) (c := c)
  generalize oPuts q (pCh P) l V = z at *
  unfold uNote
  by_cases h0 : pcN z.2.2 = 0
  · rw [if_pos h0, h0]
    obtain ⟨u1, u2, u3, u4, u5⟩ := hU
    refine ⟨u1, fun c hc => ?_, u3, u4, u5⟩
    have hn : ¬ z.2.2.testBit c = true := by
      have := zCnt_0n h0 c hc
      rw [this]; decide
    rw [hV 1 c, hV 2 c, if_neg hn, if_neg hn]
    exact u2 c hc
  · rw [if_neg h0]
    have hUr := UdOk_room hU
    refine UdOk_add hUr (uRoom_lt hU.1) ?_
    obtain ⟨u1, u2, u3, u4, u5⟩ := hUr
    unfold uLk
    refine Or.inl ⟨rfl, hq, rfl, z.2.2, rfl, hb, fun c hc => (hbit c hc).1, rfl, fun c hc => ?_⟩
    rw [(u2 c hc).1, (u2 c hc).2, hV 1 c, hV 2 c]
    by_cases hn : z.2.2.testBit c = true
    · rw [if_pos hn, if_pos hn, if_pos hn]
      have := hbit c hn
      have w2 : V 2 c = -1 := by
        have g := hF.1 c hc
        rw [this.2] at g
        unfold kOk at g
        simp at g
        exact g.1
      exact ⟨this.2, w2, by simp, by simp⟩
    · rw [if_neg hn, if_neg hn, if_neg hn]; exact ⟨rfl, rfl⟩
theorem UdOk_bring (hF : FrOk P V t kc rt) (hch : pCh P ≤ 40) (hU : UdOk P t V kc rt u) (hq : q < pNp P) : UdOk P t (oBris q (pCh P) l V).2.1 (kc + pcN (oBris q (pCh P) l V).2.2) rt (uNote u 1 q (oBris q (pCh P) l V).2.2 (oBris q (pCh P) l V).2.1 (kc + pcN (oBris q (pCh P) l V).2.2) rt) := by
  have hlt := oBris_lt (q := q) (l := l) (V := V) (pCh P)
  have hb : (oBris q (pCh P) l V).2.2 < 2 ^ 40 := Nat.lt_of_lt_of_le hlt (Nat.pow_le_pow_right (by omega) hch)
  have hbit := fun c => oBris_bit (q := q) (l := l) (V := V) (a := pCh P) (c := c)
  have hV := fun i c => oBris_V (q := q) (l := l) (V := V) (a := pCh P) (i := i) (c := c)
  generalize oBris q (pCh P) l V = z at *
  unfold uNote
  by_cases h0 : pcN z.2.2 = 0
  · rw [if_pos h0, h0]
    obtain ⟨u1, u2, u3, u4, u5⟩ := hU
    refine ⟨u1, fun c hc => ?_, u3, u4, u5⟩
    have hn : ¬ z.2.2.testBit c = true := by
      have := zCnt_0n h0 c hc
      rw [this]; decide
    rw [hV 1 c, hV 2 c, if_neg hn, if_neg hn]
    exact u2 c hc
  · rw [if_neg h0]
    have hUr := UdOk_room hU
    refine UdOk_add hUr (uRoom_lt hU.1) ?_
    obtain ⟨u1, u2, u3, u4, u5⟩ := hUr
    unfold uLk
    refine Or.inr (Or.inl ⟨rfl, hq, rfl, z.2.2, rfl, hb, fun c hc => (hbit c hc).1, rfl, fun c hc => ?_⟩)
    rw [(u2 c hc).1, (u2 c hc).2, hV 1 c, hV 2 c]
    by_cases hn : z.2.2.testBit c = true
    · rw [if_pos hn, if_pos hn, if_pos hn]
      have := hbit c hn
      exact ⟨this.2.1, this.2.2, by simp, by simp⟩
    · rw [if_neg hn, if_neg hn, if_neg hn]; exact ⟨rfl, rfl⟩
set_option maxRecDepth 20000 in
theorem mo_leftOf (h7 : I 102 7 = nI cr) (h56 : I 87 56 = nI kc) (hcr : cr ≤ 40) (hkc : kc ≤ cr) (hn : n ≤ 40) (ha : a ≤ 40) (hQ : Q (some (.int (nI (min n (min (cr - kc) a))))) (SH, I, L, RF p s r)) : zXM w mX10_leftOf rX10_leftOf [.ref 87, .int (nI n), .int (nI a)] (SH, I, L, RF p s r) Q := by
  unfold zXM
  have ecr2 : nI cr - nI kc = nI (cr - kc) := by
    obtain ⟨a, ha⟩ : ∃ a, cr = a + kc := ⟨cr - kc, by omega⟩
    rw [ha, ← nI_add, Int32.add_sub_cancel]; congr 1; omega
  by_cases h1 : a ≤ cr - kc
  · have x1 : (nI a ≤ nI (cr - kc)) = True := eq_true (by rw [zle_nat (by omega) (by omega)]; exact h1)
    by_cases h2 : a ≤ n
    · have x2 : (nI a ≤ nI n) = True := eq_true (by rw [zle_nat (by omega) (by omega)]; exact h2)
      refine zBlkR (M := mX10_leftOf) (nL := 4) (rt := (Option.some .int)) (blk := bX10_leftOf_0) (T := [(22, bX10_leftOf_22), (23, bX10_leftOf_23), (33, bX10_leftOf_33), (34, bX10_leftOf_34)]) 2 hX10_leftOf_0 (zChks_cons hX10_leftOf_22 (zChks_cons hX10_leftOf_23 (zChks_cons hX10_leftOf_33 (zChks_cons hX10_leftOf_34 zChks_nil)))) rfl rfl rfl (Nat.le_of_ble_eq_true rfl) (Nat.le_of_ble_eq_true rfl) ?_
      simp (implicitDefEqProofs := false) only [bX10_leftOf_0, bX10_leftOf_22, bX10_leftOf_23, bX10_leftOf_33, bX10_leftOf_34, zRun_cons, zRun_nil, zLk, zSto, zIns, zFil, zf0, zf1, zf2, zf3, List.filter_cons, List.filter_nil, Nat.reduceAdd, Nat.reduceEqDiff, Nat.reduceLT, Nat.reduceLeDiff, Nat.reduceBEq, Nat.reduceBNe, reduceIte, if_true, if_false, Bool.false_and, Bool.true_and, Bool.and_true, Bool.and_false, Bool.not_false, Bool.not_true, Bool.false_eq_true, beq_self_eq_true, BEq.rfl, zCat1, zCat2, zCat3, zKdI, zKdL, zKdR, true_and, and_true, zSI, zSL, zSR, zu_at, and_self, and_false, false_and, lv_args, zKdZ, zKdO, zB01, zB11, Option.toList_none, Option.toList_some, List.nil_append, List.cons_append, true_or, or_true, zRow_rd, zu_rd, zo_aload_n, zo_getfield, zo_bipush, zo_iaload, zo_isub, zo_istore_n, zo_iload_n, zo_icmp_ge, zo_goto, zo_ireturn, zb_7, zKd_10_36, zKd_10_56, sh_87, rf_87_36, sh_102, zcl_7, zvi_7_32, zRt, zKn_s, zKn_0, zFind, h7, h56, ecr2, x1, x2, zvi_7_32, zN10, zN01, not_true_eq_false, not_false_eq_true, false_implies, true_implies, implies_true, eq_self, nI_1, nI_40, nI_7, vz0, vz1, zb1_e0, zb1_n0]
      rw [show min n (min (cr - kc) a) = a by omega] at hQ; exact hQ
    · have x2 : (nI a ≤ nI n) = False := eq_false (by rw [zle_nat (by omega) (by omega)]; exact h2)
      refine zBlkR (M := mX10_leftOf) (nL := 4) (rt := (Option.some .int)) (blk := bX10_leftOf_0) (T := [(22, bX10_leftOf_22), (23, bX10_leftOf_23), (33, bX10_leftOf_33), (34, bX10_leftOf_34)]) 2 hX10_leftOf_0 (zChks_cons hX10_leftOf_22 (zChks_cons hX10_leftOf_23 (zChks_cons hX10_leftOf_33 (zChks_cons hX10_leftOf_34 zChks_nil)))) rfl rfl rfl (Nat.le_of_ble_eq_true rfl) (Nat.le_of_ble_eq_true rfl) ?_
      simp (implicitDefEqProofs := false) only [bX10_leftOf_0, bX10_leftOf_22, bX10_leftOf_23, bX10_leftOf_33, bX10_leftOf_34, zRun_cons, zRun_nil, zLk, zSto, zIns, zFil, zf0, zf1, zf2, zf3, List.filter_cons, List.filter_nil, Nat.reduceAdd, Nat.reduceEqDiff, Nat.reduceLT, Nat.reduceLeDiff, Nat.reduceBEq, Nat.reduceBNe, reduceIte, if_true, if_false, Bool.false_and, Bool.true_and, Bool.and_true, Bool.and_false, Bool.not_false, Bool.not_true, Bool.false_eq_true, beq_self_eq_true, BEq.rfl, zCat1, zCat2, zCat3, zKdI, zKdL, zKdR, true_and, and_true, zSI, zSL, zSR, zu_at, and_self, and_false, false_and, lv_args, zKdZ, zKdO, zB01, zB11, Option.toList_none, Option.toList_some, List.nil_append, List.cons_append, true_or, or_true, zRow_rd, zu_rd, zo_aload_n, zo_getfield, zo_bipush, zo_iaload, zo_isub, zo_istore_n, zo_iload_n, zo_icmp_ge, zo_goto, zo_ireturn, zb_7, zKd_10_36, zKd_10_56, sh_87, rf_87_36, sh_102, zcl_7, zvi_7_32, zRt, zKn_s, zKn_0, zFind, h7, h56, ecr2, x1, x2, zvi_7_32, zN10, zN01, not_true_eq_false, not_false_eq_true, false_implies, true_implies, implies_true, eq_self, nI_1, nI_40, nI_7, vz0, vz1, zb1_e0, zb1_n0]
      rw [show min n (min (cr - kc) a) = n by omega] at hQ; exact hQ
  · have x1 : (nI a ≤ nI (cr - kc)) = False := eq_false (by rw [zle_nat (by omega) (by omega)]; exact h1)
    by_cases h2 : cr - kc ≤ n
    · have x2 : (nI (cr - kc) ≤ nI n) = True := eq_true (by rw [zle_nat (by omega) (by omega)]; exact h2)
      refine zBlkR (M := mX10_leftOf) (nL := 4) (rt := (Option.some .int)) (blk := bX10_leftOf_0) (T := [(22, bX10_leftOf_22), (23, bX10_leftOf_23), (33, bX10_leftOf_33), (34, bX10_leftOf_34)]) 2 hX10_leftOf_0 (zChks_cons hX10_leftOf_22 (zChks_cons hX10_leftOf_23 (zChks_cons hX10_leftOf_33 (zChks_cons hX10_leftOf_34 zChks_nil)))) rfl rfl rfl (Nat.le_of_ble_eq_true rfl) (Nat.le_of_ble_eq_true rfl) ?_
      simp (implicitDefEqProofs := false) only [bX10_leftOf_0, bX10_leftOf_22, bX10_leftOf_23, bX10_leftOf_33, bX10_leftOf_34, zRun_cons, zRun_nil, zLk, zSto, zIns, zFil, zf0, zf1, zf2, zf3, List.filter_cons, List.filter_nil, Nat.reduceAdd, Nat.reduceEqDiff, Nat.reduceLT, Nat.reduceLeDiff, Nat.reduceBEq, Nat.reduceBNe, reduceIte, if_true, if_false, Bool.false_and, Bool.true_and, Bool.and_true, Bool.and_false, Bool.not_false, Bool.not_true, Bool.false_eq_true, beq_self_eq_true, BEq.rfl, zCat1, zCat2, zCat3, zKdI, zKdL, zKdR, true_and, and_true, zSI, zSL, zSR, zu_at, and_self, and_false, false_and, lv_args, zKdZ, zKdO, zB01, zB11, Option.toList_none, Option.toList_some, List.nil_append, List.cons_append, true_or, or_true, zRow_rd, zu_rd, zo_aload_n, zo_getfield, zo_bipush, zo_iaload, zo_isub, zo_istore_n, zo_iload_n, zo_icmp_ge, zo_goto, zo_ireturn, zb_7, zKd_10_36, zKd_10_56, sh_87, rf_87_36, sh_102, zcl_7, zvi_7_32, zRt, zKn_s, zKn_0, zFind, h7, h56, ecr2, x1, x2, zvi_7_32, zN10, zN01, not_true_eq_false, not_false_eq_true, false_implies, true_implies, implies_true, eq_self, nI_1, nI_40, nI_7, vz0, vz1, zb1_e0, zb1_n0]
      rw [show min n (min (cr - kc) a) = cr - kc by omega] at hQ; exact hQ
    · have x2 : (nI (cr - kc) ≤ nI n) = False := eq_false (by rw [zle_nat (by omega) (by omega)]; exact h2)
      refine zBlkR (M := mX10_leftOf) (nL := 4) (rt := (Option.some .int)) (blk := bX10_leftOf_0) (T := [(22, bX10_leftOf_22), (23, bX10_leftOf_23), (33, bX10_leftOf_33), (34, bX10_leftOf_34)]) 2 hX10_leftOf_0 (zChks_cons hX10_leftOf_22 (zChks_cons hX10_leftOf_23 (zChks_cons hX10_leftOf_33 (zChks_cons hX10_leftOf_34 zChks_nil)))) rfl rfl rfl (Nat.le_of_ble_eq_true rfl) (Nat.le_of_ble_eq_true rfl) ?_
      simp (implicitDefEqProofs := false) only [bX10_leftOf_0, bX10_leftOf_22, bX10_leftOf_23, bX10_leftOf_33, bX10_leftOf_34, zRun_cons, zRun_nil, zLk, zSto, zIns, zFil, zf0, zf1, zf2, zf3, List.filter_cons, List.filter_nil, Nat.reduceAdd, Nat.reduceEqDiff, Nat.reduceLT, Nat.reduceLeDiff, Nat.reduceBEq, Nat.reduceBNe, reduceIte, if_true, if_false, Bool.false_and, Bool.true_and, Bool.and_true, Bool.and_false, Bool.not_false, Bool.not_true, Bool.false_eq_true, beq_self_eq_true, BEq.rfl, zCat1, zCat2, zCat3, zKdI, zKdL, zKdR, true_and, and_true, zSI, zSL, zSR, zu_at, and_self, and_false, false_and, lv_args, zKdZ, zKdO, zB01, zB11, Option.toList_none, Option.toList_some, List.nil_append, List.cons_append, true_or, or_true, zRow_rd, zu_rd, zo_aload_n, zo_getfield, zo_bipush, zo_iaload, zo_isub, zo_istore_n, zo_iload_n, zo_icmp_ge, zo_goto, zo_ireturn, zb_7, zKd_10_36, zKd_10_56, sh_87, rf_87_36, sh_102, zcl_7, zvi_7_32, zRt, zKn_s, zKn_0, zFind, h7, h56, ecr2, x1, x2, zvi_7_32, zN10, zN01, not_true_eq_false, not_false_eq_true, false_implies, true_implies, implies_true, eq_self, nI_1, nI_40, nI_7, vz0, vz1, zb1_e0, zb1_n0]
      rw [show min n (min (cr - kc) a) = n by omega] at hQ; exact hQ
set_option maxRecDepth 20000 in
theorem mo_put (hR : zRl I L P V d t kc rt) (hU : UdOk P t V kc rt u) (hu : zrUndo I u) (hbad : ¬ (oIn x (pNp P) = true ∧ oIn y 41 = true) → Q (some (.int (-1))) (SH, zu I 87 2 0, L, RF p s r)) (hQ : ∀ q n, q < pNp P → x = nI q → n ≤ 40 → y = nI n → ∀ I', zKpt SRw I I' → zRl I' L P (oPuts q (pCh P) (oLft P kc n) V).2.1 d t (kc + pcN (oPuts q (pCh P) (oLft P kc n) V).2.2) rt → zrUndo I' (uNote u 0 q (oPuts q (pCh P) (oLft P kc n) V).2.2 (oPuts q (pCh P) (oLft P kc n) V).2.1 (kc + pcN (oPuts q (pCh P) (oLft P kc n) V).2.2) rt) → Q (some (.int (nI (pcN (oPuts q (pCh P) (oLft P kc n) V).2.2)))) (SH, I', L, RF p s r)) : zXM w mX10_put rX10_put [.ref 87, .int x, .int y] (SH, I, L, RF p s r) Q := by
  unfold zXM
  refine zBlkR (M := mX10_put) (nL := 4) (rt := (Option.some .int)) (blk := bX10_put_0) (T := []) 0 hX10_put_0 zChks_nil rfl rfl rfl (Nat.le_of_ble_eq_true rfl) (Nat.le_of_ble_eq_true rfl) ?_
  simp (implicitDefEqProofs := false) only [bX10_put_0, zRun_cons, zRun_nil, zLk, zSto, zIns, zFil, zf0, zf1, zf2, zf3, List.filter_cons, List.filter_nil, Nat.reduceAdd, Nat.reduceEqDiff, Nat.reduceLT, Nat.reduceLeDiff, Nat.reduceBEq, Nat.reduceBNe, reduceIte, if_true, if_false, Bool.false_and, Bool.true_and, Bool.and_true, Bool.and_false, Bool.not_false, Bool.not_true, Bool.false_eq_true, beq_self_eq_true, BEq.rfl, zCat1, zCat2, zCat3, zKdI, zKdL, zKdR, true_and, and_true, zSI, zSL, zSR, zu_at, and_self, and_false, false_and, lv_args, zKdZ, zKdO, zB01, zB11, Option.toList_none, Option.toList_some, List.nil_append, List.cons_append, true_or, or_true, zRow_rd, zu_rd, zo_aload_n, zo_iconst, zo_putfield, zo_putfield_2, zo_putfield_3, zo_iload_n, zi_0, zKd_10_2, zTy_10_2, zcl_0, sh_87, zPutC, zKn_0, zN10, zN01, not_true_eq_false, not_false_eq_true, false_implies, true_implies, implies_true, eq_self, nI_1, nI_40, nI_7, vz0, vz1, zb1_e0, zb1_n0]
  have k0 : zKpt SRw I (zu I 87 2 0) := zKpt_rfl.u (by unfold SRw; omega)
  have hR := zRl_t (zKpt_rfl.u (by unfold SRt; omega) : zKpt SRt I (zu I 87 2 0)) zKpt_rfl hR
  have hu : zrUndo (zu I 87 2 0) u := zrUndo_t (fun i k h => by rw [zu_at, if_neg (by omega)]) hu
  generalize zu I 87 2 0 = I0 at *
  have hch := hR.1.1
  have hnp : pNp P ≤ 5 := hR.1.2.1
  have hok := hR.2.2.2.2.2.1
  obtain ⟨cr, hcr, hkc, ecr⟩ := hR.2.2.2.2.2.2.2.2
  obtain ⟨f1, f2, f3, f4, f5, f6, f7⟩ := hR.2.2.2.2.1
  have r102 : I0 102 = pR P 102 := hR.2.2.1.1 102 (by omega) (by omega)
  have e1 : I0 102 1 = nI (pCh P) := by rw [r102]; exact hR.1.2.2.2.2.2.1
  have e7 : I0 102 7 = nI cr := by rw [r102]; exact ecr
  refine z_cV0 (M' := mX10_isPlace) (R' := rX10_isPlace) (i := 87) [.int x] [] eX10_isPlace k10_510 (by decide +kernel : decode cX10_put 7 = .ok (.invokevirtual 510, 3)) (Nat.le_of_ble_eq_true rfl) ⟨Nat.le_of_ble_eq_true rfl, Nat.le_of_ble_eq_true rfl, Nat.le_of_ble_eq_true rfl, Nat.le_of_ble_eq_true rfl, Nat.le_of_ble_eq_true rfl⟩ rfl rfl rfl sh_87 ?_
  refine mo_isPlace hR.2.2.1.2.1 ?_
  cases hy : oIn x (pNp P) with
  | false =>
    refine zBlkR (M := mX10_put) (nL := 4) (rt := (Option.some .int)) (blk := bX10_put_10) (T := [(23, bX10_put_23)]) 1 hX10_put_10 (zChks_cons hX10_put_23 zChks_nil) rfl rfl rfl (Nat.le_of_ble_eq_true rfl) (Nat.le_of_ble_eq_true rfl) ?_
    simp (implicitDefEqProofs := false) only [bX10_put_10, bX10_put_23, zRun_cons, zRun_nil, zLk, zSto, zIns, zFil, zf0, zf1, zf2, zf3, List.filter_cons, List.filter_nil, Nat.reduceAdd, Nat.reduceEqDiff, Nat.reduceLT, Nat.reduceLeDiff, Nat.reduceBEq, Nat.reduceBNe, reduceIte, if_true, if_false, Bool.false_and, Bool.true_and, Bool.and_true, Bool.and_false, Bool.not_false, Bool.not_true, Bool.false_eq_true, beq_self_eq_true, BEq.rfl, zCat1, zCat2, zCat3, zKdI, zKdL, zKdR, true_and, and_true, zSI, zSL, zSR, zu_at, and_self, and_false, false_and, lv_args, zKdZ, zKdO, zB01, zB11, Option.toList_none, Option.toList_some, List.nil_append, List.cons_append, true_or, or_true, zRow_rd, zu_rd, zo_if_eq, zo_iload_n, zo_iconst, zo_bipush, zo_ireturn, zi_0, zb_40, zi_m1, zcl_0, zcl_40, zRt, zKn_s, zKn_0, zFind, zb1_f, zN10, zN01, not_true_eq_false, not_false_eq_true, false_implies, true_implies, implies_true, eq_self, nI_1, nI_40, nI_7, vz0, vz1, zb1_e0, zb1_n0]
    exact hbad (by rw [hy]; simp)
  | true =>
  refine zBlkR (M := mX10_put) (nL := 4) (rt := (Option.some .int)) (blk := bX10_put_10) (T := [(23, bX10_put_23)]) 1 hX10_put_10 (zChks_cons hX10_put_23 zChks_nil) rfl rfl rfl (Nat.le_of_ble_eq_true rfl) (Nat.le_of_ble_eq_true rfl) ?_
  simp (implicitDefEqProofs := false) only [bX10_put_10, bX10_put_23, zRun_cons, zRun_nil, zLk, zSto, zIns, zFil, zf0, zf1, zf2, zf3, List.filter_cons, List.filter_nil, Nat.reduceAdd, Nat.reduceEqDiff, Nat.reduceLT, Nat.reduceLeDiff, Nat.reduceBEq, Nat.reduceBNe, reduceIte, if_true, if_false, Bool.false_and, Bool.true_and, Bool.and_true, Bool.and_false, Bool.not_false, Bool.not_true, Bool.false_eq_true, beq_self_eq_true, BEq.rfl, zCat1, zCat2, zCat3, zKdI, zKdL, zKdR, true_and, and_true, zSI, zSL, zSR, zu_at, and_self, and_false, false_and, lv_args, zKdZ, zKdO, zB01, zB11, Option.toList_none, Option.toList_some, List.nil_append, List.cons_append, true_or, or_true, zRow_rd, zu_rd, zo_if_eq, zo_iload_n, zo_iconst, zo_bipush, zo_ireturn, zi_0, zb_40, zi_m1, zcl_0, zcl_40, zRt, zKn_s, zKn_0, zFind, zb1_t, zN10, zN01, not_true_eq_false, not_false_eq_true, false_implies, true_implies, implies_true, eq_self, nI_1, nI_40, nI_7, vz0, vz1, zb1_e0, zb1_n0]
  refine z_cS0 (M' := mX10_isIn) (R' := rX10_isIn) [.int y, .int 0, .int 40] [] eX10_isIn k10_223 (by decide +kernel : decode cX10_put 17 = .ok (.invokestatic 223, 3)) (Nat.le_of_ble_eq_true rfl) ⟨Nat.le_of_ble_eq_true rfl, Nat.le_of_ble_eq_true rfl, Nat.le_of_ble_eq_true rfl, Nat.le_of_ble_eq_true rfl, Nat.le_of_ble_eq_true rfl⟩ rfl rfl rfl ?_
  refine mo_isIn ?_
  rw [show (!decide (y < 0) && !decide ((40 : Int32) < y)) = oIn y 41 from oIn_isIn (a := 40) (by omega)]
  cases hin : oIn y 41 with
  | false =>
    refine zBlkR (M := mX10_put) (nL := 4) (rt := (Option.some .int)) (blk := bX10_put_20) (T := [(25, bX10_put_25)]) 1 hX10_put_20 (zChks_cons hX10_put_25 zChks_nil) rfl rfl rfl (Nat.le_of_ble_eq_true rfl) (Nat.le_of_ble_eq_true rfl) ?_
    simp (implicitDefEqProofs := false) only [bX10_put_20, bX10_put_25, zRun_cons, zRun_nil, zLk, zSto, zIns, zFil, zf0, zf1, zf2, zf3, List.filter_cons, List.filter_nil, Nat.reduceAdd, Nat.reduceEqDiff, Nat.reduceLT, Nat.reduceLeDiff, Nat.reduceBEq, Nat.reduceBNe, reduceIte, if_true, if_false, Bool.false_and, Bool.true_and, Bool.and_true, Bool.and_false, Bool.not_false, Bool.not_true, Bool.false_eq_true, beq_self_eq_true, BEq.rfl, zCat1, zCat2, zCat3, zKdI, zKdL, zKdR, true_and, and_true, zSI, zSL, zSR, zu_at, and_self, and_false, false_and, lv_args, zKdZ, zKdO, zB01, zB11, Option.toList_none, Option.toList_some, List.nil_append, List.cons_append, true_or, or_true, zRow_rd, zu_rd, zo_if_ne, zo_iconst, zo_ireturn, zo_aload_n, zo_iload_n, zi_m1, zi_0, zcl_0, zRt, zKn_s, zKn_0, zFind, zb1_f, zN10, zN01, not_true_eq_false, not_false_eq_true, false_implies, true_implies, implies_true, eq_self, nI_1, nI_40, nI_7, vz0, vz1, zb1_e0, zb1_n0]
    exact hbad (by rw [hin]; simp)
  | true =>
  obtain ⟨q, hq, e1'⟩ := oIn_t hy (by omega)
  obtain ⟨n, hn, e2⟩ := oIn_t hin (by omega)
  subst e1' e2
  have hQ := hQ q n hq rfl (by omega) rfl
  have hlE : oLft P kc n = min n (cr - kc) := by unfold oLft; rw [ecr, nI_clamp (by omega)]
  refine zBlkR (M := mX10_put) (nL := 4) (rt := (Option.some .int)) (blk := bX10_put_20) (T := [(25, bX10_put_25)]) 1 hX10_put_20 (zChks_cons hX10_put_25 zChks_nil) rfl rfl rfl (Nat.le_of_ble_eq_true rfl) (Nat.le_of_ble_eq_true rfl) ?_
  simp (implicitDefEqProofs := false) only [bX10_put_20, bX10_put_25, zRun_cons, zRun_nil, zLk, zSto, zIns, zFil, zf0, zf1, zf2, zf3, List.filter_cons, List.filter_nil, Nat.reduceAdd, Nat.reduceEqDiff, Nat.reduceLT, Nat.reduceLeDiff, Nat.reduceBEq, Nat.reduceBNe, reduceIte, if_true, if_false, Bool.false_and, Bool.true_and, Bool.and_true, Bool.and_false, Bool.not_false, Bool.not_true, Bool.false_eq_true, beq_self_eq_true, BEq.rfl, zCat1, zCat2, zCat3, zKdI, zKdL, zKdR, true_and, and_true, zSI, zSL, zSR, zu_at, and_self, and_false, false_and, lv_args, zKdZ, zKdO, zB01, zB11, Option.toList_none, Option.toList_some, List.nil_append, List.cons_append, true_or, or_true, zRow_rd, zu_rd, zo_if_ne, zo_iconst, zo_ireturn, zo_aload_n, zo_iload_n, zi_m1, zi_0, zcl_0, zRt, zKn_s, zKn_0, zFind, zb1_t, zN10, zN01, not_true_eq_false, not_false_eq_true, false_implies, true_implies, implies_true, eq_self, nI_1, nI_40, nI_7, vz0, vz1, zb1_e0, zb1_n0]
  refine z_cV0 (M' := mX10_manyAt) (R' := rX10_manyAt) (i := 87) [.int 0, .int (-1), .int 0] [.int (nI n), .ref 87] eX10_manyAt k10_444 (by decide +kernel : decode cX10_put 31 = .ok (.invokevirtual 444, 3)) (Nat.le_of_ble_eq_true rfl) ⟨Nat.le_of_ble_eq_true rfl, Nat.le_of_ble_eq_true rfl, Nat.le_of_ble_eq_true rfl, Nat.le_of_ble_eq_true rfl, Nat.le_of_ble_eq_true rfl⟩ rfl rfl rfl sh_87 ?_
  refine mo_manyAt (b := 0) (by omega) hch e1 ?_
  rw [zMany_stk f1 hch]
  have hcl : oStk V (pCh P) ≤ pCh P := zCnt_le _ _
  refine z_cV0 (M' := mX10_leftOf) (R' := rX10_leftOf) (i := 87) [.int (nI n), .int (nI (oStk V (pCh P)))] [] eX10_leftOf k10_518 (by decide +kernel : decode cX10_put 34 = .ok (.invokevirtual 518, 3)) (Nat.le_of_ble_eq_true rfl) ⟨Nat.le_of_ble_eq_true rfl, Nat.le_of_ble_eq_true rfl, Nat.le_of_ble_eq_true rfl, Nat.le_of_ble_eq_true rfl, Nat.le_of_ble_eq_true rfl⟩ rfl rfl rfl sh_87 ?_
  refine mo_leftOf e7 f3 hcr hkc (by omega) (by omega) ?_
  have hmin := oPuts_min (q := q) (l := oLft P kc n) (V := V) (n := pCh P) (pCh P) (Nat.le_refl _)
  have hrem := oPuts_rem (q := q) (l := oLft P kc n) (V := V) (pCh P)
  have hpc := oPuts_pc (q := q) (l := oLft P kc n) (V := V) hch
  have hle : oStk V (pCh P) ≤ 40 := by omega
  have hlm : min n (min (cr - kc) (oStk V (pCh P))) = min (oLft P kc n) (oStk V (pCh P)) := by rw [hlE]; omega
  rw [hlm]
  have hm : pcN (oPuts q (pCh P) (oLft P kc n) V).2.2 = min (oLft P kc n) (oStk V (pCh P)) := by omega
  have hl4 : min (oLft P kc n) (oStk V (pCh P)) ≤ 40 := by omega
  have hkl : kc + min (oLft P kc n) (oStk V (pCh P)) ≤ cr := by rw [hlE]; omega
  rw [hm] at hQ
  rw [hmin] at hQ hm
  generalize oLft P kc n = l0 at *
  generalize min l0 (oStk V (pCh P)) = l at *
  by_cases hl0 : l = 0
  · subst hl0
    have hz : oPuts q (pCh P) 0 V = (0, V, 0) := by
      have := oPuts_0 (q := q) (l := 0) (V := V) (a := 0) rfl (pCh P)
      rw [Nat.zero_add] at this
      exact this
    rw [hz] at hQ
    rw [show uNote u 0 q (0, V, 0).2.2 (0, V, 0).2.1 (kc + 0) rt = u by unfold uNote; rw [if_pos (show pcN 0 = 0 by decide)]] at hQ
    refine zBlkR (M := mX10_put) (nL := 4) (rt := (Option.some .int)) (blk := bX10_put_37) (T := [(44, bX10_put_44)]) 1 hX10_put_37 (zChks_cons hX10_put_44 zChks_nil) rfl rfl rfl (Nat.le_of_ble_eq_true rfl) (Nat.le_of_ble_eq_true rfl) ?_
    simp (implicitDefEqProofs := false) only [bX10_put_37, bX10_put_44, zRun_cons, zRun_nil, zLk, zSto, zIns, zFil, zf0, zf1, zf2, zf3, List.filter_cons, List.filter_nil, Nat.reduceAdd, Nat.reduceEqDiff, Nat.reduceLT, Nat.reduceLeDiff, Nat.reduceBEq, Nat.reduceBNe, reduceIte, if_true, if_false, Bool.false_and, Bool.true_and, Bool.and_true, Bool.and_false, Bool.not_false, Bool.not_true, Bool.false_eq_true, beq_self_eq_true, BEq.rfl, zCat1, zCat2, zCat3, zKdI, zKdL, zKdR, true_and, and_true, zSI, zSL, zSR, zu_at, and_self, and_false, false_and, lv_args, zKdZ, zKdO, zB01, zB11, Option.toList_none, Option.toList_some, List.nil_append, List.cons_append, true_or, or_true, zRow_rd, zu_rd, zo_istore_n, zo_iload_n, zo_if_ne, zo_iconst, zo_ireturn, zo_aload_n, zi_0, zcl_0, zRt, zKn_s, zKn_0, zFind, zN10, zN01, not_true_eq_false, not_false_eq_true, false_implies, true_implies, implies_true, eq_self, nI_1, nI_40, nI_7, vz0, vz1, zb1_e0, zb1_n0]
    exact ⟨fun g => absurd rfl g, fun _ => hQ I0 k0 hR hu⟩
  · have hn0 : ¬ nI l = 0 := nI_ne0 (by omega) (by omega)
    refine zBlkR (M := mX10_put) (nL := 4) (rt := (Option.some .int)) (blk := bX10_put_37) (T := [(44, bX10_put_44)]) 1 hX10_put_37 (zChks_cons hX10_put_44 zChks_nil) rfl rfl rfl (Nat.le_of_ble_eq_true rfl) (Nat.le_of_ble_eq_true rfl) ?_
    simp (implicitDefEqProofs := false) only [bX10_put_37, bX10_put_44, zRun_cons, zRun_nil, zLk, zSto, zIns, zFil, zf0, zf1, zf2, zf3, List.filter_cons, List.filter_nil, Nat.reduceAdd, Nat.reduceEqDiff, Nat.reduceLT, Nat.reduceLeDiff, Nat.reduceBEq, Nat.reduceBNe, reduceIte, if_true, if_false, Bool.false_and, Bool.true_and, Bool.and_true, Bool.and_false, Bool.not_false, Bool.not_true, Bool.false_eq_true, beq_self_eq_true, BEq.rfl, zCat1, zCat2, zCat3, zKdI, zKdL, zKdR, true_and, and_true, zSI, zSL, zSR, zu_at, and_self, and_false, false_and, lv_args, zKdZ, zKdO, zB01, zB11, Option.toList_none, Option.toList_some, List.nil_append, List.cons_append, true_or, or_true, zRow_rd, zu_rd, zo_istore_n, zo_iload_n, zo_if_ne, zo_iconst, zo_ireturn, zo_aload_n, zi_0, zcl_0, zRt, zKn_s, zKn_0, zFind, hn0, zN10, zN01, not_true_eq_false, not_false_eq_true, false_implies, true_implies, implies_true, eq_self, nI_1, nI_40, nI_7, vz0, vz1, zb1_e0, zb1_n0]
    refine z_cV0 (M' := mX10_remember) (R' := rX10_remember) (i := 87) [] [] eX10_remember k10_521 (by decide +kernel : decode cX10_put 45 = .ok (.invokevirtual 521, 3)) (Nat.le_of_ble_eq_true rfl) ⟨Nat.le_of_ble_eq_true rfl, Nat.le_of_ble_eq_true rfl, Nat.le_of_ble_eq_true rfl, Nat.le_of_ble_eq_true rfl, Nat.le_of_ble_eq_true rfl⟩ rfl rfl rfl sh_87 ?_
    refine mo_remember hu hU hR.2.2.2.2.1 hR.2.2.2.2.2.2.1 (fun I1 k1 z1 => ?_)
    have q56 : I1 87 56 = nI kc := by rw [k1 87 56 (by unfold SRu; omega)]; exact f3
    refine zBlkR (M := mX10_put) (nL := 4) (rt := (Option.some .int)) (blk := bX10_put_48) (T := []) 0 hX10_put_48 zChks_nil rfl rfl rfl (Nat.le_of_ble_eq_true rfl) (Nat.le_of_ble_eq_true rfl) ?_
    simp (implicitDefEqProofs := false) only [bX10_put_48, zRun_cons, zRun_nil, zLk, zSto, zIns, zFil, zf0, zf1, zf2, zf3, List.filter_cons, List.filter_nil, Nat.reduceAdd, Nat.reduceEqDiff, Nat.reduceLT, Nat.reduceLeDiff, Nat.reduceBEq, Nat.reduceBNe, reduceIte, if_true, if_false, Bool.false_and, Bool.true_and, Bool.and_true, Bool.and_false, Bool.not_false, Bool.not_true, Bool.false_eq_true, beq_self_eq_true, BEq.rfl, zCat1, zCat2, zCat3, zKdI, zKdL, zKdR, true_and, and_true, zSI, zSL, zSR, zu_at, and_self, and_false, false_and, lv_args, zKdZ, zKdO, zB01, zB11, Option.toList_none, Option.toList_some, List.nil_append, List.cons_append, true_or, or_true, zRow_rd, zu_rd, zo_aload_n, zo_dup, zo_getfield, zo_iload_n, zo_iadd, zo_putfield, zo_putfield_2, zo_putfield_3, zo_iconst, zi_0, zi_m1, zi_1, zKd_10_56, zTy_10_56, sh_87, zcl_0, zcl_1, zPutC, zKn_0, q56, nI_add, zN10, zN01, not_true_eq_false, not_false_eq_true, false_implies, true_implies, implies_true, eq_self, nI_1, nI_40, nI_7, vz0, vz1, zb1_e0, zb1_n0]
    refine z_cV0 (M' := mX10_lays) (R' := rX10_lays) (i := 87) [.int (nI l), .int 0, .int (-1), .int 1, .int (nI q)] [] eX10_lays k10_524 (by decide +kernel : decode cX10_put 64 = .ok (.invokevirtual 524, 3)) (Nat.le_of_ble_eq_true rfl) ⟨Nat.le_of_ble_eq_true rfl, Nat.le_of_ble_eq_true rfl, Nat.le_of_ble_eq_true rfl, Nat.le_of_ble_eq_true rfl, Nat.le_of_ble_eq_true rfl⟩ rfl rfl rfl sh_87 ?_
    have kA : zKpt SRw I0 (zu I1 87 56 (nI (kc + l))) := (k1.mono (fun i k g => by unfold SRu at g; unfold SRw; omega)).u (by unfold SRw; omega)
    have rA : ∀ i, i ≠ 87 → (i < 123 ∨ 127 < i) → zu I1 87 56 (nI (kc + l)) i = I0 i := fun i h1 h2 => funext fun j => by rw [zu_at, if_neg (fun g => h1 g.1)]; exact k1 i j (by unfold SRu; omega)
    have r87 : ∀ k, k ≠ 78 → k ≠ 56 → zu I1 87 56 (nI (kc + l)) 87 k = I0 87 k := fun k h1 h2 => by rw [zu_at, if_neg (by omega)]; exact k1 87 k (by unfold SRu; omega)
    have j56 : zu I1 87 56 (nI (kc + l)) 87 56 = nI (kc + l) := by rw [zu_at, if_pos ⟨rfl, rfl⟩]
    have zA : ∀ kd pl rf bt V' K' R', zrUndo (zu I1 87 56 (nI (kc + l))) (uAdd (uRoom u) kd pl rf bt V' K' R') := fun kd pl rf bt V' K' R' => zrUndo_t (fun i k h => by rw [zu_at, if_neg (by omega)]) (z1 kd pl rf bt V' K' R')
    generalize zu I1 87 56 (nI (kc + l)) = I2 at *
    have vA : vR 0 I2 = V := by
      rw [← f1]
      unfold vR zV
      funext i c
      split
      · simp only [rA 119 (by omega) (by omega)]; split <;> simp [*]
      · split
        · rename_i g; simp only [rA (113 + i) (by omega) (by omega), rA 119 (by omega) (by omega)]
        · rfl
    refine mo_lays_put (np := pNp P) (wm := pR P 102 8) (by rw [rA 102 (by omega) (by omega)]; exact e1) hch vA hok hq hnp hl4 (fun I3 k3 v3 => ?_)
    refine zBlkR (M := mX10_put) (nL := 4) (rt := (Option.some .int)) (blk := bX10_put_67) (T := []) 0 hX10_put_67 zChks_nil rfl rfl rfl (Nat.le_of_ble_eq_true rfl) (Nat.le_of_ble_eq_true rfl) ?_
    simp (implicitDefEqProofs := false) only [bX10_put_67, zRun_cons, zRun_nil, zLk, zSto, zIns, zFil, zf0, zf1, zf2, zf3, List.filter_cons, List.filter_nil, Nat.reduceAdd, Nat.reduceEqDiff, Nat.reduceLT, Nat.reduceLeDiff, Nat.reduceBEq, Nat.reduceBNe, reduceIte, if_true, if_false, Bool.false_and, Bool.true_and, Bool.and_true, Bool.and_false, Bool.not_false, Bool.not_true, Bool.false_eq_true, beq_self_eq_true, BEq.rfl, zCat1, zCat2, zCat3, zKdI, zKdL, zKdR, true_and, and_true, zSI, zSL, zSR, zu_at, and_self, and_false, false_and, lv_args, zKdZ, zKdO, zB01, zB11, Option.toList_none, Option.toList_some, List.nil_append, List.cons_append, true_or, or_true, zRow_rd, zu_rd, zo_ireturn, zRt, zKn_0, zN10, zN01, not_true_eq_false, not_false_eq_true, false_implies, true_implies, implies_true, eq_self, nI_1, nI_40, nI_7, vz0, vz1, zb1_e0, zb1_n0]
    rw [hm]
    have okz : oOk (pCh P) (pNp P) (pR P 102 8) (oPuts q (pCh P) l V).2.1 := oOk_puts hok (Nat.le_refl _) hq
    have kB : zKpt SRw I0 I3 := kA.trans (k3.mono (fun i k g => by unfold zS114 at g; unfold SRw; omega))
    have q87 : ∀ k, k ≠ 78 → k ≠ 56 → I3 87 k = I0 87 k := fun k h1 h2 => by rw [k3 87 k (by unfold zS114; omega)]; exact r87 k h1 h2
    refine hQ I3 (k0.trans kB) (zRl_fr hR kB ⟨v3, ?_, ?_, ?_, ?_, ?_, f7⟩ ⟨okz, hR.2.2.2.2.2.2.1, hR.2.2.2.2.2.2.2.1, cr, hcr, hkl, ecr⟩) ?_
    · rw [q87 55 (by omega) (by omega)]; exact f2
    · rw [k3 87 56 (by unfold zS114; omega)]; exact j56
    · rw [q87 64 (by omega) (by omega)]; exact f4
    · rw [q87 65 (by omega) (by omega)]; exact f5
    · intro j hj
      rw [k3 121 j (by unfold zS114; omega), rA 121 (by omega) (by omega)]; exact f6 j hj
    · rw [uNote, if_neg (by rw [hm]; exact hl0)]
      exact zrUndo_t (fun i k h => k3 i k (by unfold zS114; omega)) (zA _ _ _ _ _ _ _)
set_option maxRecDepth 20000 in
theorem mo_bring (hR : zRl I L P V d t kc rt) (hU : UdOk P t V kc rt u) (hu : zrUndo I u) (hbad : ¬ (oIn x (pNp P) = true ∧ oIn y 41 = true) → Q (some (.int (-1))) (SH, zu I 87 2 0, L, RF p s r)) (hQ : ∀ q n, q < pNp P → x = nI q → n ≤ 40 → y = nI n → ∀ I', zKpt SRw I I' → zRl I' L P (oBris q (pCh P) (oLft P kc n) V).2.1 d t (kc + pcN (oBris q (pCh P) (oLft P kc n) V).2.2) rt → zrUndo I' (uNote u 1 q (oBris q (pCh P) (oLft P kc n) V).2.2 (oBris q (pCh P) (oLft P kc n) V).2.1 (kc + pcN (oBris q (pCh P) (oLft P kc n) V).2.2) rt) → Q (some (.int (nI (pcN (oBris q (pCh P) (oLft P kc n) V).2.2)))) (SH, I', L, RF p s r)) : zXM w mX10_bring rX10_bring [.ref 87, .int x, .int y] (SH, I, L, RF p s r) Q := by
  unfold zXM
  refine zBlkR (M := mX10_bring) (nL := 4) (rt := (Option.some .int)) (blk := bX10_bring_0) (T := []) 0 hX10_bring_0 zChks_nil rfl rfl rfl (Nat.le_of_ble_eq_true rfl) (Nat.le_of_ble_eq_true rfl) ?_
  simp (implicitDefEqProofs := false) only [bX10_bring_0, zRun_cons, zRun_nil, zLk, zSto, zIns, zFil, zf0, zf1, zf2, zf3, List.filter_cons, List.filter_nil, Nat.reduceAdd, Nat.reduceEqDiff, Nat.reduceLT, Nat.reduceLeDiff, Nat.reduceBEq, Nat.reduceBNe, reduceIte, if_true, if_false, Bool.false_and, Bool.true_and, Bool.and_true, Bool.and_false, Bool.not_false, Bool.not_true, Bool.false_eq_true, beq_self_eq_true, BEq.rfl, zCat1, zCat2, zCat3, zKdI, zKdL, zKdR, true_and, and_true, zSI, zSL, zSR, zu_at, and_self, and_false, false_and, lv_args, zKdZ, zKdO, zB01, zB11, Option.toList_none, Option.toList_some, List.nil_append, List.cons_append, true_or, or_true, zRow_rd, zu_rd, zo_aload_n, zo_iconst, zo_putfield, zo_putfield_2, zo_putfield_3, zo_iload_n, zi_0, zKd_10_2, zTy_10_2, zcl_0, sh_87, zPutC, zKn_0, zN10, zN01, not_true_eq_false, not_false_eq_true, false_implies, true_implies, implies_true, eq_self, nI_1, nI_40, nI_7, vz0, vz1, zb1_e0, zb1_n0]
  have k0 : zKpt SRw I (zu I 87 2 0) := zKpt_rfl.u (by unfold SRw; omega)
  have hR := zRl_t (zKpt_rfl.u (by unfold SRt; omega) : zKpt SRt I (zu I 87 2 0)) zKpt_rfl hR
  have hu : zrUndo (zu I 87 2 0) u := zrUndo_t (fun i k h => by rw [zu_at, if_neg (by omega)]) hu
  generalize zu I 87 2 0 = I0 at *
  have hch := hR.1.1
  have hnp : pNp P ≤ 5 := hR.1.2.1
  have hok := hR.2.2.2.2.2.1
  obtain ⟨cr, hcr, hkc, ecr⟩ := hR.2.2.2.2.2.2.2.2
  obtain ⟨f1, f2, f3, f4, f5, f6, f7⟩ := hR.2.2.2.2.1
  have r102 : I0 102 = pR P 102 := hR.2.2.1.1 102 (by omega) (by omega)
  have e1 : I0 102 1 = nI (pCh P) := by rw [r102]; exact hR.1.2.2.2.2.2.1
  have e7 : I0 102 7 = nI cr := by rw [r102]; exact ecr
  refine z_cV0 (M' := mX10_isPlace) (R' := rX10_isPlace) (i := 87) [.int x] [] eX10_isPlace k10_510 (by decide +kernel : decode cX10_bring 7 = .ok (.invokevirtual 510, 3)) (Nat.le_of_ble_eq_true rfl) ⟨Nat.le_of_ble_eq_true rfl, Nat.le_of_ble_eq_true rfl, Nat.le_of_ble_eq_true rfl, Nat.le_of_ble_eq_true rfl, Nat.le_of_ble_eq_true rfl⟩ rfl rfl rfl sh_87 ?_
  refine mo_isPlace hR.2.2.1.2.1 ?_
  cases hy : oIn x (pNp P) with
  | false =>
    refine zBlkR (M := mX10_bring) (nL := 4) (rt := (Option.some .int)) (blk := bX10_bring_10) (T := [(23, bX10_bring_23)]) 1 hX10_bring_10 (zChks_cons hX10_bring_23 zChks_nil) rfl rfl rfl (Nat.le_of_ble_eq_true rfl) (Nat.le_of_ble_eq_true rfl) ?_
    simp (implicitDefEqProofs := false) only [bX10_bring_10, bX10_bring_23, zRun_cons, zRun_nil, zLk, zSto, zIns, zFil, zf0, zf1, zf2, zf3, List.filter_cons, List.filter_nil, Nat.reduceAdd, Nat.reduceEqDiff, Nat.reduceLT, Nat.reduceLeDiff, Nat.reduceBEq, Nat.reduceBNe, reduceIte, if_true, if_false, Bool.false_and, Bool.true_and, Bool.and_true, Bool.and_false, Bool.not_false, Bool.not_true, Bool.false_eq_true, beq_self_eq_true, BEq.rfl, zCat1, zCat2, zCat3, zKdI, zKdL, zKdR, true_and, and_true, zSI, zSL, zSR, zu_at, and_self, and_false, false_and, lv_args, zKdZ, zKdO, zB01, zB11, Option.toList_none, Option.toList_some, List.nil_append, List.cons_append, true_or, or_true, zRow_rd, zu_rd, zo_if_eq, zo_iload_n, zo_iconst, zo_bipush, zo_ireturn, zi_0, zb_40, zi_m1, zcl_0, zcl_40, zRt, zKn_s, zKn_0, zFind, zb1_f, zN10, zN01, not_true_eq_false, not_false_eq_true, false_implies, true_implies, implies_true, eq_self, nI_1, nI_40, nI_7, vz0, vz1, zb1_e0, zb1_n0]
    exact hbad (by rw [hy]; simp)
  | true =>
  refine zBlkR (M := mX10_bring) (nL := 4) (rt := (Option.some .int)) (blk := bX10_bring_10) (T := [(23, bX10_bring_23)]) 1 hX10_bring_10 (zChks_cons hX10_bring_23 zChks_nil) rfl rfl rfl (Nat.le_of_ble_eq_true rfl) (Nat.le_of_ble_eq_true rfl) ?_
  simp (implicitDefEqProofs := false) only [bX10_bring_10, bX10_bring_23, zRun_cons, zRun_nil, zLk, zSto, zIns, zFil, zf0, zf1, zf2, zf3, List.filter_cons, List.filter_nil, Nat.reduceAdd, Nat.reduceEqDiff, Nat.reduceLT, Nat.reduceLeDiff, Nat.reduceBEq, Nat.reduceBNe, reduceIte, if_true, if_false, Bool.false_and, Bool.true_and, Bool.and_true, Bool.and_false, Bool.not_false, Bool.not_true, Bool.false_eq_true, beq_self_eq_true, BEq.rfl, zCat1, zCat2, zCat3, zKdI, zKdL, zKdR, true_and, and_true, zSI, zSL, zSR, zu_at, and_self, and_false, false_and, lv_args, zKdZ, zKdO, zB01, zB11, Option.toList_none, Option.toList_some, List.nil_append, List.cons_append, true_or, or_true, zRow_rd, zu_rd, zo_if_eq, zo_iload_n, zo_iconst, zo_bipush, zo_ireturn, zi_0, zb_40, zi_m1, zcl_0, zcl_40, zRt, zKn_s, zKn_0, zFind, zb1_t, zN10, zN01, not_true_eq_false, not_false_eq_true, false_implies, true_implies, implies_true, eq_self, nI_1, nI_40, nI_7, vz0, vz1, zb1_e0, zb1_n0]
  refine z_cS0 (M' := mX10_isIn) (R' := rX10_isIn) [.int y, .int 0, .int 40] [] eX10_isIn k10_223 (by decide +kernel : decode cX10_bring 17 = .ok (.invokestatic 223, 3)) (Nat.le_of_ble_eq_true rfl) ⟨Nat.le_of_ble_eq_true rfl, Nat.le_of_ble_eq_true rfl, Nat.le_of_ble_eq_true rfl, Nat.le_of_ble_eq_true rfl, Nat.le_of_ble_eq_true rfl⟩ rfl rfl rfl ?_
  refine mo_isIn ?_
  rw [show (!decide (y < 0) && !decide ((40 : Int32) < y)) = oIn y 41 from oIn_isIn (a := 40) (by omega)]
  cases hin : oIn y 41 with
  | false =>
    refine zBlkR (M := mX10_bring) (nL := 4) (rt := (Option.some .int)) (blk := bX10_bring_20) (T := [(25, bX10_bring_25)]) 1 hX10_bring_20 (zChks_cons hX10_bring_25 zChks_nil) rfl rfl rfl (Nat.le_of_ble_eq_true rfl) (Nat.le_of_ble_eq_true rfl) ?_
    simp (implicitDefEqProofs := false) only [bX10_bring_20, bX10_bring_25, zRun_cons, zRun_nil, zLk, zSto, zIns, zFil, zf0, zf1, zf2, zf3, List.filter_cons, List.filter_nil, Nat.reduceAdd, Nat.reduceEqDiff, Nat.reduceLT, Nat.reduceLeDiff, Nat.reduceBEq, Nat.reduceBNe, reduceIte, if_true, if_false, Bool.false_and, Bool.true_and, Bool.and_true, Bool.and_false, Bool.not_false, Bool.not_true, Bool.false_eq_true, beq_self_eq_true, BEq.rfl, zCat1, zCat2, zCat3, zKdI, zKdL, zKdR, true_and, and_true, zSI, zSL, zSR, zu_at, and_self, and_false, false_and, lv_args, zKdZ, zKdO, zB01, zB11, Option.toList_none, Option.toList_some, List.nil_append, List.cons_append, true_or, or_true, zRow_rd, zu_rd, zo_if_ne, zo_iconst, zo_ireturn, zo_aload_n, zo_iload_n, zi_m1, zi_0, zi_1, zcl_0, zcl_1, zRt, zKn_s, zKn_0, zFind, zb1_f, zN10, zN01, not_true_eq_false, not_false_eq_true, false_implies, true_implies, implies_true, eq_self, nI_1, nI_40, nI_7, vz0, vz1, zb1_e0, zb1_n0]
    exact hbad (by rw [hin]; simp)
  | true =>
  obtain ⟨q, hq, e1'⟩ := oIn_t hy (by omega)
  obtain ⟨n, hn, e2⟩ := oIn_t hin (by omega)
  subst e1' e2
  have hQ := hQ q n hq rfl (by omega) rfl
  have hlE : oLft P kc n = min n (cr - kc) := by unfold oLft; rw [ecr, nI_clamp (by omega)]
  refine zBlkR (M := mX10_bring) (nL := 4) (rt := (Option.some .int)) (blk := bX10_bring_20) (T := [(25, bX10_bring_25)]) 1 hX10_bring_20 (zChks_cons hX10_bring_25 zChks_nil) rfl rfl rfl (Nat.le_of_ble_eq_true rfl) (Nat.le_of_ble_eq_true rfl) ?_
  simp (implicitDefEqProofs := false) only [bX10_bring_20, bX10_bring_25, zRun_cons, zRun_nil, zLk, zSto, zIns, zFil, zf0, zf1, zf2, zf3, List.filter_cons, List.filter_nil, Nat.reduceAdd, Nat.reduceEqDiff, Nat.reduceLT, Nat.reduceLeDiff, Nat.reduceBEq, Nat.reduceBNe, reduceIte, if_true, if_false, Bool.false_and, Bool.true_and, Bool.and_true, Bool.and_false, Bool.not_false, Bool.not_true, Bool.false_eq_true, beq_self_eq_true, BEq.rfl, zCat1, zCat2, zCat3, zKdI, zKdL, zKdR, true_and, and_true, zSI, zSL, zSR, zu_at, and_self, and_false, false_and, lv_args, zKdZ, zKdO, zB01, zB11, Option.toList_none, Option.toList_some, List.nil_append, List.cons_append, true_or, or_true, zRow_rd, zu_rd, zo_if_ne, zo_iconst, zo_ireturn, zo_aload_n, zo_iload_n, zi_m1, zi_0, zi_1, zcl_0, zcl_1, zRt, zKn_s, zKn_0, zFind, zb1_t, zN10, zN01, not_true_eq_false, not_false_eq_true, false_implies, true_implies, implies_true, eq_self, nI_1, nI_40, nI_7, vz0, vz1, zb1_e0, zb1_n0]
  refine z_cV0 (M' := mX10_manyAt) (R' := rX10_manyAt) (i := 87) [.int 0, .int (nI q), .int 1] [.int (nI n), .ref 87] eX10_manyAt k10_444 (by decide +kernel : decode cX10_bring 31 = .ok (.invokevirtual 444, 3)) (Nat.le_of_ble_eq_true rfl) ⟨Nat.le_of_ble_eq_true rfl, Nat.le_of_ble_eq_true rfl, Nat.le_of_ble_eq_true rfl, Nat.le_of_ble_eq_true rfl, Nat.le_of_ble_eq_true rfl⟩ rfl rfl rfl sh_87 ?_
  refine mo_manyAt (b := 0) (by omega) hch e1 ?_
  rw [zMany_V f1 hch (by omega)]
  have hcl : oCnt V (nI q) 1 (pCh P) ≤ pCh P := zCnt_le _ _
  refine z_cV0 (M' := mX10_leftOf) (R' := rX10_leftOf) (i := 87) [.int (nI n), .int (nI (oCnt V (nI q) 1 (pCh P)))] [] eX10_leftOf k10_518 (by decide +kernel : decode cX10_bring 34 = .ok (.invokevirtual 518, 3)) (Nat.le_of_ble_eq_true rfl) ⟨Nat.le_of_ble_eq_true rfl, Nat.le_of_ble_eq_true rfl, Nat.le_of_ble_eq_true rfl, Nat.le_of_ble_eq_true rfl, Nat.le_of_ble_eq_true rfl⟩ rfl rfl rfl sh_87 ?_
  refine mo_leftOf e7 f3 hcr hkc (by omega) (by omega) ?_
  have hmin := oBris_min (q := q) (l := oLft P kc n) (V := V) (n := pCh P) (pCh P) (Nat.le_refl _)
  have hrem := oBris_rem (q := q) (l := oLft P kc n) (V := V) (pCh P)
  have hpc := oBris_pc (q := q) (l := oLft P kc n) (V := V) hch
  have hle : oCnt V (nI q) 1 (pCh P) ≤ 40 := by omega
  have hlm : min n (min (cr - kc) (oCnt V (nI q) 1 (pCh P))) = min (oLft P kc n) (oCnt V (nI q) 1 (pCh P)) := by rw [hlE]; omega
  rw [hlm]
  have hm : pcN (oBris q (pCh P) (oLft P kc n) V).2.2 = min (oLft P kc n) (oCnt V (nI q) 1 (pCh P)) := by omega
  have hl4 : min (oLft P kc n) (oCnt V (nI q) 1 (pCh P)) ≤ 40 := by omega
  have hkl : kc + min (oLft P kc n) (oCnt V (nI q) 1 (pCh P)) ≤ cr := by rw [hlE]; omega
  rw [hm] at hQ
  rw [hmin] at hQ hm
  generalize oLft P kc n = l0 at *
  generalize min l0 (oCnt V (nI q) 1 (pCh P)) = l at *
  by_cases hl0 : l = 0
  · subst hl0
    have hz : oBris q (pCh P) 0 V = (0, V, 0) := by
      have := oBris_0 (q := q) (l := 0) (V := V) (a := 0) rfl (pCh P)
      rw [Nat.zero_add] at this
      exact this
    rw [hz] at hQ
    rw [show uNote u 1 q (0, V, 0).2.2 (0, V, 0).2.1 (kc + 0) rt = u by unfold uNote; rw [if_pos (show pcN 0 = 0 by decide)]] at hQ
    refine zBlkR (M := mX10_bring) (nL := 4) (rt := (Option.some .int)) (blk := bX10_bring_37) (T := [(44, bX10_bring_44)]) 1 hX10_bring_37 (zChks_cons hX10_bring_44 zChks_nil) rfl rfl rfl (Nat.le_of_ble_eq_true rfl) (Nat.le_of_ble_eq_true rfl) ?_
    simp (implicitDefEqProofs := false) only [bX10_bring_37, bX10_bring_44, zRun_cons, zRun_nil, zLk, zSto, zIns, zFil, zf0, zf1, zf2, zf3, List.filter_cons, List.filter_nil, Nat.reduceAdd, Nat.reduceEqDiff, Nat.reduceLT, Nat.reduceLeDiff, Nat.reduceBEq, Nat.reduceBNe, reduceIte, if_true, if_false, Bool.false_and, Bool.true_and, Bool.and_true, Bool.and_false, Bool.not_false, Bool.not_true, Bool.false_eq_true, beq_self_eq_true, BEq.rfl, zCat1, zCat2, zCat3, zKdI, zKdL, zKdR, true_and, and_true, zSI, zSL, zSR, zu_at, and_self, and_false, false_and, lv_args, zKdZ, zKdO, zB01, zB11, Option.toList_none, Option.toList_some, List.nil_append, List.cons_append, true_or, or_true, zRow_rd, zu_rd, zo_istore_n, zo_iload_n, zo_if_ne, zo_iconst, zo_ireturn, zo_aload_n, zi_0, zcl_0, zRt, zKn_s, zKn_0, zFind, zN10, zN01, not_true_eq_false, not_false_eq_true, false_implies, true_implies, implies_true, eq_self, nI_1, nI_40, nI_7, vz0, vz1, zb1_e0, zb1_n0]
    exact ⟨fun g => absurd rfl g, fun _ => hQ I0 k0 hR hu⟩
  · have hn0 : ¬ nI l = 0 := nI_ne0 (by omega) (by omega)
    refine zBlkR (M := mX10_bring) (nL := 4) (rt := (Option.some .int)) (blk := bX10_bring_37) (T := [(44, bX10_bring_44)]) 1 hX10_bring_37 (zChks_cons hX10_bring_44 zChks_nil) rfl rfl rfl (Nat.le_of_ble_eq_true rfl) (Nat.le_of_ble_eq_true rfl) ?_
    simp (implicitDefEqProofs := false) only [bX10_bring_37, bX10_bring_44, zRun_cons, zRun_nil, zLk, zSto, zIns, zFil, zf0, zf1, zf2, zf3, List.filter_cons, List.filter_nil, Nat.reduceAdd, Nat.reduceEqDiff, Nat.reduceLT, Nat.reduceLeDiff, Nat.reduceBEq, Nat.reduceBNe, reduceIte, if_true, if_false, Bool.false_and, Bool.true_and, Bool.and_true, Bool.and_false, Bool.not_false, Bool.not_true, Bool.false_eq_true, beq_self_eq_true, BEq.rfl, zCat1, zCat2, zCat3, zKdI, zKdL, zKdR, true_and, and_true, zSI, zSL, zSR, zu_at, and_self, and_false, false_and, lv_args, zKdZ, zKdO, zB01, zB11, Option.toList_none, Option.toList_some, List.nil_append, List.cons_append, true_or, or_true, zRow_rd, zu_rd, zo_istore_n, zo_iload_n, zo_if_ne, zo_iconst, zo_ireturn, zo_aload_n, zi_0, zcl_0, zRt, zKn_s, zKn_0, zFind, hn0, zN10, zN01, not_true_eq_false, not_false_eq_true, false_implies, true_implies, implies_true, eq_self, nI_1, nI_40, nI_7, vz0, vz1, zb1_e0, zb1_n0]
    refine z_cV0 (M' := mX10_remember) (R' := rX10_remember) (i := 87) [] [] eX10_remember k10_521 (by decide +kernel : decode cX10_bring 45 = .ok (.invokevirtual 521, 3)) (Nat.le_of_ble_eq_true rfl) ⟨Nat.le_of_ble_eq_true rfl, Nat.le_of_ble_eq_true rfl, Nat.le_of_ble_eq_true rfl, Nat.le_of_ble_eq_true rfl, Nat.le_of_ble_eq_true rfl⟩ rfl rfl rfl sh_87 ?_
    refine mo_remember hu hU hR.2.2.2.2.1 hR.2.2.2.2.2.2.1 (fun I1 k1 z1 => ?_)
    have q56 : I1 87 56 = nI kc := by rw [k1 87 56 (by unfold SRu; omega)]; exact f3
    refine zBlkR (M := mX10_bring) (nL := 4) (rt := (Option.some .int)) (blk := bX10_bring_48) (T := []) 0 hX10_bring_48 zChks_nil rfl rfl rfl (Nat.le_of_ble_eq_true rfl) (Nat.le_of_ble_eq_true rfl) ?_
    simp (implicitDefEqProofs := false) only [bX10_bring_48, zRun_cons, zRun_nil, zLk, zSto, zIns, zFil, zf0, zf1, zf2, zf3, List.filter_cons, List.filter_nil, Nat.reduceAdd, Nat.reduceEqDiff, Nat.reduceLT, Nat.reduceLeDiff, Nat.reduceBEq, Nat.reduceBNe, reduceIte, if_true, if_false, Bool.false_and, Bool.true_and, Bool.and_true, Bool.and_false, Bool.not_false, Bool.not_true, Bool.false_eq_true, beq_self_eq_true, BEq.rfl, zCat1, zCat2, zCat3, zKdI, zKdL, zKdR, true_and, and_true, zSI, zSL, zSR, zu_at, and_self, and_false, false_and, lv_args, zKdZ, zKdO, zB01, zB11, Option.toList_none, Option.toList_some, List.nil_append, List.cons_append, true_or, or_true, zRow_rd, zu_rd, zo_aload_n, zo_dup, zo_getfield, zo_iload_n, zo_iadd, zo_putfield, zo_putfield_2, zo_putfield_3, zo_iconst, zi_1, zi_0, zi_m1, zKd_10_56, zTy_10_56, sh_87, zcl_1, zcl_0, zPutC, zKn_0, q56, nI_add, zN10, zN01, not_true_eq_false, not_false_eq_true, false_implies, true_implies, implies_true, eq_self, nI_1, nI_40, nI_7, vz0, vz1, zb1_e0, zb1_n0]
    refine z_cV0 (M' := mX10_lays) (R' := rX10_lays) (i := 87) [.int (nI l), .int 1, .int (nI q), .int 0, .int (-1)] [] eX10_lays k10_524 (by decide +kernel : decode cX10_bring 64 = .ok (.invokevirtual 524, 3)) (Nat.le_of_ble_eq_true rfl) ⟨Nat.le_of_ble_eq_true rfl, Nat.le_of_ble_eq_true rfl, Nat.le_of_ble_eq_true rfl, Nat.le_of_ble_eq_true rfl, Nat.le_of_ble_eq_true rfl⟩ rfl rfl rfl sh_87 ?_
    have kA : zKpt SRw I0 (zu I1 87 56 (nI (kc + l))) := (k1.mono (fun i k g => by unfold SRu at g; unfold SRw; omega)).u (by unfold SRw; omega)
    have rA : ∀ i, i ≠ 87 → (i < 123 ∨ 127 < i) → zu I1 87 56 (nI (kc + l)) i = I0 i := fun i h1 h2 => funext fun j => by rw [zu_at, if_neg (fun g => h1 g.1)]; exact k1 i j (by unfold SRu; omega)
    have r87 : ∀ k, k ≠ 78 → k ≠ 56 → zu I1 87 56 (nI (kc + l)) 87 k = I0 87 k := fun k h1 h2 => by rw [zu_at, if_neg (by omega)]; exact k1 87 k (by unfold SRu; omega)
    have j56 : zu I1 87 56 (nI (kc + l)) 87 56 = nI (kc + l) := by rw [zu_at, if_pos ⟨rfl, rfl⟩]
    have zA : ∀ kd pl rf bt V' K' R', zrUndo (zu I1 87 56 (nI (kc + l))) (uAdd (uRoom u) kd pl rf bt V' K' R') := fun kd pl rf bt V' K' R' => zrUndo_t (fun i k h => by rw [zu_at, if_neg (by omega)]) (z1 kd pl rf bt V' K' R')
    generalize zu I1 87 56 (nI (kc + l)) = I2 at *
    have vA : vR 0 I2 = V := by
      rw [← f1]
      unfold vR zV
      funext i c
      split
      · simp only [rA 119 (by omega) (by omega)]; split <;> simp [*]
      · split
        · rename_i g; simp only [rA (113 + i) (by omega) (by omega), rA 119 (by omega) (by omega)]
        · rfl
    refine mo_lays_bring (np := pNp P) (wm := pR P 102 8) (by rw [rA 102 (by omega) (by omega)]; exact e1) hch vA hok hq hnp hl4 (fun I3 k3 v3 => ?_)
    refine zBlkR (M := mX10_bring) (nL := 4) (rt := (Option.some .int)) (blk := bX10_bring_67) (T := []) 0 hX10_bring_67 zChks_nil rfl rfl rfl (Nat.le_of_ble_eq_true rfl) (Nat.le_of_ble_eq_true rfl) ?_
    simp (implicitDefEqProofs := false) only [bX10_bring_67, zRun_cons, zRun_nil, zLk, zSto, zIns, zFil, zf0, zf1, zf2, zf3, List.filter_cons, List.filter_nil, Nat.reduceAdd, Nat.reduceEqDiff, Nat.reduceLT, Nat.reduceLeDiff, Nat.reduceBEq, Nat.reduceBNe, reduceIte, if_true, if_false, Bool.false_and, Bool.true_and, Bool.and_true, Bool.and_false, Bool.not_false, Bool.not_true, Bool.false_eq_true, beq_self_eq_true, BEq.rfl, zCat1, zCat2, zCat3, zKdI, zKdL, zKdR, true_and, and_true, zSI, zSL, zSR, zu_at, and_self, and_false, false_and, lv_args, zKdZ, zKdO, zB01, zB11, Option.toList_none, Option.toList_some, List.nil_append, List.cons_append, true_or, or_true, zRow_rd, zu_rd, zo_ireturn, zRt, zKn_0, zN10, zN01, not_true_eq_false, not_false_eq_true, false_implies, true_implies, implies_true, eq_self, nI_1, nI_40, nI_7, vz0, vz1, zb1_e0, zb1_n0]
    rw [hm]
    have okz : oOk (pCh P) (pNp P) (pR P 102 8) (oBris q (pCh P) l V).2.1 := oOk_bris hok
    have kB : zKpt SRw I0 I3 := kA.trans (k3.mono (fun i k g => by unfold zS114 at g; unfold SRw; omega))
    have q87 : ∀ k, k ≠ 78 → k ≠ 56 → I3 87 k = I0 87 k := fun k h1 h2 => by rw [k3 87 k (by unfold zS114; omega)]; exact r87 k h1 h2
    refine hQ I3 (k0.trans kB) (zRl_fr hR kB ⟨v3, ?_, ?_, ?_, ?_, ?_, f7⟩ ⟨okz, hR.2.2.2.2.2.2.1, hR.2.2.2.2.2.2.2.1, cr, hcr, hkl, ecr⟩) ?_
    · rw [q87 55 (by omega) (by omega)]; exact f2
    · rw [k3 87 56 (by unfold zS114; omega)]; exact j56
    · rw [q87 64 (by omega) (by omega)]; exact f4
    · rw [q87 65 (by omega) (by omega)]; exact f5
    · intro j hj
      rw [k3 121 j (by unfold zS114; omega), rA 121 (by omega) (by omega)]; exact f6 j hj
    · rw [uNote, if_neg (by rw [hm]; exact hl0)]
      exact zrUndo_t (fun i k h => k3 i k (by unfold zS114; omega)) (zA _ _ _ _ _ _ _)
end ZU95
