/-! ===== THE TAPE: feed, both sides ===== -/
/-- how many bytes, and which -/
abbrev oTp : Type := Nat × (Nat → Nat)
def oSb (b : Nat) : Int32 := (nI b).toInt8.toInt32
def zcTp (I : Nat → Nat → Int32) (T : oTp) : Prop := I 1 2 = nI T.1 ∧ ∀ i, i < T.1 → I 2 i = oSb (T.2 i)
def zrTp (I : Nat → Nat → Int32) (T : oTp) : Prop := I 87 1 = nI T.1 ∧ ∀ i, i < T.1 → I 88 i = nI (T.2 i)
def TpOk (T : oTp) : Prop := T.1 ≤ 700 ∧ ∀ i, i < T.1 → T.2 i < 256
def fWd (x y z v u : Int32) (k : Nat) : Int32 := if 16 ≤ k then u else if 12 ≤ k then v else if 8 ≤ k then z else if 4 ≤ k then y else x
def oBy (x : Int32) (j : Nat) : Nat := ((x >>> (nI (24 - 8 * j) &&& 31)).toBitVec.toNat % 256)
def oFeed (T : oTp) (x y z v u : Int32) : oTp := if T.1 + 20 ≤ 700 then (T.1 + 20, fun i => if i < T.1 then T.2 i else oBy (fWd x y z v u (i - T.1)) ((i - T.1) % 4)) else T
def aFeed (T : oTp) : Int32 := if T.1 + 20 ≤ 700 then nI (T.1 + 20) else -1
def STp (i k : Nat) : Prop := (i = 1 ∧ k = 2) ∨ i = 2
def SRTp (i k : Nat) : Prop := (i = 87 ∧ (k = 1 ∨ k = 2)) ∨ i = 88
section ZF98
variable {w : zP} {Q : Option Value → zMem → Prop} {μ : zMem} {I J V V' S : Nat → Nat → Int32} {L K : Nat → Nat → Int64} {p s t kc kc' t' : Nat} {r : Option Nat} {P : oPn} {a b c i k q n l j : Nat} {x y z v u : Int32} {T : oTp}
theorem and255 (y : Int32) : y &&& 255 = nI (y.toBitVec.toNat % 256) := pk_and y (m := 255) 8 (by decide)
theorem i8_255 (y : Int32) : (y &&& 255).toInt8 = y.toInt8 := by
  rw [Int32.toInt8_and]
  have : (255 : Int32).toInt8 = -1 := rfl
  rw [this]
  exact Int8.and_neg_one
theorem oSb_by (y : Int32) : oSb (y.toBitVec.toNat % 256) = y.toInt8.toInt32 := by
  unfold oSb
  rw [← and255, i8_255]
theorem nar_b (y : Int32) : vp_nar .byte y.toInt8.toInt32 = y.toInt8.toInt32 := by
  show y.toInt8.toInt32.toInt8.toInt32 = _
  rw [Int8.toInt8_toInt32]
theorem sh24 : ∀ j, j < 4 → ((24 - 8 * nI j < 0) = False) ∧ 24 - 8 * nI j + -8 = 24 - 8 * nI (j + 1) ∧ 24 - 8 * nI j = nI (24 - 8 * j) := by
  intro j hj
  have : j = 0 ∨ j = 1 ∨ j = 2 ∨ j = 3 := by omega
  rcases this with rfl | rfl | rfl | rfl <;> exact ⟨eq_false (by decide), by decide, by decide⟩
theorem TpOk_feed (h : TpOk T) : TpOk (oFeed T x y z v u) := by
  unfold oFeed
  split
  · rename_i h2
    refine ⟨h2, fun i _ => ?_⟩
    show (if i < T.1 then T.2 i else _) < 256
    split
    · rename_i h3; exact h.2 i h3
    · exact Nat.mod_lt _ (by decide)
  · exact h
set_option maxRecDepth 20000 in
theorem cl_append (hn : I 1 2 = nI n) (h7 : n + 4 ≤ 700) (hQ : ∀ I', zKpt STp I I' → I' 1 2 = nI (n + 4) → (∀ i, i < n → I' 2 i = I 2 i) → (∀ j, j < 4 → I' 2 (n + j) = oSb (oBy x j)) → Q none (SH, I', L, RF p s r)) : zXM w mX7_append rX7_append [.ref 1, .int x] (SH, I, L, RF p s r) Q := by
  unfold zXM
  refine zBlkR (M := mX7_append) (nL := 3) (rt := (Option.none : Option Jvm.ClassFile.FieldType)) (blk := bX7_append_0) (T := []) 0 hX7_append_0 zChks_nil rfl rfl rfl (Nat.le_of_ble_eq_true rfl) (Nat.le_of_ble_eq_true rfl) ?_
  simp (implicitDefEqProofs := false) only [bX7_append_0, zRun_cons, zRun_nil, zLk, zSto, zIns, zFil, zf0, zf1, zf2, zf3, List.filter_cons, List.filter_nil, Nat.reduceAdd, Nat.reduceEqDiff, Nat.reduceLT, Nat.reduceLeDiff, Nat.reduceBEq, Nat.reduceBNe, reduceIte, if_true, if_false, Bool.false_and, Bool.true_and, Bool.and_true, Bool.and_false, Bool.not_false, Bool.not_true, Bool.false_eq_true, beq_self_eq_true, BEq.rfl, zCat1, zCat2, zCat3, zKdI, zKdL, zKdR, true_and, and_true, zSI, zSL, zSR, zu_at, and_self, and_false, false_and, lv_args, zKdZ, zKdO, zB01, zB11, Option.toList_none, Option.toList_some, List.nil_append, List.cons_append, true_or, or_true, zRow_rd, zu_rd, zo_bipush, zo_istore_n, zb_24, zcl_24, zKn_0, zN10, zN01, not_true_eq_false, not_false_eq_true, false_implies, true_implies, implies_true, eq_self, nI_1, nI_40, nI_7, vz0, vz1, zb1_e0, zb1_n0]
  suffices key : zX w mX7_append rX7_append Q 0 0 3 [(0, Value.ref 1), (1, Value.int x), (2, Value.int (24 - 8 * nI 0))] [] (SH, I, L, RF p s r) by exact key
  refine zLoop (n := 4) (P := fun j => ∀ J, zKpt STp I J → J 1 2 = nI (n + j) → (∀ i, i < n → J 2 i = I 2 i) → (∀ a, a < j → J 2 (n + a) = oSb (oBy x a)) → zX w mX7_append rX7_append Q 0 0 3 [(0, Value.ref 1), (1, Value.int x), (2, Value.int (24 - 8 * nI j))] [] (SH, J, L, RF p s r)) (fun j hj ih => ?_) 0 (Nat.zero_le _) I zKpt_rfl hn (fun _ _ => rfl) (fun a ha => absurd ha (by omega))
  intro J hJ hc hlo hnew
  by_cases hje : j = 4
  · subst hje
    have h0 : ((24 : Int32) - 8 * nI 4 < 0) = True := eq_true (by decide)
    refine zBlkR (M := mX7_append) (nL := 3) (rt := (Option.none : Option Jvm.ClassFile.FieldType)) (blk := bX7_append_3) (T := [(46, bX7_append_46)]) 1 hX7_append_3 (zChks_cons hX7_append_46 zChks_nil) rfl rfl rfl (Nat.le_of_ble_eq_true rfl) (Nat.le_of_ble_eq_true rfl) ?_
    simp (implicitDefEqProofs := false) only [bX7_append_3, bX7_append_46, zRun_cons, zRun_nil, zLk, zSto, zIns, zFil, zf0, zf1, zf2, zf3, List.filter_cons, List.filter_nil, Nat.reduceAdd, Nat.reduceEqDiff, Nat.reduceLT, Nat.reduceLeDiff, Nat.reduceBEq, Nat.reduceBNe, reduceIte, if_true, if_false, Bool.false_and, Bool.true_and, Bool.and_true, Bool.and_false, Bool.not_false, Bool.not_true, Bool.false_eq_true, beq_self_eq_true, BEq.rfl, zCat1, zCat2, zCat3, zKdI, zKdL, zKdR, true_and, and_true, zSI, zSL, zSR, zu_at, and_self, and_false, false_and, lv_args, zKdZ, zKdO, zB01, zB11, Option.toList_none, Option.toList_some, List.nil_append, List.cons_append, true_or, or_true, zRow_rd, zu_rd, zo_iload_n, zo_if_lt, zo_aload_n, zo_getfield, zo_sipush, zo_icmp_ge, zo_ishr, zo_i2b, zo_bastore, zo_dup, zo_iconst, zo_iadd, zo_putfield, zo_putfield_2, zo_putfield_3, zo_iinc, zo_goto, zo_return_, zs_700, zi_1, zi_m8, zKd_7_2, zKd_7_0, zTy_7_2, sh_1, zcl_700, rf_1_0, sh_2, zcl_1, zvi_1_700, zPutC, zKn_s, zKn_0, zFind, h0, zN10, zN01, not_true_eq_false, not_false_eq_true, false_implies, true_implies, implies_true, eq_self, nI_1, nI_40, nI_7, vz0, vz1, zb1_e0, zb1_n0]
    exact hQ J hJ hc hlo hnew
  · obtain ⟨h0, h8, h9⟩ := sh24 j (by omega)
    have hx : ((700 : Int32) ≤ nI (n + j)) = False := eq_false (by rw [show (700 : Int32) = nI 700 from rfl, zle_nat (by omega) (by omega)]; omega)
    have hv : vp_in (nI (n + j)) 700 := zvn (by omega) (by omega)
    refine zBlkR (M := mX7_append) (nL := 3) (rt := (Option.none : Option Jvm.ClassFile.FieldType)) (blk := bX7_append_3) (T := [(46, bX7_append_46)]) 1 hX7_append_3 (zChks_cons hX7_append_46 zChks_nil) rfl rfl rfl (Nat.le_of_ble_eq_true rfl) (Nat.le_of_ble_eq_true rfl) ?_
    simp (implicitDefEqProofs := false) only [bX7_append_3, bX7_append_46, zRun_cons, zRun_nil, zLk, zSto, zIns, zFil, zf0, zf1, zf2, zf3, List.filter_cons, List.filter_nil, Nat.reduceAdd, Nat.reduceEqDiff, Nat.reduceLT, Nat.reduceLeDiff, Nat.reduceBEq, Nat.reduceBNe, reduceIte, if_true, if_false, Bool.false_and, Bool.true_and, Bool.and_true, Bool.and_false, Bool.not_false, Bool.not_true, Bool.false_eq_true, beq_self_eq_true, BEq.rfl, zCat1, zCat2, zCat3, zKdI, zKdL, zKdR, true_and, and_true, zSI, zSL, zSR, zu_at, and_self, and_false, false_and, lv_args, zKdZ, zKdO, zB01, zB11, Option.toList_none, Option.toList_some, List.nil_append, List.cons_append, true_or, or_true, zRow_rd, zu_rd, zo_iload_n, zo_if_lt, zo_aload_n, zo_getfield, zo_sipush, zo_icmp_ge, zo_ishr, zo_i2b, zo_bastore, zo_dup, zo_iconst, zo_iadd, zo_putfield, zo_putfield_2, zo_putfield_3, zo_iinc, zo_goto, zo_return_, zs_700, zi_1, zi_m8, zKd_7_2, zKd_7_0, zTy_7_2, sh_1, zcl_700, rf_1_0, sh_2, zcl_1, zvi_1_700, zPutC, zKn_s, zKn_0, zFind, hv, hc, hx, h0, h8, nar_b, nI_clamp (n := n + j) (by omega), zN10, zN01, not_true_eq_false, not_false_eq_true, false_implies, true_implies, implies_true, eq_self, nI_1, nI_40, nI_7, vz0, vz1, zb1_e0, zb1_n0]
    refine ih (by omega) _ ((hJ.u ?_).u ?_) ?_ (fun i hi => ?_) (fun a ha => ?_)
    · unfold STp; omega
    · unfold STp; omega
    · simp [zu_at]; rfl
    · rw [zu_at, if_neg (by omega), zu_at, if_neg (by omega)]; exact hlo i hi
    · rw [zu_at, if_neg (by omega), zu_at]
      by_cases e : a = j
      · subst e
        rw [if_pos ⟨rfl, rfl⟩, h9]
        unfold oBy
        rw [oSb_by]
      · rw [if_neg (by omega)]; exact hnew a (by omega)
set_option maxRecDepth 20000 in
theorem cl_feed (hT : zcTp I T) (hO : TpOk T) (hQ : ∀ I', zKpt STp I I' → zcTp I' (oFeed T x y z v u) → Q (some (.int (aFeed T))) (SH, I', L, RF p s r)) : zXM w mX9_feed rX9_feed [.ref 0, .int x, .int y, .int z, .int v, .int u] (SH, I, L, RF p s r) Q := by
  unfold zXM
  have hn := hT.1
  have h7 := hO.1
  have e20 : nI T.1 + 20 = nI (T.1 + 20) := by rw [show (20 : Int32) = nI 20 from rfl, nI_add]
  unfold oFeed aFeed at hQ
  by_cases hb : T.1 + 20 ≤ 700
  · have hx : (nI (T.1 + 20) ≤ 700) = True := eq_true (by rw [show (700 : Int32) = nI 700 from rfl, zle_nat (by omega) (by omega)]; exact hb)
    rw [if_pos hb, if_pos hb] at hQ
    refine zBlkR (M := mX9_feed) (nL := 6) (rt := (Option.some .int)) (blk := bX9_feed_0) (T := [(18, bX9_feed_18)]) 1 hX9_feed_0 (zChks_cons hX9_feed_18 zChks_nil) rfl rfl rfl (Nat.le_of_ble_eq_true rfl) (Nat.le_of_ble_eq_true rfl) ?_
    simp (implicitDefEqProofs := false) only [bX9_feed_0, bX9_feed_18, zRun_cons, zRun_nil, zLk, zSto, zIns, zFil, zf0, zf1, zf2, zf3, List.filter_cons, List.filter_nil, Nat.reduceAdd, Nat.reduceEqDiff, Nat.reduceLT, Nat.reduceLeDiff, Nat.reduceBEq, Nat.reduceBNe, reduceIte, if_true, if_false, Bool.false_and, Bool.true_and, Bool.and_true, Bool.and_false, Bool.not_false, Bool.not_true, Bool.false_eq_true, beq_self_eq_true, BEq.rfl, zCat1, zCat2, zCat3, zKdI, zKdL, zKdR, true_and, and_true, zSI, zSL, zSR, zu_at, and_self, and_false, false_and, lv_args, zKdZ, zKdO, zB01, zB11, Option.toList_none, Option.toList_some, List.nil_append, List.cons_append, true_or, or_true, zRow_rd, zu_rd, zo_aload_n, zo_getfield, zo_bipush, zo_iadd, zo_sipush, zo_icmp_le, zo_iconst, zo_ireturn, zo_iload_n, zb_20, zs_700, zi_m1, zKd_9_0, zKd_7_2, sh_0, rf_0_0, sh_1, zcl_20, zcl_700, zRt, zKn_s, zKn_0, zFind, hn, e20, hx, zN10, zN01, not_true_eq_false, not_false_eq_true, false_implies, true_implies, implies_true, eq_self, nI_1, nI_40, nI_7, vz0, vz1, zb1_e0, zb1_n0]
    refine z_cV0 (M' := mX7_append) (R' := rX7_append) (i := 1) [.int x] [] eX7_append k9_102 (by decide +kernel : decode cX9_feed 23 = .ok (.invokevirtual 102, 3)) (Nat.le_of_ble_eq_true rfl) ⟨Nat.le_of_ble_eq_true rfl, Nat.le_of_ble_eq_true rfl, Nat.le_of_ble_eq_true rfl, Nat.le_of_ble_eq_true rfl, Nat.le_of_ble_eq_true rfl⟩ rfl rfl rfl sh_1 ?_
    refine cl_append hn (by omega) (fun I1 k1 n1 o1 w1 => ?_)
    refine zBlkR (M := mX9_feed) (nL := 6) (rt := (Option.some .int)) (blk := bX9_feed_26) (T := []) 0 hX9_feed_26 zChks_nil rfl rfl rfl (Nat.le_of_ble_eq_true rfl) (Nat.le_of_ble_eq_true rfl) ?_
    simp (implicitDefEqProofs := false) only [bX9_feed_26, zRun_cons, zRun_nil, zLk, zSto, zIns, zFil, zf0, zf1, zf2, zf3, List.filter_cons, List.filter_nil, Nat.reduceAdd, Nat.reduceEqDiff, Nat.reduceLT, Nat.reduceLeDiff, Nat.reduceBEq, Nat.reduceBNe, reduceIte, if_true, if_false, Bool.false_and, Bool.true_and, Bool.and_true, Bool.and_false, Bool.not_false, Bool.not_true, Bool.false_eq_true, beq_self_eq_true, BEq.rfl, zCat1, zCat2, zCat3, zKdI, zKdL, zKdR, true_and, and_true, zSI, zSL, zSR, zu_at, and_self, and_false, false_and, lv_args, zKdZ, zKdO, zB01, zB11, Option.toList_none, Option.toList_some, List.nil_append, List.cons_append, true_or, or_true, zRow_rd, zu_rd, zo_aload_n, zo_getfield, zo_iload_n, zKd_9_0, sh_0, rf_0_0, sh_1, zKn_0, zN10, zN01, not_true_eq_false, not_false_eq_true, false_implies, true_implies, implies_true, eq_self, nI_1, nI_40, nI_7, vz0, vz1, zb1_e0, zb1_n0]
    refine z_cV0 (M' := mX7_append) (R' := rX7_append) (i := 1) [.int y] [] eX7_append k9_102 (by decide +kernel : decode cX9_feed 31 = .ok (.invokevirtual 102, 3)) (Nat.le_of_ble_eq_true rfl) ⟨Nat.le_of_ble_eq_true rfl, Nat.le_of_ble_eq_true rfl, Nat.le_of_ble_eq_true rfl, Nat.le_of_ble_eq_true rfl, Nat.le_of_ble_eq_true rfl⟩ rfl rfl rfl sh_1 ?_
    refine cl_append n1 (by omega) (fun I2 k2 n2 o2 w2 => ?_)
    refine zBlkR (M := mX9_feed) (nL := 6) (rt := (Option.some .int)) (blk := bX9_feed_34) (T := []) 0 hX9_feed_34 zChks_nil rfl rfl rfl (Nat.le_of_ble_eq_true rfl) (Nat.le_of_ble_eq_true rfl) ?_
    simp (implicitDefEqProofs := false) only [bX9_feed_34, zRun_cons, zRun_nil, zLk, zSto, zIns, zFil, zf0, zf1, zf2, zf3, List.filter_cons, List.filter_nil, Nat.reduceAdd, Nat.reduceEqDiff, Nat.reduceLT, Nat.reduceLeDiff, Nat.reduceBEq, Nat.reduceBNe, reduceIte, if_true, if_false, Bool.false_and, Bool.true_and, Bool.and_true, Bool.and_false, Bool.not_false, Bool.not_true, Bool.false_eq_true, beq_self_eq_true, BEq.rfl, zCat1, zCat2, zCat3, zKdI, zKdL, zKdR, true_and, and_true, zSI, zSL, zSR, zu_at, and_self, and_false, false_and, lv_args, zKdZ, zKdO, zB01, zB11, Option.toList_none, Option.toList_some, List.nil_append, List.cons_append, true_or, or_true, zRow_rd, zu_rd, zo_aload_n, zo_getfield, zo_iload_n, zKd_9_0, sh_0, rf_0_0, sh_1, zKn_0, zN10, zN01, not_true_eq_false, not_false_eq_true, false_implies, true_implies, implies_true, eq_self, nI_1, nI_40, nI_7, vz0, vz1, zb1_e0, zb1_n0]
    refine z_cV0 (M' := mX7_append) (R' := rX7_append) (i := 1) [.int z] [] eX7_append k9_102 (by decide +kernel : decode cX9_feed 39 = .ok (.invokevirtual 102, 3)) (Nat.le_of_ble_eq_true rfl) ⟨Nat.le_of_ble_eq_true rfl, Nat.le_of_ble_eq_true rfl, Nat.le_of_ble_eq_true rfl, Nat.le_of_ble_eq_true rfl, Nat.le_of_ble_eq_true rfl⟩ rfl rfl rfl sh_1 ?_
    refine cl_append n2 (by omega) (fun I3 k3 n3 o3 w3 => ?_)
    refine zBlkR (M := mX9_feed) (nL := 6) (rt := (Option.some .int)) (blk := bX9_feed_42) (T := []) 0 hX9_feed_42 zChks_nil rfl rfl rfl (Nat.le_of_ble_eq_true rfl) (Nat.le_of_ble_eq_true rfl) ?_
    simp (implicitDefEqProofs := false) only [bX9_feed_42, zRun_cons, zRun_nil, zLk, zSto, zIns, zFil, zf0, zf1, zf2, zf3, List.filter_cons, List.filter_nil, Nat.reduceAdd, Nat.reduceEqDiff, Nat.reduceLT, Nat.reduceLeDiff, Nat.reduceBEq, Nat.reduceBNe, reduceIte, if_true, if_false, Bool.false_and, Bool.true_and, Bool.and_true, Bool.and_false, Bool.not_false, Bool.not_true, Bool.false_eq_true, beq_self_eq_true, BEq.rfl, zCat1, zCat2, zCat3, zKdI, zKdL, zKdR, true_and, and_true, zSI, zSL, zSR, zu_at, and_self, and_false, false_and, lv_args, zKdZ, zKdO, zB01, zB11, Option.toList_none, Option.toList_some, List.nil_append, List.cons_append, true_or, or_true, zRow_rd, zu_rd, zo_aload_n, zo_getfield, zo_iload, zKd_9_0, sh_0, rf_0_0, sh_1, zKn_0, zN10, zN01, not_true_eq_false, not_false_eq_true, false_implies, true_implies, implies_true, eq_self, nI_1, nI_40, nI_7, vz0, vz1, zb1_e0, zb1_n0]
    refine z_cV0 (M' := mX7_append) (R' := rX7_append) (i := 1) [.int v] [] eX7_append k9_102 (by decide +kernel : decode cX9_feed 48 = .ok (.invokevirtual 102, 3)) (Nat.le_of_ble_eq_true rfl) ⟨Nat.le_of_ble_eq_true rfl, Nat.le_of_ble_eq_true rfl, Nat.le_of_ble_eq_true rfl, Nat.le_of_ble_eq_true rfl, Nat.le_of_ble_eq_true rfl⟩ rfl rfl rfl sh_1 ?_
    refine cl_append n3 (by omega) (fun I4 k4 n4 o4 w4 => ?_)
    refine zBlkR (M := mX9_feed) (nL := 6) (rt := (Option.some .int)) (blk := bX9_feed_51) (T := []) 0 hX9_feed_51 zChks_nil rfl rfl rfl (Nat.le_of_ble_eq_true rfl) (Nat.le_of_ble_eq_true rfl) ?_
    simp (implicitDefEqProofs := false) only [bX9_feed_51, zRun_cons, zRun_nil, zLk, zSto, zIns, zFil, zf0, zf1, zf2, zf3, List.filter_cons, List.filter_nil, Nat.reduceAdd, Nat.reduceEqDiff, Nat.reduceLT, Nat.reduceLeDiff, Nat.reduceBEq, Nat.reduceBNe, reduceIte, if_true, if_false, Bool.false_and, Bool.true_and, Bool.and_true, Bool.and_false, Bool.not_false, Bool.not_true, Bool.false_eq_true, beq_self_eq_true, BEq.rfl, zCat1, zCat2, zCat3, zKdI, zKdL, zKdR, true_and, and_true, zSI, zSL, zSR, zu_at, and_self, and_false, false_and, lv_args, zKdZ, zKdO, zB01, zB11, Option.toList_none, Option.toList_some, List.nil_append, List.cons_append, true_or, or_true, zRow_rd, zu_rd, zo_aload_n, zo_getfield, zo_iload, zKd_9_0, sh_0, rf_0_0, sh_1, zKn_0, zN10, zN01, not_true_eq_false, not_false_eq_true, false_implies, true_implies, implies_true, eq_self, nI_1, nI_40, nI_7, vz0, vz1, zb1_e0, zb1_n0]
    refine z_cV0 (M' := mX7_append) (R' := rX7_append) (i := 1) [.int u] [] eX7_append k9_102 (by decide +kernel : decode cX9_feed 57 = .ok (.invokevirtual 102, 3)) (Nat.le_of_ble_eq_true rfl) ⟨Nat.le_of_ble_eq_true rfl, Nat.le_of_ble_eq_true rfl, Nat.le_of_ble_eq_true rfl, Nat.le_of_ble_eq_true rfl, Nat.le_of_ble_eq_true rfl⟩ rfl rfl rfl sh_1 ?_
    refine cl_append n4 (by omega) (fun I5 k5 n5 o5 w5 => ?_)
    have n5' : I5 1 2 = nI (T.1 + 20) := n5
    refine zBlkR (M := mX9_feed) (nL := 6) (rt := (Option.some .int)) (blk := bX9_feed_60) (T := []) 0 hX9_feed_60 zChks_nil rfl rfl rfl (Nat.le_of_ble_eq_true rfl) (Nat.le_of_ble_eq_true rfl) ?_
    simp (implicitDefEqProofs := false) only [bX9_feed_60, zRun_cons, zRun_nil, zLk, zSto, zIns, zFil, zf0, zf1, zf2, zf3, List.filter_cons, List.filter_nil, Nat.reduceAdd, Nat.reduceEqDiff, Nat.reduceLT, Nat.reduceLeDiff, Nat.reduceBEq, Nat.reduceBNe, reduceIte, if_true, if_false, Bool.false_and, Bool.true_and, Bool.and_true, Bool.and_false, Bool.not_false, Bool.not_true, Bool.false_eq_true, beq_self_eq_true, BEq.rfl, zCat1, zCat2, zCat3, zKdI, zKdL, zKdR, true_and, and_true, zSI, zSL, zSR, zu_at, and_self, and_false, false_and, lv_args, zKdZ, zKdO, zB01, zB11, Option.toList_none, Option.toList_some, List.nil_append, List.cons_append, true_or, or_true, zRow_rd, zu_rd, zo_aload_n, zo_getfield, zo_ireturn, zKd_9_0, zKd_7_2, sh_0, rf_0_0, sh_1, zRt, zKn_0, n5', zN10, zN01, not_true_eq_false, not_false_eq_true, false_implies, true_implies, implies_true, eq_self, nI_1, nI_40, nI_7, vz0, vz1, zb1_e0, zb1_n0]
    refine hQ I5 ((((k1.trans k2).trans k3).trans k4).trans k5) ⟨n5, fun i hi => ?_⟩
    show I5 2 i = oSb (if i < T.1 then T.2 i else oBy (fWd x y z v u (i - T.1)) ((i - T.1) % 4))
    have hi : i < T.1 + 20 := hi
    by_cases c0 : i < T.1
    · rw [if_pos c0, o5 i (by omega), o4 i (by omega), o3 i (by omega), o2 i (by omega), o1 i (by omega)]
      exact hT.2 i c0
    rw [if_neg c0]
    obtain ⟨k, rfl⟩ : ∃ k, i = T.1 + k := ⟨i - T.1, by omega⟩
    rw [Nat.add_sub_cancel_left]
    unfold fWd
    by_cases c5 : 16 ≤ k
    · rw [if_pos c5]
      have := w5 (k - 16) (by omega)
      rw [show T.1 + 4 + 4 + 4 + 4 + (k - 16) = T.1 + k by omega, show k - 16 = k % 4 by omega] at this
      exact this
    rw [if_neg c5, o5 _ (by omega)]
    by_cases c4 : 12 ≤ k
    · rw [if_pos c4]
      have := w4 (k - 12) (by omega)
      rw [show T.1 + 4 + 4 + 4 + (k - 12) = T.1 + k by omega, show k - 12 = k % 4 by omega] at this
      exact this
    rw [if_neg c4, o4 _ (by omega)]
    by_cases c3 : 8 ≤ k
    · rw [if_pos c3]
      have := w3 (k - 8) (by omega)
      rw [show T.1 + 4 + 4 + (k - 8) = T.1 + k by omega, show k - 8 = k % 4 by omega] at this
      exact this
    rw [if_neg c3, o3 _ (by omega)]
    by_cases c2 : 4 ≤ k
    · rw [if_pos c2]
      have := w2 (k - 4) (by omega)
      rw [show T.1 + 4 + (k - 4) = T.1 + k by omega, show k - 4 = k % 4 by omega] at this
      exact this
    rw [if_neg c2, o2 _ (by omega)]
    have := w1 k (by omega)
    rw [show oBy x k = oBy x (k % 4) by rw [Nat.mod_eq_of_lt (by omega)]] at this
    exact this
  · have hx : (nI (T.1 + 20) ≤ 700) = False := eq_false (by rw [show (700 : Int32) = nI 700 from rfl, zle_nat (by omega) (by omega)]; exact hb)
    rw [if_neg hb, if_neg hb] at hQ
    refine zBlkR (M := mX9_feed) (nL := 6) (rt := (Option.some .int)) (blk := bX9_feed_0) (T := [(18, bX9_feed_18)]) 1 hX9_feed_0 (zChks_cons hX9_feed_18 zChks_nil) rfl rfl rfl (Nat.le_of_ble_eq_true rfl) (Nat.le_of_ble_eq_true rfl) ?_
    simp (implicitDefEqProofs := false) only [bX9_feed_0, bX9_feed_18, zRun_cons, zRun_nil, zLk, zSto, zIns, zFil, zf0, zf1, zf2, zf3, List.filter_cons, List.filter_nil, Nat.reduceAdd, Nat.reduceEqDiff, Nat.reduceLT, Nat.reduceLeDiff, Nat.reduceBEq, Nat.reduceBNe, reduceIte, if_true, if_false, Bool.false_and, Bool.true_and, Bool.and_true, Bool.and_false, Bool.not_false, Bool.not_true, Bool.false_eq_true, beq_self_eq_true, BEq.rfl, zCat1, zCat2, zCat3, zKdI, zKdL, zKdR, true_and, and_true, zSI, zSL, zSR, zu_at, and_self, and_false, false_and, lv_args, zKdZ, zKdO, zB01, zB11, Option.toList_none, Option.toList_some, List.nil_append, List.cons_append, true_or, or_true, zRow_rd, zu_rd, zo_aload_n, zo_getfield, zo_bipush, zo_iadd, zo_sipush, zo_icmp_le, zo_iconst, zo_ireturn, zo_iload_n, zb_20, zs_700, zi_m1, zKd_9_0, zKd_7_2, sh_0, rf_0_0, sh_1, zcl_20, zcl_700, zRt, zKn_s, zKn_0, zFind, hn, e20, hx, zN10, zN01, not_true_eq_false, not_false_eq_true, false_implies, true_implies, implies_true, eq_self, nI_1, nI_40, nI_7, vz0, vz1, zb1_e0, zb1_n0]
    exact hQ I zKpt_rfl hT
theorem sh4f : ∀ k, k < 20 → 24 - 8 * (nI k - nI k / 4 * 4) = nI (24 - 8 * (k % 4)) := by decide +kernel
set_option maxRecDepth 20000 in
theorem mo_feed (hT : zrTp I T) (hO : TpOk T) (hQ : ∀ I', zKpt SRTp I I' → zrTp I' (oFeed T x y z v u) → Q (some (.int (aFeed T))) (SH, I', L, RF p s r)) : zXM w mX10_feed rX10_feed [.ref 87, .int x, .int y, .int z, .int v, .int u] (SH, I, L, RF p s r) Q := by
  unfold zXM
  have hn := hT.1
  have h7 := hO.1
  have e20 : nI T.1 + 20 = nI (T.1 + 20) := by rw [show (20 : Int32) = nI 20 from rfl, nI_add]
  unfold oFeed aFeed at hQ
  by_cases hb : T.1 + 20 ≤ 700
  · have hx : (nI (T.1 + 20) ≤ 700) = True := eq_true (by rw [show (700 : Int32) = nI 700 from rfl, zle_nat (by omega) (by omega)]; exact hb)
    rw [if_pos hb, if_pos hb] at hQ
    refine zBlkR (M := mX10_feed) (nL := 8) (rt := (Option.some .int)) (blk := bX10_feed_0) (T := [(20, bX10_feed_20)]) 1 hX10_feed_0 (zChks_cons hX10_feed_20 zChks_nil) rfl rfl rfl (Nat.le_of_ble_eq_true rfl) (Nat.le_of_ble_eq_true rfl) ?_
    simp (implicitDefEqProofs := false) only [bX10_feed_0, bX10_feed_20, zRun_cons, zRun_nil, zLk, zSto, zIns, zFil, zf0, zf1, zf2, zf3, List.filter_cons, List.filter_nil, Nat.reduceAdd, Nat.reduceEqDiff, Nat.reduceLT, Nat.reduceLeDiff, Nat.reduceBEq, Nat.reduceBNe, reduceIte, if_true, if_false, Bool.false_and, Bool.true_and, Bool.and_true, Bool.and_false, Bool.not_false, Bool.not_true, Bool.false_eq_true, beq_self_eq_true, BEq.rfl, zCat1, zCat2, zCat3, zKdI, zKdL, zKdR, true_and, and_true, zSI, zSL, zSR, zu_at, and_self, and_false, false_and, lv_args, zKdZ, zKdO, zB01, zB11, Option.toList_none, Option.toList_some, List.nil_append, List.cons_append, true_or, or_true, zRow_rd, zu_rd, zo_aload_n, zo_iconst, zo_putfield, zo_putfield_2, zo_putfield_3, zo_getfield, zo_bipush, zo_iadd, zo_sipush, zo_icmp_le, zo_ireturn, zo_istore, zi_0, zb_20, zs_700, zi_m1, zKd_10_2, zTy_10_2, zKd_10_1, zcl_0, sh_87, zcl_20, zcl_700, zRt, zPutC, zKn_s, zKn_0, zFind, hn, e20, hx, zN10, zN01, not_true_eq_false, not_false_eq_true, false_implies, true_implies, implies_true, eq_self, nI_1, nI_40, nI_7, vz0, vz1, zb1_e0, zb1_n0]
    have k0 : zKpt SRTp I (zu I 87 2 0) := zKpt_rfl.u (by unfold SRTp; omega)
    have hT0 : zrTp (zu I 87 2 0) T := ⟨by simp [zu_at]; exact hn, fun i hi => by rw [zu_at, if_neg (by omega)]; exact hT.2 i hi⟩
    generalize zu I 87 2 0 = I0 at *
    refine zLoop (n := 20) (P := fun k => ∀ J g, zKpt (zS1 88) I0 J → (∀ i, i < T.1 → J 88 i = nI (T.2 i)) → (∀ a, a < k → J 88 (T.1 + a) = nI (oBy (fWd x y z v u a) (a % 4))) → zX w mX10_feed rX10_feed Q 0 0 23 ([(0, Value.ref 87), (1, Value.int x), (2, Value.int y), (3, Value.int z), (4, Value.int v), (5, Value.int u), (6, Value.int (nI k))] ++ g) [] (SH, J, L, RF p s r)) (fun k hk ih => ?_) 0 (Nat.zero_le _) I0 [] zKpt_rfl hT0.2 (fun a ha => absurd ha (by omega))
    intro J g hJ hlo hnew
    have q1 : J 87 1 = nI T.1 := by rw [hJ 87 1 (by unfold zS1; omega)]; exact hT0.1
    suffices base : zX w mX10_feed rX10_feed Q 0 0 23 [(0, Value.ref 87), (1, Value.int x), (2, Value.int y), (3, Value.int z), (4, Value.int v), (5, Value.int u), (6, Value.int (nI k))] [] (SH, J, L, RF p s r) from zX.sub' base (fun e he => List.mem_append_left _ he)
    by_cases hke : k = 20
    · subst hke
      have hx : ((20 : Int32) ≤ nI 20) = True := eq_true (by decide)
      refine zBlkR (M := mX10_feed) (nL := 8) (rt := (Option.some .int)) (blk := bX10_feed_23) (T := [(40, bX10_feed_40), (51, bX10_feed_51), (62, bX10_feed_62), (74, bX10_feed_74), (76, bX10_feed_76), (113, bX10_feed_113)]) 4 hX10_feed_23 (zChks_cons hX10_feed_40 (zChks_cons hX10_feed_51 (zChks_cons hX10_feed_62 (zChks_cons hX10_feed_74 (zChks_cons hX10_feed_76 (zChks_cons hX10_feed_113 zChks_nil)))))) rfl rfl rfl (Nat.le_of_ble_eq_true rfl) (Nat.le_of_ble_eq_true rfl) ?_
      simp (implicitDefEqProofs := false) only [bX10_feed_23, bX10_feed_40, bX10_feed_51, bX10_feed_62, bX10_feed_74, bX10_feed_76, bX10_feed_113, zRun_cons, zRun_nil, zLk, zSto, zIns, zFil, zf0, zf1, zf2, zf3, List.filter_cons, List.filter_nil, Nat.reduceAdd, Nat.reduceEqDiff, Nat.reduceLT, Nat.reduceLeDiff, Nat.reduceBEq, Nat.reduceBNe, reduceIte, if_true, if_false, Bool.false_and, Bool.true_and, Bool.and_true, Bool.and_false, Bool.not_false, Bool.not_true, Bool.false_eq_true, beq_self_eq_true, BEq.rfl, zCat1, zCat2, zCat3, zKdI, zKdL, zKdR, true_and, and_true, zSI, zSL, zSR, zu_at, and_self, and_false, false_and, lv_args, zKdZ, zKdO, zB01, zB11, Option.toList_none, Option.toList_some, List.nil_append, List.cons_append, true_or, or_true, zRow_rd, zu_rd, zo_iload, zo_bipush, zo_icmp_ge, zo_iconst, zo_iload_n, zo_goto, zo_istore, zo_aload_n, zo_getfield, zo_iadd, zo_irem, zo_imul, zo_isub, zo_ishr, zo_sipush, zo_iand, zo_iastore, zo_iinc, zo_dup, zo_putfield, zo_putfield_2, zo_putfield_3, zo_ireturn, zb_20, zi_4, zb_8, zb_12, zb_16, zb_24, zs_255, zi_1, zKd_10_0, zKd_10_1, zTy_10_1, zcl_20, zcl_4, zcl_8, zcl_12, zcl_16, sh_87, rf_87_0, sh_88, zcl_24, zcl_255, zvi_20_700, zvi_4_700, zvi_8_700, zvi_12_700, zvi_16_700, zvi_24_700, zvi_255_700, zRt, zPutC, zKn_s, zKn_0, zFind, q1, e20, hx, zN10, zN01, not_true_eq_false, not_false_eq_true, false_implies, true_implies, implies_true, eq_self, nI_1, nI_40, nI_7, vz0, vz1, zb1_e0, zb1_n0]
      refine hQ _ ((k0.trans (hJ.mono (fun i k g => by unfold zS1 at g; unfold SRTp; omega))).u (by unfold SRTp; omega)) ⟨by simp [zu_at], fun i hi => ?_⟩
      show zu J 87 1 (nI (T.1 + 20)) 88 i = nI (if i < T.1 then T.2 i else oBy (fWd x y z v u (i - T.1)) ((i - T.1) % 4))
      rw [zu_at, if_neg (by omega)]
      have hi : i < T.1 + 20 := hi
      by_cases c0 : i < T.1
      · rw [if_pos c0]; exact hlo i c0
      · rw [if_neg c0]
        have := hnew (i - T.1) (by omega)
        rw [show T.1 + (i - T.1) = i by omega] at this
        exact this
    · have hx : ((20 : Int32) ≤ nI k) = False := eq_false (by rw [show (20 : Int32) = nI 20 from rfl, zle_nat (by omega) (by omega)]; omega)
      have l4 : ((4 : Int32) ≤ nI k) = (4 ≤ k) := zle_nat (a := 4) (by omega) (by omega)
      have l8 : ((8 : Int32) ≤ nI k) = (8 ≤ k) := zle_nat (a := 8) (by omega) (by omega)
      have l12 : ((12 : Int32) ≤ nI k) = (12 ≤ k) := zle_nat (a := 12) (by omega) (by omega)
      have l16 : ((16 : Int32) ≤ nI k) = (16 ≤ k) := zle_nat (a := 16) (by omega) (by omega)
      have hv : vp_in (nI (T.1 + k)) 700 := zvn (by omega) (by omega)
      have hsh := sh4f k (by omega)
      have step : ∀ wd, fWd x y z v u k = wd → zX w mX10_feed rX10_feed Q 0 0 23 [(0, Value.ref 87), (1, Value.int x), (2, Value.int y), (3, Value.int z), (4, Value.int v), (5, Value.int u), (6, Value.int (nI (k + 1))), (7, Value.int wd)] [] (SH, zu J 88 (T.1 + k) (wd >>> (nI (24 - 8 * (k % 4)) &&& 31) &&& 255), L, RF p s r) := by
        intro wd hwd
        refine ih (by omega) _ [(7, Value.int wd)] (hJ.u rfl) (fun i hi => ?_) (fun a ha => ?_)
        · rw [zu_at, if_neg (by omega)]; exact hlo i hi
        · by_cases e : a = k
          · subst e; rw [zu_at, if_pos ⟨rfl, rfl⟩, and255, hwd]; rfl
          · rw [zu_at, if_neg (by omega)]; exact hnew a (by omega)
      unfold fWd at step
      refine zBlkR (M := mX10_feed) (nL := 8) (rt := (Option.some .int)) (blk := bX10_feed_23) (T := [(40, bX10_feed_40), (51, bX10_feed_51), (62, bX10_feed_62), (74, bX10_feed_74), (76, bX10_feed_76), (113, bX10_feed_113)]) 4 hX10_feed_23 (zChks_cons hX10_feed_40 (zChks_cons hX10_feed_51 (zChks_cons hX10_feed_62 (zChks_cons hX10_feed_74 (zChks_cons hX10_feed_76 (zChks_cons hX10_feed_113 zChks_nil)))))) rfl rfl rfl (Nat.le_of_ble_eq_true rfl) (Nat.le_of_ble_eq_true rfl) ?_
      simp (implicitDefEqProofs := false) only [bX10_feed_23, bX10_feed_40, bX10_feed_51, bX10_feed_62, bX10_feed_74, bX10_feed_76, bX10_feed_113, zRun_cons, zRun_nil, zLk, zSto, zIns, zFil, zf0, zf1, zf2, zf3, List.filter_cons, List.filter_nil, Nat.reduceAdd, Nat.reduceEqDiff, Nat.reduceLT, Nat.reduceLeDiff, Nat.reduceBEq, Nat.reduceBNe, reduceIte, if_true, if_false, Bool.false_and, Bool.true_and, Bool.and_true, Bool.and_false, Bool.not_false, Bool.not_true, Bool.false_eq_true, beq_self_eq_true, BEq.rfl, zCat1, zCat2, zCat3, zKdI, zKdL, zKdR, true_and, and_true, zSI, zSL, zSR, zu_at, and_self, and_false, false_and, lv_args, zKdZ, zKdO, zB01, zB11, Option.toList_none, Option.toList_some, List.nil_append, List.cons_append, true_or, or_true, zRow_rd, zu_rd, zo_iload, zo_bipush, zo_icmp_ge, zo_iconst, zo_iload_n, zo_goto, zo_istore, zo_aload_n, zo_getfield, zo_iadd, zo_irem, zo_imul, zo_isub, zo_ishr, zo_sipush, zo_iand, zo_iastore, zo_iinc, zo_dup, zo_putfield, zo_putfield_2, zo_putfield_3, zo_ireturn, zb_20, zi_4, zb_8, zb_12, zb_16, zb_24, zs_255, zi_1, zKd_10_0, zKd_10_1, zTy_10_1, zcl_20, zcl_4, zcl_8, zcl_12, zcl_16, sh_87, rf_87_0, sh_88, zcl_24, zcl_255, zvi_20_700, zvi_4_700, zvi_8_700, zvi_12_700, zvi_16_700, zvi_24_700, zvi_255_700, zRt, zPutC, zKn_s, zKn_0, zFind, q1, nI_add, hx, l4, l8, l12, l16, hv, hsh, nI_clamp (n := T.1 + k) (by omega), zN10, zN01, not_true_eq_false, not_false_eq_true, false_implies, true_implies, implies_true, eq_self, nI_1, nI_40, nI_7, vz0, vz1, zb1_e0, zb1_n0]
      refine ⟨fun c4 => ⟨fun c8 => ⟨fun c12 => ⟨fun c16 => ⟨by decide, step _ (if_pos c16)⟩, fun c16 => ⟨by decide, step _ (by rw [if_neg c16, if_pos c12])⟩⟩, fun c12 => ⟨by decide, step _ (by rw [if_neg (by omega), if_neg c12, if_pos c8])⟩⟩, fun c8 => ⟨by decide, step _ (by rw [if_neg (by omega), if_neg (by omega), if_neg c8, if_pos c4])⟩⟩, fun c4 => ⟨by decide, step _ (by rw [if_neg (by omega), if_neg (by omega), if_neg (by omega), if_neg c4])⟩⟩
  · have hx : (nI (T.1 + 20) ≤ 700) = False := eq_false (by rw [show (700 : Int32) = nI 700 from rfl, zle_nat (by omega) (by omega)]; exact hb)
    rw [if_neg hb, if_neg hb] at hQ
    refine zBlkR (M := mX10_feed) (nL := 8) (rt := (Option.some .int)) (blk := bX10_feed_0) (T := [(20, bX10_feed_20)]) 1 hX10_feed_0 (zChks_cons hX10_feed_20 zChks_nil) rfl rfl rfl (Nat.le_of_ble_eq_true rfl) (Nat.le_of_ble_eq_true rfl) ?_
    simp (implicitDefEqProofs := false) only [bX10_feed_0, bX10_feed_20, zRun_cons, zRun_nil, zLk, zSto, zIns, zFil, zf0, zf1, zf2, zf3, List.filter_cons, List.filter_nil, Nat.reduceAdd, Nat.reduceEqDiff, Nat.reduceLT, Nat.reduceLeDiff, Nat.reduceBEq, Nat.reduceBNe, reduceIte, if_true, if_false, Bool.false_and, Bool.true_and, Bool.and_true, Bool.and_false, Bool.not_false, Bool.not_true, Bool.false_eq_true, beq_self_eq_true, BEq.rfl, zCat1, zCat2, zCat3, zKdI, zKdL, zKdR, true_and, and_true, zSI, zSL, zSR, zu_at, and_self, and_false, false_and, lv_args, zKdZ, zKdO, zB01, zB11, Option.toList_none, Option.toList_some, List.nil_append, List.cons_append, true_or, or_true, zRow_rd, zu_rd, zo_aload_n, zo_iconst, zo_putfield, zo_putfield_2, zo_putfield_3, zo_getfield, zo_bipush, zo_iadd, zo_sipush, zo_icmp_le, zo_ireturn, zo_istore, zi_0, zb_20, zs_700, zi_m1, zKd_10_2, zTy_10_2, zKd_10_1, zcl_0, sh_87, zcl_20, zcl_700, zRt, zPutC, zKn_s, zKn_0, zFind, hn, e20, hx, zN10, zN01, not_true_eq_false, not_false_eq_true, false_implies, true_implies, implies_true, eq_self, nI_1, nI_40, nI_7, vz0, vz1, zb1_e0, zb1_n0]
    exact hQ _ (zKpt_rfl.u (by unfold SRTp; omega)) ⟨by simp [zu_at]; exact hn, fun i hi => by rw [zu_at, if_neg (by omega)]; exact hT.2 i hi⟩
end ZF98
