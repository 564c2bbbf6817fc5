/-! ===== NEW CELLS in the order of SH; Tokens.<init> ===== -/
theorem zTk {n i : Nat} (h : i < n) : (SH.take n)[i]? = SH[i]? := List.getElem?_take_of_lt h
theorem zTk_len {n : Nat} {x : zSh} (h : SH[n]? = some x) : (SH.take n).length = n := by
  have := (List.getElem?_eq_some_iff.mp h).1
  simp; omega
theorem zTk_s {n : Nat} {x : zSh} (h : SH[n]? = some x) : SH.take n ++ [x] = SH.take (n + 1) := by
  rw [List.take_add_one, h]; rfl
section ZNS
variable {w : zP} {M : zMd} {R : Room} {Q : Option Value → zMem → Prop} {kc ks pc n : Nat} {lv : zLoc} {st : List Value} {I : Nat → Nat → Int32} {L : Nat → Nat → Int64} {Rf : Nat → Nat → Option Nat}
theorem zNew_take {x : zSh} (h : SH[n]? = some x) (h0 : ∀ b, I n b = 0) (h1 : ∀ b, L n b = 0) (h2 : ∀ b, Rf n b = none) : zNew (SH.take n, I, L, Rf) x = (SH.take (n + 1), I, L, Rf) := by
  unfold zNew
  simp only [zTk_len h, zTk_s h]
  refine Prod.ext rfl (Prod.ext ?_ (Prod.ext ?_ ?_))
  · funext a b
    by_cases e : a = n
    · subst e; simp [h0]
    · simp [e]
  · funext a b
    by_cases e : a = n
    · subst e; simp [h1]
    · simp [e]
  · funext a b
    by_cases e : a = n
    · subst e; simp [h2]
    · simp [e]
theorem z_newS {ci idx : Nat} (hfl : zfl w = true) (hd : decode M.2.2.1 pc = .ok (.new idx, 3)) (hci : ci < 11) (hw1 : Cond.classLink M.2.1.cls idx (zC ci) ∈ zG) (hw2 : Cond.instantiable (zC ci) (zN ci) ∈ zG) (hw3 : Cond.initialized (zC ci) ∈ zG) (hc1 : kc + 1 ≤ R.cells) (hc2 : ks + zN ci ≤ R.slots) (hn : SH[n]? = some (.inr ci)) (h0 : ∀ b, I n b = 0) (h1 : ∀ b, L n b = 0) (h2 : ∀ b, Rf n b = none)
    (kk : zX w M R Q (kc + 1) (ks + zN ci) (pc + 3) lv (.ref n :: st) (SH.take (n + 1), I, L, Rf)) : zX w M R Q kc ks pc lv st (SH.take n, I, L, Rf) := by
  refine z_new zLay_ok hfl hd hci hw1 hw2 hw3 hc1 hc2 ?_
  rw [zNew_take hn h0 h1 h2]
  show zX w M R Q (kc + 1) (ks + zN ci) (pc + 3) lv (.ref (SH.take n).length :: st) _
  rw [zTk_len hn]
  exact kk
theorem z_newaS {at0 : ArrayType} {x : Int32} {N : Nat} (hfl : zfl w = true) (hd : decode M.2.2.1 pc = .ok (.newarray at0, 2)) (hat : newarray.typeOf at0 = zAty (zAk at0)) (hw : Cond.arrayClass (newarray.typeOf at0) ∈ zG) (hx : ¬ x < 0) (hN : x.toNatClampNeg = N) (hby : N * componentBytes (newarray.typeOf at0) ≤ 536870912) (hc1 : kc + 1 ≤ R.cells) (hc2 : ks + N ≤ R.slots) (hn : SH[n]? = some (.inl (zAk at0, N))) (h0 : ∀ b, I n b = 0) (h1 : ∀ b, L n b = 0) (h2 : ∀ b, Rf n b = none)
    (kk : zX w M R Q (kc + 1) (ks + N) (pc + 2) lv (.ref n :: st) (SH.take (n + 1), I, L, Rf)) : zX w M R Q kc ks pc lv (.int x :: st) (SH.take n, I, L, Rf) := by
  refine z_newa hfl hd hat hw hx hN hby hc1 hc2 ?_
  rw [zNew_take hn h0 h1 h2]
  show zX w M R Q (kc + 1) (ks + N) (pc + 2) lv (.ref (SH.take n).length :: st) _
  rw [zTk_len hn]
  exact kk
end ZNS
/-- the words as they are read from the text: which word, where it begins, the row -/
def zLett (ch ix : Int32) : Int32 := (ch - 97 + 1) <<< ((5 * (5 - ix)) &&& 31)
def zTok : Nat → Int32 × Int32 × (Nat → Int32)
  | 0 => (0, 0, fun _ => 0)
  | c + 1 => if zWb c = 32 then ((zTok c).1 + 1, nI c + 1, (zTok c).2.2) else ((zTok c).1, (zTok c).2.1, fun b => if b = (zTok c).1.toNatClampNeg then (zTok c).2.2 b ||| zLett (zWb c) (nI c - (zTok c).2.1) else (zTok c).2.2 b)
def zWd1 : Nat → Int32
  | 0 => 0
  | c + 1 => if zWb c = 32 then zWd1 c + 1 else zWd1 c
theorem zTok_1 : ∀ c, (zTok c).1 = zWd1 c
  | 0 => rfl
  | c + 1 => by
    simp only [zTok, zWd1]
    split <;> simp [zTok_1 c]
theorem zWd1_in : ∀ c, c < 136 → vp_in (zWd1 c) 27 := by
  have h : ∀ c, c < 136 → (decide (0 ≤ (zWd1 c).toInt) && decide ((zWd1 c).toInt < 27)) = true := by decide +kernel
  exact fun c hc => zvp (h c hc)
theorem zWb_ch : ∀ i, i < 136 → ((zWb i &&& 255).toUInt32 % 65536).toInt32 = zWb i := by decide +kernel
section ZTOK
variable {w : zP} {Q : Option Value → zMem → Prop} {I : Nat → Nat → Int32} {L : Nat → Nat → Int64} {Rf : Nat → Nat → Option Nat} {μ : zMem}
set_option maxRecDepth 20000 in
theorem sp_letterAt {a b : Int32} (hQ : Q (some (.int (zLett a b))) μ) : zXM w mX7_letterAt rX7_letterAt [.int a, .int b] μ Q := by
  unfold zXM
  refine zBlkR (M := mX7_letterAt) (nL := 2) (rt := (Option.some .int)) (blk := bX7_letterAt_0) (T := []) 0 hX7_letterAt_0 zChks_nil rfl rfl rfl (Nat.le_of_ble_eq_true rfl) (Nat.le_of_ble_eq_true rfl) ?_
  simp only [bX7_letterAt_0, zRun_cons, zRun_nil, zLk, zSto, zIns, zFil, zf0, zf1, zf2, zf3, List.filter_cons, List.filter_nil, Nat.reduceAdd, Nat.reduceEqDiff, Nat.reduceLT, Nat.reduceLeDiff, Nat.reduceBEq, Nat.reduceBNe, reduceIte, if_true, if_false, Bool.false_and, Bool.true_and, Bool.and_true, Bool.and_false, Bool.not_false, Bool.not_true, Bool.false_eq_true, beq_self_eq_true, BEq.rfl, zCat1, zCat2, zCat3, zKdI, zKdL, zKdR, true_and, and_true, zSI, zSL, zSR, zu_at, and_self, and_false, false_and, lv_args, zKdZ, zKdO, zB01, zB11, Option.toList_none, Option.toList_some, List.nil_append, List.cons_append, true_or, or_true, zRow_rd, zu_rd, zo_iload_n, zo_bipush, zo_isub, zo_iconst, zo_iadd, zo_imul, zo_ishl, zo_ireturn, zb_97, zi_1, zi_5, zcl_97, zcl_1, zcl_5, zRt, zKn_0]
  exact hQ
theorem zin_lt27 {x : Int32} (h : vp_in x 27) : ¬ (27 : Int32) ≤ x := fun q => by
  have h1 := vp_in_iff.mp h
  have h2 := Int32.le_iff_toInt_le.mp q
  have e : (27 : Int32).toInt = 27 := rfl
  rw [e] at h2
  omega
set_option maxRecDepth 100000 in
set_option maxHeartbeats 4000000 in
theorem c_Tokens (hok : zOk w) (hfl : zfl w = true) (a0 : ∀ b, I 2 b = 0) (a1 : ∀ b, L 2 b = 0) (a2 : ∀ b, Rf 2 b = none) (b0 : ∀ b, I 3 b = 0) (b1 : ∀ b, L 3 b = 0) (b2 : ∀ b, Rf 3 b = none) (hQ : Q none (SH.take 4, zRow I 3 (zTok 136).2.2, L, zu (zu Rf 1 0 (some 2)) 1 1 (some 3))) : zXM w mX7_init rcX7_init [.ref 1] (SH.take 2, I, L, Rf) Q := by
  unfold zXM
  refine zBlkRC (M := mX7_init) (nL := 4) (rt := (Option.none : Option Jvm.ClassFile.FieldType)) (blk := bX7_init_0) (T := []) 0 hX7_init_0 zChks_nil rfl rfl rfl (Nat.le_of_ble_eq_true rfl) (Nat.le_of_ble_eq_true rfl) rfl ?_
  simp only [bX7_init_0, zRun_cons, zRun_nil, zLk, zSto, zIns, zFil, zf0, zf1, zf2, zf3, List.filter_cons, List.filter_nil, Nat.reduceAdd, Nat.reduceEqDiff, Nat.reduceLT, Nat.reduceLeDiff, Nat.reduceBEq, Nat.reduceBNe, reduceIte, if_true, if_false, Bool.false_and, Bool.true_and, Bool.and_true, Bool.and_false, Bool.not_false, Bool.not_true, Bool.false_eq_true, beq_self_eq_true, BEq.rfl, zCat1, zCat2, zCat3, zKdI, zKdL, zKdR, true_and, and_true, zSI, zSL, zSR, zu_at, and_self, and_false, false_and, lv_args, zKdZ, zKdO, zB01, zB11, Option.toList_none, Option.toList_some, List.nil_append, List.cons_append, true_or, or_true, zRow_rd, zu_rd, zo_aload_n, zKn_0, zTk]
  refine z_objInit (by decide +kernel : decode cX7_init 1 = .ok (.invokespecial 3, 3)) k7_3 (zt1 31 (by decide +kernel) rfl) (zt1 32 (by decide +kernel) rfl) (Nat.le_of_ble_eq_true rfl) (Nat.le_of_ble_eq_true rfl) ?_
  refine zBlkRC (M := mX7_init) (nL := 4) (rt := (Option.none : Option Jvm.ClassFile.FieldType)) (blk := bX7_init_4) (T := []) 0 hX7_init_4 zChks_nil rfl rfl rfl (Nat.le_of_ble_eq_true rfl) (Nat.le_of_ble_eq_true rfl) rfl ?_
  simp only [bX7_init_4, zRun_cons, zRun_nil, zLk, zSto, zIns, zFil, zf0, zf1, zf2, zf3, List.filter_cons, List.filter_nil, Nat.reduceAdd, Nat.reduceEqDiff, Nat.reduceLT, Nat.reduceLeDiff, Nat.reduceBEq, Nat.reduceBNe, reduceIte, if_true, if_false, Bool.false_and, Bool.true_and, Bool.and_true, Bool.and_false, Bool.not_false, Bool.not_true, Bool.false_eq_true, beq_self_eq_true, BEq.rfl, zCat1, zCat2, zCat3, zKdI, zKdL, zKdR, true_and, and_true, zSI, zSL, zSR, zu_at, and_self, and_false, false_and, lv_args, zKdZ, zKdO, zB01, zB11, Option.toList_none, Option.toList_some, List.nil_append, List.cons_append, true_or, or_true, zRow_rd, zu_rd, zo_aload_n, zo_sipush, zs_700, zcl_700, zKn_0, zTk]
  refine z_newaS (n := 2) (N := 700) hfl (by decide +kernel : decode cX7_init 8 = .ok (.newarray .byte, 2)) rfl (zt1 120 (by decide +kernel) rfl) (by decide) rfl (Nat.le_of_ble_eq_true rfl) (Nat.le_of_ble_eq_true rfl) (Nat.le_of_ble_eq_true rfl) sh_2 a0 a1 a2 ?_
  refine zBlkRC (M := mX7_init) (nL := 4) (rt := (Option.none : Option Jvm.ClassFile.FieldType)) (blk := bX7_init_10) (T := []) 0 hX7_init_10 zChks_nil rfl rfl rfl (Nat.le_of_ble_eq_true rfl) (Nat.le_of_ble_eq_true rfl) rfl ?_
  simp only [bX7_init_10, zRun_cons, zRun_nil, zLk, zSto, zIns, zFil, zf0, zf1, zf2, zf3, List.filter_cons, List.filter_nil, Nat.reduceAdd, Nat.reduceEqDiff, Nat.reduceLT, Nat.reduceLeDiff, Nat.reduceBEq, Nat.reduceBNe, reduceIte, if_true, if_false, Bool.false_and, Bool.true_and, Bool.and_true, Bool.and_false, Bool.not_false, Bool.not_true, Bool.false_eq_true, beq_self_eq_true, BEq.rfl, zCat1, zCat2, zCat3, zKdI, zKdL, zKdR, true_and, and_true, zSI, zSL, zSR, zu_at, and_self, and_false, false_and, lv_args, zKdZ, zKdO, zB01, zB11, Option.toList_none, Option.toList_some, List.nil_append, List.cons_append, true_or, or_true, zRow_rd, zu_rd, zo_putfield, zo_putfield_2, zo_putfield_3, zo_aload_n, zo_bipush, zb_27, zKd_7_0, zTy_7_0, sh_1, rf_1_0, sh_2, zcl_27, zvi_27_700, zPutC, zKn_0, zTk]
  refine z_newaS (n := 3) (N := 27) hfl (by decide +kernel : decode cX7_init 16 = .ok (.newarray .int, 2)) rfl (zt1 121 (by decide +kernel) rfl) (by decide) rfl (Nat.le_of_ble_eq_true rfl) (Nat.le_of_ble_eq_true rfl) (Nat.le_of_ble_eq_true rfl) sh_3 b0 b1 (fun b => by simp [zu_at, b2]) ?_
  refine zBlkRC (M := mX7_init) (nL := 4) (rt := (Option.none : Option Jvm.ClassFile.FieldType)) (blk := bX7_init_18) (T := []) 0 hX7_init_18 zChks_nil rfl rfl rfl (Nat.le_of_ble_eq_true rfl) (Nat.le_of_ble_eq_true rfl) rfl ?_
  simp only [bX7_init_18, zRun_cons, zRun_nil, zLk, zSto, zIns, zFil, zf0, zf1, zf2, zf3, List.filter_cons, List.filter_nil, Nat.reduceAdd, Nat.reduceEqDiff, Nat.reduceLT, Nat.reduceLeDiff, Nat.reduceBEq, Nat.reduceBNe, reduceIte, if_true, if_false, Bool.false_and, Bool.true_and, Bool.and_true, Bool.and_false, Bool.not_false, Bool.not_true, Bool.false_eq_true, beq_self_eq_true, BEq.rfl, zCat1, zCat2, zCat3, zKdI, zKdL, zKdR, true_and, and_true, zSI, zSL, zSR, zu_at, and_self, and_false, false_and, lv_args, zKdZ, zKdO, zB01, zB11, Option.toList_none, Option.toList_some, List.nil_append, List.cons_append, true_or, or_true, zRow_rd, zu_rd, zo_putfield, zo_putfield_2, zo_putfield_3, zo_iconst, zo_istore_n, zi_0, zKd_7_1, zTy_7_1, sh_1, rf_1_1, sh_3, zcl_0, zvi_0_27, zPutC, zKn_0, zTk]
  have key := zLoop (n := 136) (P := fun c => zX w mX7_init rcX7_init Q 2 727 27 [(0, Value.ref 1), (1, Value.int (zTok c).1), (2, Value.int (zTok c).2.1), (3, Value.int (nI c))] [] (SH.take 4, zRow I 3 (zTok c).2.2, L, zu (zu Rf 1 0 (some 2)) 1 1 (some 3))) (fun c hc ih => ?_) 0 (Nat.zero_le _)
  · have e : zRow I 3 (zTok 0).2.2 = I := by
      have e1 : (zTok 0).2.2 = I 3 := by funext b; exact (b0 b).symm
      rw [e1]; exact zRow_self _ _
    rw [e] at key
    exact key
  · refine zBlkRC (M := mX7_init) (nL := 4) (rt := (Option.none : Option Jvm.ClassFile.FieldType)) (blk := bX7_init_27) (T := []) 0 hX7_init_27 zChks_nil rfl rfl rfl (Nat.le_of_ble_eq_true rfl) (Nat.le_of_ble_eq_true rfl) rfl ?_
    simp only [bX7_init_27, zRun_cons, zRun_nil, zLk, zSto, zIns, zFil, zf0, zf1, zf2, zf3, List.filter_cons, List.filter_nil, Nat.reduceAdd, Nat.reduceEqDiff, Nat.reduceLT, Nat.reduceLeDiff, Nat.reduceBEq, Nat.reduceBNe, reduceIte, if_true, if_false, Bool.false_and, Bool.true_and, Bool.and_true, Bool.and_false, Bool.not_false, Bool.not_true, Bool.false_eq_true, beq_self_eq_true, BEq.rfl, zCat1, zCat2, zCat3, zKdI, zKdL, zKdR, true_and, and_true, zSI, zSL, zSR, zu_at, and_self, and_false, false_and, lv_args, zKdZ, zKdO, zB01, zB11, Option.toList_none, Option.toList_some, List.nil_append, List.cons_append, true_or, or_true, zRow_rd, zu_rd, zo_iload_n, zKn_0, zTk]
    refine z_ldcS (t := 10) (u := 10) rfl (by decide +kernel : decode cX7_init 28 = .ok (.ldc 19, 2)) (fun U H hx => (hok U H hx).2.2.2.2.1.1) ?_
    refine z_callVT (M' := mJ0_length_8abf5) (R' := rJ0_length_8abf5) (t := 10) [] [.int (nI c)] rfl qJ0_length_8abf5 pJ0_length_8abf5 (zt1 40 (by decide +kernel) rfl) iJ0_length_8abf5 sJ0_length_8abf5 nJ0_length_8abf5 gJ0_length_8abf5 (by decide +kernel : decode cX7_init 30 = .ok (.invokevirtual 21, 3)) (Nat.le_of_ble_eq_true rfl) ⟨Nat.le_of_ble_eq_true rfl, Nat.le_of_ble_eq_true rfl, Nat.le_of_ble_eq_true rfl, Nat.le_of_ble_eq_true rfl, Nat.le_of_ble_eq_true rfl⟩ rfl (fun U H hx => (hok U H hx).2.2.2.2.1.2.1) (zj_length hok ?_)
    refine zBlkRC (M := mX7_init) (nL := 4) (rt := (Option.none : Option Jvm.ClassFile.FieldType)) (blk := bX7_init_33) (T := [(90, bX7_init_90)]) 1 hX7_init_33 (zChks_cons hX7_init_90 zChks_nil) rfl rfl rfl (Nat.le_of_ble_eq_true rfl) (Nat.le_of_ble_eq_true rfl) rfl ?_
    simp only [bX7_init_33, bX7_init_90, zRun_cons, zRun_nil, zLk, zSto, zIns, zFil, zf0, zf1, zf2, zf3, List.filter_cons, List.filter_nil, Nat.reduceAdd, Nat.reduceEqDiff, Nat.reduceLT, Nat.reduceLeDiff, Nat.reduceBEq, Nat.reduceBNe, reduceIte, if_true, if_false, Bool.false_and, Bool.true_and, Bool.and_true, Bool.and_false, Bool.not_false, Bool.not_true, Bool.false_eq_true, beq_self_eq_true, BEq.rfl, zCat1, zCat2, zCat3, zKdI, zKdL, zKdR, true_and, and_true, zSI, zSL, zSR, zu_at, and_self, and_false, false_and, lv_args, zKdZ, zKdO, zB01, zB11, Option.toList_none, Option.toList_some, List.nil_append, List.cons_append, true_or, or_true, zRow_rd, zu_rd, zo_icmp_ge, zo_iload_n, zo_bipush, zo_return_, zb_27, zcl_27, zKn_s, zKn_0, zFind, zTk]
    simp only [show (136 : Int32) = nI 136 from rfl, zle_nat (a := 136) (b := c) (by omega) (by omega)]
    refine ⟨fun h => ?_, fun h => ?_⟩
    · have : c = 136 := by omega
      subst this
      exact hQ
    · have hin := zWd1_in c (by omega)
      rw [← zTok_1] at hin
      refine ⟨fun q => absurd q (zin_lt27 hin), fun _ => ?_⟩
      have hic : vp_in (nI c) 136 := zvn (by omega) (by decide)
      refine z_ldcS (t := 10) (u := 10) rfl (by decide +kernel : decode cX7_init 42 = .ok (.ldc 19, 2)) (fun U H hx => (hok U H hx).2.2.2.2.1.1) ?_
      refine zBlkRC (M := mX7_init) (nL := 4) (rt := (Option.none : Option Jvm.ClassFile.FieldType)) (blk := bX7_init_44) (T := []) 0 hX7_init_44 zChks_nil rfl rfl rfl (Nat.le_of_ble_eq_true rfl) (Nat.le_of_ble_eq_true rfl) rfl ?_
      simp only [bX7_init_44, zRun_cons, zRun_nil, zLk, zSto, zIns, zFil, zf0, zf1, zf2, zf3, List.filter_cons, List.filter_nil, Nat.reduceAdd, Nat.reduceEqDiff, Nat.reduceLT, Nat.reduceLeDiff, Nat.reduceBEq, Nat.reduceBNe, reduceIte, if_true, if_false, Bool.false_and, Bool.true_and, Bool.and_true, Bool.and_false, Bool.not_false, Bool.not_true, Bool.false_eq_true, beq_self_eq_true, BEq.rfl, zCat1, zCat2, zCat3, zKdI, zKdL, zKdR, true_and, and_true, zSI, zSL, zSR, zu_at, and_self, and_false, false_and, lv_args, zKdZ, zKdO, zB01, zB11, Option.toList_none, Option.toList_some, List.nil_append, List.cons_append, true_or, or_true, zRow_rd, zu_rd, zo_iload_n, zKn_0, zTk]
      refine z_callVT (M' := mJ0_charAt_5068e) (R' := rJ0_charAt_5068e) (t := 10) [.int (nI c)] [] rfl qJ0_charAt_5068e pJ0_charAt_5068e (zt1 50 (by decide +kernel) rfl) iJ0_charAt_5068e sJ0_charAt_5068e nJ0_charAt_5068e gJ0_charAt_5068e (by decide +kernel : decode cX7_init 45 = .ok (.invokevirtual 27, 3)) (Nat.le_of_ble_eq_true rfl) ⟨Nat.le_of_ble_eq_true rfl, Nat.le_of_ble_eq_true rfl, Nat.le_of_ble_eq_true rfl, Nat.le_of_ble_eq_true rfl, Nat.le_of_ble_eq_true rfl⟩ rfl (fun U H hx => (hok U H hx).2.2.2.2.1.2.1) (zj_charAt hok hic ?_)
      rw [nI_clamp (by omega), zWb_ch c (by omega)]
      refine zBlkRC (M := mX7_init) (nL := 4) (rt := (Option.none : Option Jvm.ClassFile.FieldType)) (blk := bX7_init_48) (T := [(77, bX7_init_77)]) 1 hX7_init_48 (zChks_cons hX7_init_77 zChks_nil) rfl rfl rfl (Nat.le_of_ble_eq_true rfl) (Nat.le_of_ble_eq_true rfl) rfl ?_
      simp only [bX7_init_48, bX7_init_77, zRun_cons, zRun_nil, zLk, zSto, zIns, zFil, zf0, zf1, zf2, zf3, List.filter_cons, List.filter_nil, Nat.reduceAdd, Nat.reduceEqDiff, Nat.reduceLT, Nat.reduceLeDiff, Nat.reduceBEq, Nat.reduceBNe, reduceIte, if_true, if_false, Bool.false_and, Bool.true_and, Bool.and_true, Bool.and_false, Bool.not_false, Bool.not_true, Bool.false_eq_true, beq_self_eq_true, BEq.rfl, zCat1, zCat2, zCat3, zKdI, zKdL, zKdR, true_and, and_true, zSI, zSL, zSR, zu_at, and_self, and_false, false_and, lv_args, zKdZ, zKdO, zB01, zB11, Option.toList_none, Option.toList_some, List.nil_append, List.cons_append, true_or, or_true, zRow_rd, zu_rd, zo_bipush, zo_icmp_eq, zo_aload_n, zo_getfield, zo_iload_n, zo_dup2, zo_dup2_2, zo_iaload, zo_iinc, zo_iconst, zo_iadd, zo_istore_n, zo_goto, zb_32, zi_1, zKd_7_1, zcl_32, sh_1, rf_1_1, sh_3, zcl_1, zvi_1_27, zKn_s, zKn_0, zFind, zTk]
      refine ⟨fun e => ?_, fun e => ⟨hin, ?_⟩⟩
      · have k2 := ih (by omega)
        simp only [zTok, e, if_true] at k2
        rw [← nI_1] at k2
        exact k2
      · refine z_ldcS (t := 10) (u := 10) rfl (by decide +kernel : decode cX7_init 60 = .ok (.ldc 19, 2)) (fun U H hx => (hok U H hx).2.2.2.2.1.1) ?_
        refine zBlkRC (M := mX7_init) (nL := 4) (rt := (Option.none : Option Jvm.ClassFile.FieldType)) (blk := bX7_init_62) (T := []) 0 hX7_init_62 zChks_nil rfl rfl rfl (Nat.le_of_ble_eq_true rfl) (Nat.le_of_ble_eq_true rfl) rfl ?_
        simp only [bX7_init_62, zRun_cons, zRun_nil, zLk, zSto, zIns, zFil, zf0, zf1, zf2, zf3, List.filter_cons, List.filter_nil, Nat.reduceAdd, Nat.reduceEqDiff, Nat.reduceLT, Nat.reduceLeDiff, Nat.reduceBEq, Nat.reduceBNe, reduceIte, if_true, if_false, Bool.false_and, Bool.true_and, Bool.and_true, Bool.and_false, Bool.not_false, Bool.not_true, Bool.false_eq_true, beq_self_eq_true, BEq.rfl, zCat1, zCat2, zCat3, zKdI, zKdL, zKdR, true_and, and_true, zSI, zSL, zSR, zu_at, and_self, and_false, false_and, lv_args, zKdZ, zKdO, zB01, zB11, Option.toList_none, Option.toList_some, List.nil_append, List.cons_append, true_or, or_true, zRow_rd, zu_rd, zo_iload_n, zKn_0, zTk]
        refine z_callVT (M' := mJ0_charAt_5068e) (R' := rJ0_charAt_5068e) (t := 10) [.int (nI c)] [.int ((zTok c).2.2 (zTok c).1.toNatClampNeg), .int (zTok c).1, .ref 3] rfl qJ0_charAt_5068e pJ0_charAt_5068e (zt1 50 (by decide +kernel) rfl) iJ0_charAt_5068e sJ0_charAt_5068e nJ0_charAt_5068e gJ0_charAt_5068e (by decide +kernel : decode cX7_init 63 = .ok (.invokevirtual 27, 3)) (Nat.le_of_ble_eq_true rfl) ⟨Nat.le_of_ble_eq_true rfl, Nat.le_of_ble_eq_true rfl, Nat.le_of_ble_eq_true rfl, Nat.le_of_ble_eq_true rfl, Nat.le_of_ble_eq_true rfl⟩ rfl (fun U H hx => (hok U H hx).2.2.2.2.1.2.1) (zj_charAt hok hic ?_)
        rw [nI_clamp (by omega), zWb_ch c (by omega)]
        refine zBlkRC (M := mX7_init) (nL := 4) (rt := (Option.none : Option Jvm.ClassFile.FieldType)) (blk := bX7_init_66) (T := []) 0 hX7_init_66 zChks_nil rfl rfl rfl (Nat.le_of_ble_eq_true rfl) (Nat.le_of_ble_eq_true rfl) rfl ?_
        simp only [bX7_init_66, zRun_cons, zRun_nil, zLk, zSto, zIns, zFil, zf0, zf1, zf2, zf3, List.filter_cons, List.filter_nil, Nat.reduceAdd, Nat.reduceEqDiff, Nat.reduceLT, Nat.reduceLeDiff, Nat.reduceBEq, Nat.reduceBNe, reduceIte, if_true, if_false, Bool.false_and, Bool.true_and, Bool.and_true, Bool.and_false, Bool.not_false, Bool.not_true, Bool.false_eq_true, beq_self_eq_true, BEq.rfl, zCat1, zCat2, zCat3, zKdI, zKdL, zKdR, true_and, and_true, zSI, zSL, zSR, zu_at, and_self, and_false, false_and, lv_args, zKdZ, zKdO, zB01, zB11, Option.toList_none, Option.toList_some, List.nil_append, List.cons_append, true_or, or_true, zRow_rd, zu_rd, zo_iload_n, zo_isub, zKn_0, zTk]
        refine z_cS0 (M' := mX7_letterAt) (R' := rX7_letterAt) [.int (zWb c), .int (nI c - (zTok c).2.1)] [.int ((zTok c).2.2 (zTok c).1.toNatClampNeg), .int (zTok c).1, .ref 3] eX7_letterAt k7_31 (by decide +kernel : decode cX7_init 69 = .ok (.invokestatic 31, 3)) (Nat.le_of_ble_eq_true rfl) ⟨Nat.le_of_ble_eq_true rfl, Nat.le_of_ble_eq_true rfl, Nat.le_of_ble_eq_true rfl, Nat.le_of_ble_eq_true rfl, Nat.le_of_ble_eq_true rfl⟩ rfl rfl rfl ?_
        refine sp_letterAt ?_
        refine zBlkRC (M := mX7_init) (nL := 4) (rt := (Option.none : Option Jvm.ClassFile.FieldType)) (blk := bX7_init_72) (T := [(84, bX7_init_84)]) 1 hX7_init_72 (zChks_cons hX7_init_84 zChks_nil) rfl rfl rfl (Nat.le_of_ble_eq_true rfl) (Nat.le_of_ble_eq_true rfl) rfl ?_
        simp only [bX7_init_72, bX7_init_84, zRun_cons, zRun_nil, zLk, zSto, zIns, zFil, zf0, zf1, zf2, zf3, List.filter_cons, List.filter_nil, Nat.reduceAdd, Nat.reduceEqDiff, Nat.reduceLT, Nat.reduceLeDiff, Nat.reduceBEq, Nat.reduceBNe, reduceIte, if_true, if_false, Bool.false_and, Bool.true_and, Bool.and_true, Bool.and_false, Bool.not_false, Bool.not_true, Bool.false_eq_true, beq_self_eq_true, BEq.rfl, zCat1, zCat2, zCat3, zKdI, zKdL, zKdR, true_and, and_true, zSI, zSL, zSR, zu_at, and_self, and_false, false_and, lv_args, zKdZ, zKdO, zB01, zB11, Option.toList_none, Option.toList_some, List.nil_append, List.cons_append, true_or, or_true, zRow_rd, zu_rd, zo_ior, zo_iastore, zo_goto, zo_iinc, zi_1, zKn_s, zKn_0, zFind, sh_3, zTk]
        refine ⟨hin, ?_⟩
        have k2 := ih (by omega)
        simp only [zTok, e, if_false] at k2
        rw [← nI_1] at k2
        rw [zu_zRow]
        have e3 : (fun b => if b = (zTok c).1.toNatClampNeg then (zTok c).2.2 (zTok c).1.toNatClampNeg ||| zLett (zWb c) (nI c - (zTok c).2.1) else (zTok c).2.2 b) = (fun b => if b = (zTok c).1.toNatClampNeg then (zTok c).2.2 b ||| zLett (zWb c) (nI c - (zTok c).2.1) else (zTok c).2.2 b) := by
          funext b
          by_cases hb : b = (zTok c).1.toNatClampNeg
          · rw [if_pos hb, if_pos hb, hb]
          · rw [if_neg hb, if_neg hb]
        rw [e3]
        exact k2
end ZTOK
