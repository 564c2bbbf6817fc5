/-! ===== SkyChairsModel.<init>, joined ===== -/
def zMW (f : Nat → Int32) : Nat → Int32 := (zWr (zWr (zWr (zWr (zWr (zWr (zWr (zWr (zWr (zWr (zWr (zWr (zWr (zWr (zWr (zWr (zWr (zWr (zWr (zWr (zWr (zWr (zWr (zWr (zWr (zWr (zWr (zWr (zWr (zWr (zWr (zWr (zWr (zWr (zWr (zWr (zWr (zWr (zWr (zWr (zWr (zWr (zWr (zWr (zWr (zWr (zWr (zWr (zWr (zWr (zWr (zWr (zWr (zWr (zWr (zWr (zWr (zWr (zWr (zWr (zWr (zWr (zWr (zWr (zWr (zWr (zWr (zWr (zWr (zWr (zWr (zWr (zWr (zWr (zWr (zWr (zWr (zWr (zWr (zWr (zWr (zWr (zWr (zWr (zWr (zWr (zWr (zWr (zWr (zWr (zWr (zWr (zWr (zWr (zWr (zWr (zWr (zWr (zWr (zWr (zWr (zWr (zWr (zWr (zWr (zWr (zWr (zWr (zWr (zWr (zWr (zWr (zWr (zWr (zWr (zWr (zWr (zWr (zWr (zWr (zWr (zWr (zWr (zWr (zWr (zWr (zWr (zWr (zWr (zWr (zWr (zWr (zWr (zWr (zWr (zWr f 0 112) 1 108) 2 97) 3 99) 4 101) 5 32) 6 99) 7 104) 8 97) 9 105) 10 114) 11 115) 12 32) 13 99) 14 111) 15 109) 16 101) 17 32) 18 115) 19 107) 20 121) 21 32) 22 98) 23 97) 24 110) 25 100) 26 32) 27 112) 28 114) 29 105) 30 99) 31 101) 32 32) 33 119) 34 97) 35 103) 36 101) 37 32) 38 99) 39 97) 40 114) 41 114) 42 121) 43 32) 44 119) 45 101) 46 116) 47 115) 48 32) 49 99) 50 97) 51 110) 52 118) 53 97) 54 115) 55 32) 56 115) 57 101) 58 101) 59 100) 60 32) 61 115) 62 105) 63 103) 64 110) 65 32) 66 108) 67 97) 68 119) 69 32) 70 116) 71 105) 72 100) 73 101) 74 32) 75 115) 76 105) 77 116) 78 32) 79 115) 80 116) 81 97) 82 121) 83 32) 84 100) 85 111) 86 100) 87 103) 88 101) 89 32) 90 97) 91 110) 92 100) 93 32) 94 111) 95 114) 96 32) 97 110) 98 111) 99 116) 100 32) 101 118) 102 105) 103 101) 104 119) 105 32) 106 102) 107 97) 108 114) 109 32) 110 115) 111 117) 112 110) 113 32) 114 109) 115 117) 116 115) 117 105) 118 99) 119 32) 120 116) 121 97) 122 107) 123 101) 124 110) 125 32) 126 102) 127 114) 128 101) 129 101) 130 32) 131 116) 132 105) 133 99) 134 107) 135 32)
section ZCO
variable {w : zP} {Q : Option Value → zMem → Prop} {I : Nat → Nat → Int32} {L : Nat → Nat → Int64} {Rf : Nat → Nat → Option Nat}
/-- what the reference holds behind its constructor -/
def zModel0 (I : Nat → Nat → Int32) (J : Nat → Nat → Int32) : Prop := (∀ a, a ≠ 87 → a ≠ 89 → J a = I a) ∧ J 89 = zMW (I 89) ∧ (J 87 = fun b => if b = 86 then -1 else if b = 5 then -1 else I 87 b)
set_option maxRecDepth 100000 in
set_option maxHeartbeats 4000000 in
theorem c_Model (hfl : zfl w = true) (hI : ∀ a, 87 ≤ a → ∀ b, I a b = 0) (hL : ∀ a, 87 ≤ a → ∀ b, L a b = 0) (hRf : ∀ a, 87 ≤ a → ∀ b, Rf a b = none)
    (hQ : ∀ (J : Nat → Nat → Int32) (R2 : Nat → Nat → Option Nat), zModel0 I J → (∀ k, k < 103 → R2 87 k = RF 0 0 none 87 k) → (∀ a, a ≠ 87 → R2 a = Rf a) → Q none (SH.take 139, zBegM (zKeepR (zPlainM J)), zu L 120 0 (zKeepR (zPlainM J) 102 10).toInt64, R2)) : zXM w mX10_init rcX10_init [.ref 87] (SH.take 88, I, L, Rf) Q := by
  unfold zXM
  refine zBlkRC (M := mX10_init) (nL := 1) (rt := (Option.none : Option Jvm.ClassFile.FieldType)) (blk := bX10_init_0) (T := []) 0 hX10_init_0 zChks_nil rfl rfl rfl (Nat.le_of_ble_eq_true rfl) (Nat.le_of_ble_eq_true rfl) rfl ?_
  simp only [bX10_init_0, zRun_cons, zRun_nil, zLk, zSto, zIns, zFil, zf0, zf1, zf2, zf3, List.filter_cons, List.filter_nil, Nat.reduceAdd, Nat.reduceEqDiff, Nat.reduceLT, Nat.reduceLeDiff, Nat.reduceBEq, Nat.reduceBNe, reduceIte, if_true, if_false, Bool.false_and, Bool.true_and, Bool.and_true, Bool.and_false, Bool.not_false, Bool.not_true, Bool.false_eq_true, beq_self_eq_true, BEq.rfl, zCat1, zCat2, zCat3, zKdI, zKdL, zKdR, true_and, and_true, zSI, zSL, zSR, zu_at, and_self, and_false, false_and, lv_args, zKdZ, zKdO, zB01, zB11, Option.toList_none, Option.toList_some, List.nil_append, List.cons_append, true_or, or_true, zRow_rd, zu_rd, zo_aload_n, zKn_0, zTk]
  refine z_objInit (by decide +kernel : decode cX10_init 1 = .ok (.invokespecial 1, 3)) k10_1 (zt1 31 (by decide +kernel) rfl) (zt1 32 (by decide +kernel) rfl) (Nat.le_of_ble_eq_true rfl) (Nat.le_of_ble_eq_true rfl) ?_
  refine zBlkRC (M := mX10_init) (nL := 1) (rt := (Option.none : Option Jvm.ClassFile.FieldType)) (blk := bX10_init_4) (T := []) 0 hX10_init_4 zChks_nil rfl rfl rfl (Nat.le_of_ble_eq_true rfl) (Nat.le_of_ble_eq_true rfl) rfl ?_
  simp only [bX10_init_4, zRun_cons, zRun_nil, zLk, zSto, zIns, zFil, zf0, zf1, zf2, zf3, List.filter_cons, List.filter_nil, Nat.reduceAdd, Nat.reduceEqDiff, Nat.reduceLT, Nat.reduceLeDiff, Nat.reduceBEq, Nat.reduceBNe, reduceIte, if_true, if_false, Bool.false_and, Bool.true_and, Bool.and_true, Bool.and_false, Bool.not_false, Bool.not_true, Bool.false_eq_true, beq_self_eq_true, BEq.rfl, zCat1, zCat2, zCat3, zKdI, zKdL, zKdR, true_and, and_true, zSI, zSL, zSR, zu_at, and_self, and_false, false_and, lv_args, zKdZ, zKdO, zB01, zB11, Option.toList_none, Option.toList_some, List.nil_append, List.cons_append, true_or, or_true, zRow_rd, zu_rd, zo_aload_n, zo_sipush, zs_700, zcl_700, zKn_0, zTk]
  refine z_newaS (n := 88) (N := 700) hfl (by decide +kernel : decode cX10_init 8 = .ok (.newarray .int, 2)) rfl (zt1 121 (by decide +kernel) rfl) (by decide) rfl (Nat.le_of_ble_eq_true rfl) (Nat.le_of_ble_eq_true rfl) (Nat.le_of_ble_eq_true rfl) sh_88 (fun b => by (try simp only [zu_rd, Nat.reduceEqDiff, reduceIte]); exact hI _ (by decide) b) (fun b => hL _ (by decide) b) (fun b => by (try simp only [zu_rd, Nat.reduceEqDiff, reduceIte]); exact hRf _ (by decide) b) ?_
  refine zBlkRC (M := mX10_init) (nL := 1) (rt := (Option.none : Option Jvm.ClassFile.FieldType)) (blk := bX10_init_10) (T := []) 0 hX10_init_10 zChks_nil rfl rfl rfl (Nat.le_of_ble_eq_true rfl) (Nat.le_of_ble_eq_true rfl) rfl ?_
  simp only [bX10_init_10, zRun_cons, zRun_nil, zLk, zSto, zIns, zFil, zf0, zf1, zf2, zf3, List.filter_cons, List.filter_nil, Nat.reduceAdd, Nat.reduceEqDiff, Nat.reduceLT, Nat.reduceLeDiff, Nat.reduceBEq, Nat.reduceBNe, reduceIte, if_true, if_false, Bool.false_and, Bool.true_and, Bool.and_true, Bool.and_false, Bool.not_false, Bool.not_true, Bool.false_eq_true, beq_self_eq_true, BEq.rfl, zCat1, zCat2, zCat3, zKdI, zKdL, zKdR, true_and, and_true, zSI, zSL, zSR, zu_at, and_self, and_false, false_and, lv_args, zKdZ, zKdO, zB01, zB11, Option.toList_none, Option.toList_some, List.nil_append, List.cons_append, true_or, or_true, zRow_rd, zu_rd, zo_putfield, zo_putfield_2, zo_putfield_3, zo_aload_n, zo_sipush, zs_136, zKd_10_0, zTy_10_0, sh_87, rf_87_0, sh_88, zcl_136, zvi_136_700, zPutC, zKn_0, zTk]
  refine z_newaS (n := 89) (N := 136) hfl (by decide +kernel : decode cX10_init 17 = .ok (.newarray .int, 2)) rfl (zt1 121 (by decide +kernel) rfl) (by decide) rfl (Nat.le_of_ble_eq_true rfl) (Nat.le_of_ble_eq_true rfl) (Nat.le_of_ble_eq_true rfl) sh_89 (fun b => by (try simp only [zu_rd, Nat.reduceEqDiff, reduceIte]); exact hI _ (by decide) b) (fun b => hL _ (by decide) b) (fun b => by (try simp only [zu_rd, Nat.reduceEqDiff, reduceIte]); exact hRf _ (by decide) b) ?_
  have e0 : I = zRow I 89 (I 89) := (zRow_self I 89).symm
  have go : zX w mX10_init rcX10_init Q 2 836 19 [(0, Value.ref 87)] [.ref 89, .ref 87] (SH.take 90, zRow I 89 (I 89), L, zu Rf 87 0 (some 88)) := by
    refine st_0 (Nat.le_of_ble_eq_true rfl) (Nat.le_of_ble_eq_true rfl) ?_
    refine st_1 (Nat.le_of_ble_eq_true rfl) (Nat.le_of_ble_eq_true rfl) ?_
    refine st_2 (Nat.le_of_ble_eq_true rfl) (Nat.le_of_ble_eq_true rfl) ?_
    refine st_3 (Nat.le_of_ble_eq_true rfl) (Nat.le_of_ble_eq_true rfl) ?_
    refine st_4 (Nat.le_of_ble_eq_true rfl) (Nat.le_of_ble_eq_true rfl) ?_
    refine st_5 (Nat.le_of_ble_eq_true rfl) (Nat.le_of_ble_eq_true rfl) ?_
    refine st_6 (Nat.le_of_ble_eq_true rfl) (Nat.le_of_ble_eq_true rfl) ?_
    refine st_7 (Nat.le_of_ble_eq_true rfl) (Nat.le_of_ble_eq_true rfl) ?_
    refine st_8 (Nat.le_of_ble_eq_true rfl) (Nat.le_of_ble_eq_true rfl) ?_
    refine st_9 (Nat.le_of_ble_eq_true rfl) (Nat.le_of_ble_eq_true rfl) ?_
    refine st_10 (Nat.le_of_ble_eq_true rfl) (Nat.le_of_ble_eq_true rfl) ?_
    refine st_11 (Nat.le_of_ble_eq_true rfl) (Nat.le_of_ble_eq_true rfl) ?_
    refine st_12 (Nat.le_of_ble_eq_true rfl) (Nat.le_of_ble_eq_true rfl) ?_
    refine st_13 (Nat.le_of_ble_eq_true rfl) (Nat.le_of_ble_eq_true rfl) ?_
    refine st_14 (Nat.le_of_ble_eq_true rfl) (Nat.le_of_ble_eq_true rfl) ?_
    refine st_15 (Nat.le_of_ble_eq_true rfl) (Nat.le_of_ble_eq_true rfl) ?_
    refine st_16 (Nat.le_of_ble_eq_true rfl) (Nat.le_of_ble_eq_true rfl) ?_
    refine c_ModelB hfl (fun a ha => hI a (by omega)) hL hRf (fun J R2 hJ h87 hR hR2 => ?_)
    have hmo : zMo (SH.take 139) R2 := ⟨fun a h1 h2 => zTk h2, hR⟩
    have hJ0 : zModel0 I J := ⟨fun a h1 h2 => by rw [hJ a h1, zRow_rd, if_neg h2], by rw [hJ 89 (by decide), zRow_rd, if_pos rfl]; rfl, h87⟩
    refine z_cV0 (M' := mX10_plain) (R' := rX10_plain) (i := 87) [] [] eX10_plain k10_172 (by decide +kernel : decode cX10_init 1243 = .ok (.invokevirtual 172, 3)) (Nat.le_of_ble_eq_true rfl) ⟨Nat.le_of_ble_eq_true rfl, Nat.le_of_ble_eq_true rfl, Nat.le_of_ble_eq_true rfl, Nat.le_of_ble_eq_true rfl, Nat.le_of_ble_eq_true rfl⟩ rfl rfl rfl ((zTk (by decide)).trans sh_87) ?_
    refine mo_plain hmo ?_
    refine zBlkRC (M := mX10_init) (nL := 1) (rt := (Option.none : Option Jvm.ClassFile.FieldType)) (blk := bX10_init_1246) (T := []) 0 hX10_init_1246 zChks_nil rfl rfl rfl (Nat.le_of_ble_eq_true rfl) (Nat.le_of_ble_eq_true rfl) rfl ?_
    simp only [bX10_init_1246, zRun_cons, zRun_nil, zLk, zSto, zIns, zFil, zf0, zf1, zf2, zf3, List.filter_cons, List.filter_nil, Nat.reduceAdd, Nat.reduceEqDiff, Nat.reduceLT, Nat.reduceLeDiff, Nat.reduceBEq, Nat.reduceBNe, reduceIte, if_true, if_false, Bool.false_and, Bool.true_and, Bool.and_true, Bool.and_false, Bool.not_false, Bool.not_true, Bool.false_eq_true, beq_self_eq_true, BEq.rfl, zCat1, zCat2, zCat3, zKdI, zKdL, zKdR, true_and, and_true, zSI, zSL, zSR, zu_at, and_self, and_false, false_and, lv_args, zKdZ, zKdO, zB01, zB11, Option.toList_none, Option.toList_some, List.nil_append, List.cons_append, true_or, or_true, zRow_rd, zu_rd, zo_aload_n, zKn_0, zTk]
    refine z_cV0 (M' := mX10_keepText) (R' := rX10_keepText) (i := 87) [] [] eX10_keepText k10_175 (by decide +kernel : decode cX10_init 1247 = .ok (.invokevirtual 175, 3)) (Nat.le_of_ble_eq_true rfl) ⟨Nat.le_of_ble_eq_true rfl, Nat.le_of_ble_eq_true rfl, Nat.le_of_ble_eq_true rfl, Nat.le_of_ble_eq_true rfl, Nat.le_of_ble_eq_true rfl⟩ rfl rfl rfl ((zTk (by decide)).trans sh_87) ?_
    refine mo_keepText hmo ?_ ?_
    · intro b
      have e : zPlainM J 104 = zSeg 3 3 0 (J 104) := by unfold zPlainM; rw [zRow_rd, if_pos rfl]
      have e2 : J 104 b = 0 := by rw [hJ0.1 104 (by decide) (by decide)]; exact hI 104 (by decide) b
      left
      rw [e]
      simp only [zSeg]
      split
      · rfl
      · exact e2
    · refine zBlkRC (M := mX10_init) (nL := 1) (rt := (Option.none : Option Jvm.ClassFile.FieldType)) (blk := bX10_init_1250) (T := []) 0 hX10_init_1250 zChks_nil rfl rfl rfl (Nat.le_of_ble_eq_true rfl) (Nat.le_of_ble_eq_true rfl) rfl ?_
      simp only [bX10_init_1250, zRun_cons, zRun_nil, zLk, zSto, zIns, zFil, zf0, zf1, zf2, zf3, List.filter_cons, List.filter_nil, Nat.reduceAdd, Nat.reduceEqDiff, Nat.reduceLT, Nat.reduceLeDiff, Nat.reduceBEq, Nat.reduceBNe, reduceIte, if_true, if_false, Bool.false_and, Bool.true_and, Bool.and_true, Bool.and_false, Bool.not_false, Bool.not_true, Bool.false_eq_true, beq_self_eq_true, BEq.rfl, zCat1, zCat2, zCat3, zKdI, zKdL, zKdR, true_and, and_true, zSI, zSL, zSR, zu_at, and_self, and_false, false_and, lv_args, zKdZ, zKdO, zB01, zB11, Option.toList_none, Option.toList_some, List.nil_append, List.cons_append, true_or, or_true, zRow_rd, zu_rd, zo_return_, zKn_0, zTk]
      exact hQ J R2 hJ0 hR hR2
  rw [← e0] at go
  exact go
end ZCO
