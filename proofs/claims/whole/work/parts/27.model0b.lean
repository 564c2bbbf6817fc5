/-! ===== THE REFERENCE: copies, begin, keepText ===== -/
def zHalf (n c : Nat) (f : Nat → Int32) : Nat → Int32 := fun b => if b < c then f (n + b) else f b
theorem zHalf_0 (n : Nat) (f : Nat → Int32) : zHalf n 0 f = f := by funext b; simp [zHalf]
theorem zHalf_s (n c : Nat) (f : Nat → Int32) (v : Int32) (hv : v = f (n + c)) : (fun b => if b = c then v else zHalf n c f b) = zHalf n (c + 1) f := by
  funext b
  simp only [zHalf]
  by_cases h : b = c
  · subst h; simp [hv]
  · by_cases h2 : b < c
    · simp [h, h2, Nat.lt_succ_of_lt h2]
    · have h3 : ¬ b < c + 1 := by omega
      simp [h, h2, h3]
theorem zHalf_hi {n c b : Nat} {f : Nat → Int32} (h : c ≤ b) : zHalf n c f b = f b := by
  have : ¬ b < c := by omega
  simp [zHalf, this]
section ZM2
variable {w : zP} {Q : Option Value → zMem → Prop} {sh : List zSh} {I : Nat → Nat → Int32} {L : Nat → Nat → Int64} {Rf : Nat → Nat → Option Nat}
set_option maxRecDepth 20000 in
theorem mo_copies {i n N : Nat} (hs : sh[i]? = some (.inl (0, N))) (hn : 2 * n ≤ N) (hN : N < 2 ^ 31) (hQ : Q none (sh, zRow I i (zHalf n n (I i)), L, Rf)) : zXM w mX10_copies rX10_copies [.ref i, .int (nI n)] (sh, I, L, Rf) Q := by
  unfold zXM
  refine zBlkR (M := mX10_copies) (nL := 3) (rt := (Option.none : Option Jvm.ClassFile.FieldType)) (blk := bX10_copies_0) (T := []) 0 hX10_copies_0 zChks_nil rfl rfl rfl (Nat.le_of_ble_eq_true rfl) (Nat.le_of_ble_eq_true rfl) ?_
  simp only [bX10_copies_0, zRun_cons, zRun_nil, zLk, zSto, zIns, zFil, zf0, zf1, zf2, zf3, List.filter_cons, List.filter_nil, Nat.reduceAdd, Nat.reduceEqDiff, Nat.reduceLT, Nat.reduceLeDiff, Nat.reduceBEq, Nat.reduceBNe, reduceIte, if_true, if_false, Bool.false_and, Bool.true_and, Bool.and_true, Bool.and_false, Bool.not_false, Bool.not_true, Bool.false_eq_true, beq_self_eq_true, BEq.rfl, zCat1, zCat2, zCat3, zKdI, zKdL, zKdR, true_and, and_true, zSI, zSL, zSR, zu_at, and_self, and_false, false_and, lv_args, zKdZ, zKdO, zB01, zB11, Option.toList_none, Option.toList_some, List.nil_append, List.cons_append, true_or, or_true, zRow_rd, zu_rd, zo_iconst, zo_istore_n, zi_0, zcl_0, zKn_0]
  have key := zLoop (n := n) (P := fun c => zX w mX10_copies rX10_copies Q 0 0 2 [(0, Value.ref i), (1, Value.int (nI n)), (2, Value.int (nI c))] [] (sh, zRow I i (zHalf n c (I i)), L, Rf)) (fun c hc ih => ?_) 0 (Nat.zero_le _)
  · rw [zHalf_0, zRow_self] at key
    exact key
  · refine zBlkR (M := mX10_copies) (nL := 3) (rt := (Option.none : Option Jvm.ClassFile.FieldType)) (blk := bX10_copies_2) (T := [(21, bX10_copies_21)]) 1 hX10_copies_2 (zChks_cons hX10_copies_21 zChks_nil) rfl rfl rfl (Nat.le_of_ble_eq_true rfl) (Nat.le_of_ble_eq_true rfl) ?_
    simp only [bX10_copies_2, bX10_copies_21, zRun_cons, zRun_nil, zLk, zSto, zIns, zFil, zf0, zf1, zf2, zf3, List.filter_cons, List.filter_nil, Nat.reduceAdd, Nat.reduceEqDiff, Nat.reduceLT, Nat.reduceLeDiff, Nat.reduceBEq, Nat.reduceBNe, reduceIte, if_true, if_false, Bool.false_and, Bool.true_and, Bool.and_true, Bool.and_false, Bool.not_false, Bool.not_true, Bool.false_eq_true, beq_self_eq_true, BEq.rfl, zCat1, zCat2, zCat3, zKdI, zKdL, zKdR, true_and, and_true, zSI, zSL, zSR, zu_at, and_self, and_false, false_and, lv_args, zKdZ, zKdO, zB01, zB11, Option.toList_none, Option.toList_some, List.nil_append, List.cons_append, true_or, or_true, zRow_rd, zu_rd, zo_iload_n, zo_icmp_ge, zo_aload_n, zo_iadd, zo_iaload, zo_iastore, zo_iinc, zo_goto, zo_return_, zi_1, zKn_s, zKn_0, zFind, hs]
    simp only [zle_nat (a := n) (b := c) (by omega) (by omega), nI_add, nI_clamp (n := c) (by omega), nI_clamp (n := n + c) (by omega), nI_1, zu_zRow]
    refine ⟨fun h => ?_, fun h => ⟨zvn (by omega) hN, zvn (by omega) hN, ?_⟩⟩
    · have : c = n := by omega
      subst this
      exact hQ
    · rw [zHalf_s n c (I i) _ (zHalf_hi (by omega))]
      exact ih (by omega)
def zBegR (I : Nat → Nat → Int32) (c d : Nat) : Nat → Nat → Int32 := zRow (zRow (zRow (zRow (zRow (zRow I 114 (zFill c 0 (I 114))) 115 (zFill c (-1) (I 115))) 116 (zFill c 0 (I 116))) 117 (zFill c (-1) (I 117))) 118 (zFill c 0 (I 118))) 119 (zFill d 0 (I 119))
def zBegM (I : Nat → Nat → Int32) : Nat → Nat → Int32 := zu (zu (zu (zu (zu (zu (zu (zu (zBegR I 40 7) 87 55 0) 87 56 0) 87 64 0) 87 65 0) 87 85 0) 87 86 (-1)) 87 78 0) 87 90 0
theorem zBegR_0 (I : Nat → Nat → Int32) : zBegR I 0 0 = I := by
  unfold zBegR
  simp only [zFill_0]
  funext a
  simp only [zRow_rd]
  by_cases h1 : a = 119
  · subst h1; simp
  · by_cases h2 : a = 118
    · subst h2; simp
    · by_cases h3 : a = 117
      · subst h3; simp
      · by_cases h4 : a = 116
        · subst h4; simp
        · by_cases h5 : a = 115
          · subst h5; simp
          · by_cases h6 : a = 114
            · subst h6; simp
            · simp [h1, h2, h3, h4, h5, h6]
set_option maxRecDepth 20000 in
theorem mo_begin (hm : zMo sh Rf) (hQ : Q none (sh, zBegM I, zu L 120 0 (I 102 10).toInt64, Rf)) : zXM w mX10_begin rX10_begin [.ref 87] (sh, I, L, Rf) Q := by
  unfold zXM
  have s87 := hm.1 87 (by decide) (by decide)
  have s102 := hm.1 102 (by decide) (by decide)
  have s114 := hm.1 114 (by decide) (by decide)
  have s115 := hm.1 115 (by decide) (by decide)
  have s116 := hm.1 116 (by decide) (by decide)
  have s117 := hm.1 117 (by decide) (by decide)
  have s118 := hm.1 118 (by decide) (by decide)
  have s119 := hm.1 119 (by decide) (by decide)
  have s120 := hm.1 120 (by decide) (by decide)
  have r36 := hm.2 36 (by decide)
  have r57 := hm.2 57 (by decide)
  have r58 := hm.2 58 (by decide)
  have r59 := hm.2 59 (by decide)
  have r60 := hm.2 60 (by decide)
  have r61 := hm.2 61 (by decide)
  have r62 := hm.2 62 (by decide)
  have r63 := hm.2 63 (by decide)
  refine zBlkR (M := mX10_begin) (nL := 2) (rt := (Option.none : Option Jvm.ClassFile.FieldType)) (blk := bX10_begin_0) (T := []) 0 hX10_begin_0 zChks_nil rfl rfl rfl (Nat.le_of_ble_eq_true rfl) (Nat.le_of_ble_eq_true rfl) ?_
  simp only [bX10_begin_0, zRun_cons, zRun_nil, zLk, zSto, zIns, zFil, zf0, zf1, zf2, zf3, List.filter_cons, List.filter_nil, Nat.reduceAdd, Nat.reduceEqDiff, Nat.reduceLT, Nat.reduceLeDiff, Nat.reduceBEq, Nat.reduceBNe, reduceIte, if_true, if_false, Bool.false_and, Bool.true_and, Bool.and_true, Bool.and_false, Bool.not_false, Bool.not_true, Bool.false_eq_true, beq_self_eq_true, BEq.rfl, zCat1, zCat2, zCat3, zKdI, zKdL, zKdR, true_and, and_true, zSI, zSL, zSR, zu_at, and_self, and_false, false_and, lv_args, zKdZ, zKdO, zB01, zB11, Option.toList_none, Option.toList_some, List.nil_append, List.cons_append, true_or, or_true, zRow_rd, zu_rd, zo_iconst, zo_istore_n, zi_0, zcl_0, zKn_0]
  have key := zLoop (n := 40) (P := fun c => zX w mX10_begin rX10_begin Q 0 0 2 [(0, Value.ref 87), (1, Value.int (nI c))] [] (sh, zBegR I c 0, L, Rf)) (fun c hc ih => ?_) 0 (Nat.zero_le _)
  · rw [zBegR_0] at key
    exact key
  · unfold zBegR at ih ⊢
    refine zBlkR (M := mX10_begin) (nL := 2) (rt := (Option.none : Option Jvm.ClassFile.FieldType)) (blk := bX10_begin_2) (T := []) 0 hX10_begin_2 zChks_nil rfl rfl rfl (Nat.le_of_ble_eq_true rfl) (Nat.le_of_ble_eq_true rfl) ?_
    simp only [bX10_begin_2, zRun_cons, zRun_nil, zLk, zSto, zIns, zFil, zf0, zf1, zf2, zf3, List.filter_cons, List.filter_nil, Nat.reduceAdd, Nat.reduceEqDiff, Nat.reduceLT, Nat.reduceLeDiff, Nat.reduceBEq, Nat.reduceBNe, reduceIte, if_true, if_false, Bool.false_and, Bool.true_and, Bool.and_true, Bool.and_false, Bool.not_false, Bool.not_true, Bool.false_eq_true, beq_self_eq_true, BEq.rfl, zCat1, zCat2, zCat3, zKdI, zKdL, zKdR, true_and, and_true, zSI, zSL, zSR, zu_at, and_self, and_false, false_and, lv_args, zKdZ, zKdO, zB01, zB11, Option.toList_none, Option.toList_some, List.nil_append, List.cons_append, true_or, or_true, zRow_rd, zu_rd, zo_iload_n, zo_bipush, zo_icmp_ge, zo_aload_n, zo_getfield, zo_iconst, zo_iastore, zo_bastore, zo_iinc, zo_goto, zb_40, zi_0, zi_m1, zi_1, zKd_10_57, zKd_10_58, zKd_10_59, zKd_10_60, zKd_10_61, zcl_40, sh_87, rf_87_57, sh_114, zcl_0, rf_87_58, sh_115, rf_87_59, sh_116, rf_87_60, sh_117, rf_87_61, sh_118, zvi_40_80, zvi_0_80, zKn_0, s87, s114, s115, s116, s117, s118, r57, r58, r59, r60, r61]
    simp only [show (40 : Int32) = nI 40 from rfl, zle_nat (a := 40) (b := c) (by omega) (by omega), nI_clamp (n := c) (by omega), nI_1, vz0, zuR (show (114 : Nat) ≠ 115 by decide), zuR (show (114 : Nat) ≠ 116 by decide), zuR (show (114 : Nat) ≠ 117 by decide), zuR (show (114 : Nat) ≠ 118 by decide), zuR (show (114 : Nat) ≠ 119 by decide), zuR (show (115 : Nat) ≠ 116 by decide), zuR (show (115 : Nat) ≠ 117 by decide), zuR (show (115 : Nat) ≠ 118 by decide), zuR (show (115 : Nat) ≠ 119 by decide), zuR (show (116 : Nat) ≠ 117 by decide), zuR (show (116 : Nat) ≠ 118 by decide), zuR (show (116 : Nat) ≠ 119 by decide), zuR (show (117 : Nat) ≠ 118 by decide), zuR (show (117 : Nat) ≠ 119 by decide), zuR (show (118 : Nat) ≠ 119 by decide), zu_zRow, zFill_s]
    have v40 : vp_in (nI c) 80 := zvn (by omega) (by decide)
    refine ⟨fun h => ?_, fun h => ⟨v40, v40, v40, v40, v40, ih (by omega)⟩⟩
    have : c = 40 := by omega
    subst this
    refine zBlkR (M := mX10_begin) (nL := 2) (rt := (Option.none : Option Jvm.ClassFile.FieldType)) (blk := bX10_begin_49) (T := []) 0 hX10_begin_49 zChks_nil rfl rfl rfl (Nat.le_of_ble_eq_true rfl) (Nat.le_of_ble_eq_true rfl) ?_
    simp only [bX10_begin_49, zRun_cons, zRun_nil, zLk, zSto, zIns, zFil, zf0, zf1, zf2, zf3, List.filter_cons, List.filter_nil, Nat.reduceAdd, Nat.reduceEqDiff, Nat.reduceLT, Nat.reduceLeDiff, Nat.reduceBEq, Nat.reduceBNe, reduceIte, if_true, if_false, Bool.false_and, Bool.true_and, Bool.and_true, Bool.and_false, Bool.not_false, Bool.not_true, Bool.false_eq_true, beq_self_eq_true, BEq.rfl, zCat1, zCat2, zCat3, zKdI, zKdL, zKdR, true_and, and_true, zSI, zSL, zSR, zu_at, and_self, and_false, false_and, lv_args, zKdZ, zKdO, zB01, zB11, Option.toList_none, Option.toList_some, List.nil_append, List.cons_append, true_or, or_true, zRow_rd, zu_rd, zo_iconst, zo_istore_n, zi_0, zcl_0, zKn_0]
    have key2 := zLoop (n := 7) (P := fun d => zX w mX10_begin rX10_begin Q 0 0 51 [(0, Value.ref 87), (1, Value.int (nI d))] [] (sh, zBegR I 40 d, L, Rf)) (fun d hd ih2 => ?_) 0 (Nat.zero_le _)
    · exact key2
    · unfold zBegR at ih2 ⊢
      refine zBlkR (M := mX10_begin) (nL := 2) (rt := (Option.none : Option Jvm.ClassFile.FieldType)) (blk := bX10_begin_51) (T := []) 0 hX10_begin_51 zChks_nil rfl rfl rfl (Nat.le_of_ble_eq_true rfl) (Nat.le_of_ble_eq_true rfl) ?_
      simp only [bX10_begin_51, zRun_cons, zRun_nil, zLk, zSto, zIns, zFil, zf0, zf1, zf2, zf3, List.filter_cons, List.filter_nil, Nat.reduceAdd, Nat.reduceEqDiff, Nat.reduceLT, Nat.reduceLeDiff, Nat.reduceBEq, Nat.reduceBNe, reduceIte, if_true, if_false, Bool.false_and, Bool.true_and, Bool.and_true, Bool.and_false, Bool.not_false, Bool.not_true, Bool.false_eq_true, beq_self_eq_true, BEq.rfl, zCat1, zCat2, zCat3, zKdI, zKdL, zKdR, true_and, and_true, zSI, zSL, zSR, zu_at, and_self, and_false, false_and, lv_args, zKdZ, zKdO, zB01, zB11, Option.toList_none, Option.toList_some, List.nil_append, List.cons_append, true_or, or_true, zRow_rd, zu_rd, zo_iload_n, zo_bipush, zo_icmp_ge, zo_aload_n, zo_getfield, zo_iconst, zo_iastore, zo_iinc, zo_goto, zb_7, zi_0, zi_1, zKd_10_62, zcl_7, sh_87, rf_87_62, sh_119, zcl_0, zvi_7_14, zvi_0_14, zKn_0, s87, s119, r62]
      simp only [show (7 : Int32) = nI 7 from rfl, zle_nat (a := 7) (b := d) (by omega) (by omega), nI_clamp (n := d) (by omega), nI_1, zu_zRow, zFill_s]
      refine ⟨fun h => ?_, fun h => ⟨zvn (by omega) (by decide), ih2 (by omega)⟩⟩
      have : d = 7 := by omega
      subst this
      refine zBlkR (M := mX10_begin) (nL := 2) (rt := (Option.none : Option Jvm.ClassFile.FieldType)) (blk := bX10_begin_70) (T := []) 0 hX10_begin_70 zChks_nil rfl rfl rfl (Nat.le_of_ble_eq_true rfl) (Nat.le_of_ble_eq_true rfl) ?_
      simp only [bX10_begin_70, zRun_cons, zRun_nil, zLk, zSto, zIns, zFil, zf0, zf1, zf2, zf3, List.filter_cons, List.filter_nil, Nat.reduceAdd, Nat.reduceEqDiff, Nat.reduceLT, Nat.reduceLeDiff, Nat.reduceBEq, Nat.reduceBNe, reduceIte, if_true, if_false, Bool.false_and, Bool.true_and, Bool.and_true, Bool.and_false, Bool.not_false, Bool.not_true, Bool.false_eq_true, beq_self_eq_true, BEq.rfl, zCat1, zCat2, zCat3, zKdI, zKdL, zKdR, true_and, and_true, zSI, zSL, zSR, zu_at, and_self, and_false, false_and, lv_args, zKdZ, zKdO, zB01, zB11, Option.toList_none, Option.toList_some, List.nil_append, List.cons_append, true_or, or_true, zRow_rd, zu_rd, zo_aload_n, zo_iconst, zo_putfield, zo_putfield_2, zo_putfield_3, zo_getfield, zo_bipush, zo_iaload, zo_i2l, zo_lastore, zo_return_, zi_0, zb_10, zi_m1, zKd_10_55, zTy_10_55, zKd_10_56, zTy_10_56, zKd_10_63, zKd_10_36, zKd_10_64, zTy_10_64, zKd_10_65, zTy_10_65, zKd_10_85, zTy_10_85, zKd_10_86, zTy_10_86, zKd_10_78, zTy_10_78, zKd_10_90, zTy_10_90, zcl_0, sh_87, rf_87_63, sh_120, rf_87_36, sh_102, zcl_10, zvi_0_2, zvi_0_32, zvi_10_32, zPutC, zKn_0, s87, s102, s120, r36, r63]
      exact hQ
def zKeepF (I : Nat → Nat → Int32) : Nat → Nat → Int32 := zu (zu (zu (zu (zu (zu I 87 12 (I 87 18)) 87 13 (I 87 19)) 87 14 (I 87 20)) 87 15 (I 87 21)) 87 16 (I 87 22)) 87 17 (I 87 23)
def zKeepE (I : Nat → Nat → Int32) : Nat → Nat → Int32 := (zRow (zRow (zRow (zRow (zRow (zRow (zRow (zRow (zRow (zRow (zRow (zRow (zRow (zKeepF I) 90 (zHalf 5 5 (I 90))) 91 (zHalf 5 5 (I 91))) 92 (zHalf 5 5 (I 92))) 93 (zHalf 5 5 (I 93))) 94 (zHalf 16 16 (I 94))) 95 (zHalf 16 16 (I 95))) 96 (zHalf 12 12 (I 96))) 97 (zHalf 12 12 (I 97))) 98 (zHalf 2 2 (I 98))) 99 (zHalf 2 2 (I 99))) 100 (zHalf 2 2 (I 100))) 101 (zHalf 4 4 (I 101))) 102 (zHalf 16 16 (I 102)))
def zKeepL (I : Nat → Nat → Int32) (c : Nat) : Nat → Nat → Int32 := zRow (zKeepE I) 104 (zHalf 3 c (I 104))
def zKeepR (I : Nat → Nat → Int32) : Nat → Nat → Int32 := (zRow (zRow (zRow (zRow (zRow (zKeepL I 3) 105 (zHalf 3 3 (I 105))) 106 (zHalf 3 3 (I 106))) 107 (zHalf 64 64 (I 107))) 108 (zHalf 64 64 (I 108))) 109 (zHalf 64 64 (I 109)))
theorem zKeepF_row (I : Nat → Nat → Int32) {a : Nat} (h : a ≠ 87) : zKeepF I a = I a := by
  funext b
  simp [zKeepF, zu_at, h]
theorem zKeepL_0 (I : Nat → Nat → Int32) : zKeepL I 0 = zKeepE I := by
  have e : zKeepE I 104 = I 104 := by simp [zKeepE, zRow_rd, zKeepF_row]
  unfold zKeepL
  rw [zHalf_0, ← e, zRow_self]
set_option maxRecDepth 20000 in
set_option maxHeartbeats 1000000 in
theorem mo_keepText (hm : zMo sh Rf) (hlw : ∀ b, I 104 b = 0 ∨ I 104 b = 1) (hQ : Q none (sh, zBegM (zKeepR I), zu L 120 0 (zKeepR I 102 10).toInt64, Rf)) : zXM w mX10_keepText rX10_keepText [.ref 87] (sh, I, L, Rf) Q := by
  unfold zXM
  have s87 := hm.1 87 (by decide) (by decide)
  have s90 := hm.1 90 (by decide) (by decide)
  have s91 := hm.1 91 (by decide) (by decide)
  have s92 := hm.1 92 (by decide) (by decide)
  have s93 := hm.1 93 (by decide) (by decide)
  have s94 := hm.1 94 (by decide) (by decide)
  have s95 := hm.1 95 (by decide) (by decide)
  have s96 := hm.1 96 (by decide) (by decide)
  have s97 := hm.1 97 (by decide) (by decide)
  have s98 := hm.1 98 (by decide) (by decide)
  have s99 := hm.1 99 (by decide) (by decide)
  have s100 := hm.1 100 (by decide) (by decide)
  have s101 := hm.1 101 (by decide) (by decide)
  have s102 := hm.1 102 (by decide) (by decide)
  have s104 := hm.1 104 (by decide) (by decide)
  have s105 := hm.1 105 (by decide) (by decide)
  have s106 := hm.1 106 (by decide) (by decide)
  have s107 := hm.1 107 (by decide) (by decide)
  have s108 := hm.1 108 (by decide) (by decide)
  have s109 := hm.1 109 (by decide) (by decide)
  have r24 := hm.2 24 (by decide)
  have r25 := hm.2 25 (by decide)
  have r26 := hm.2 26 (by decide)
  have r27 := hm.2 27 (by decide)
  have r28 := hm.2 28 (by decide)
  have r29 := hm.2 29 (by decide)
  have r30 := hm.2 30 (by decide)
  have r31 := hm.2 31 (by decide)
  have r32 := hm.2 32 (by decide)
  have r33 := hm.2 33 (by decide)
  have r34 := hm.2 34 (by decide)
  have r35 := hm.2 35 (by decide)
  have r36 := hm.2 36 (by decide)
  have r38 := hm.2 38 (by decide)
  have r39 := hm.2 39 (by decide)
  have r40 := hm.2 40 (by decide)
  have r41 := hm.2 41 (by decide)
  have r42 := hm.2 42 (by decide)
  have r43 := hm.2 43 (by decide)
  refine zBlkR (M := mX10_keepText) (nL := 2) (rt := (Option.none : Option Jvm.ClassFile.FieldType)) (blk := bX10_keepText_0) (T := []) 0 hX10_keepText_0 zChks_nil rfl rfl rfl (Nat.le_of_ble_eq_true rfl) (Nat.le_of_ble_eq_true rfl) ?_
  simp only [bX10_keepText_0, zRun_cons, zRun_nil, zLk, zSto, zIns, zFil, zf0, zf1, zf2, zf3, List.filter_cons, List.filter_nil, Nat.reduceAdd, Nat.reduceEqDiff, Nat.reduceLT, Nat.reduceLeDiff, Nat.reduceBEq, Nat.reduceBNe, reduceIte, if_true, if_false, Bool.false_and, Bool.true_and, Bool.and_true, Bool.and_false, Bool.not_false, Bool.not_true, Bool.false_eq_true, beq_self_eq_true, BEq.rfl, zCat1, zCat2, zCat3, zKdI, zKdL, zKdR, true_and, and_true, zSI, zSL, zSR, zu_at, and_self, and_false, false_and, lv_args, zKdZ, zKdO, zB01, zB11, Option.toList_none, Option.toList_some, List.nil_append, List.cons_append, true_or, or_true, zRow_rd, zu_rd, zo_aload_n, zo_getfield, zo_putfield, zo_putfield_2, zo_putfield_3, zo_iconst, zi_5, zKd_10_18, zKd_10_12, zTy_10_12, zKd_10_19, zKd_10_13, zTy_10_13, zKd_10_20, zKd_10_14, zTy_10_14, zKd_10_21, zKd_10_15, zTy_10_15, zKd_10_22, zKd_10_16, zTy_10_16, zKd_10_23, zKd_10_17, zTy_10_17, zKd_10_24, sh_87, rf_87_24, sh_90, zcl_5, zvi_5_10, zPutC, zKn_0, s87, r24]
  refine z_cS0 (M' := mX10_copies) (R' := rX10_copies) [.ref 90, .int 5] [] eX10_copies k10_279 (by decide +kernel : decode cX10_keepText 53 = .ok (.invokestatic 279, 3)) (Nat.le_of_ble_eq_true rfl) ⟨Nat.le_of_ble_eq_true rfl, Nat.le_of_ble_eq_true rfl, Nat.le_of_ble_eq_true rfl, Nat.le_of_ble_eq_true rfl, Nat.le_of_ble_eq_true rfl⟩ rfl rfl rfl ?_
  refine mo_copies (n := 5) (N := 10) (s90.trans sh_90) (by decide) (by decide) ?_
  refine zBlkR (M := mX10_keepText) (nL := 2) (rt := (Option.none : Option Jvm.ClassFile.FieldType)) (blk := bX10_keepText_56) (T := []) 0 hX10_keepText_56 zChks_nil rfl rfl rfl (Nat.le_of_ble_eq_true rfl) (Nat.le_of_ble_eq_true rfl) ?_
  simp only [bX10_keepText_56, zRun_cons, zRun_nil, zLk, zSto, zIns, zFil, zf0, zf1, zf2, zf3, List.filter_cons, List.filter_nil, Nat.reduceAdd, Nat.reduceEqDiff, Nat.reduceLT, Nat.reduceLeDiff, Nat.reduceBEq, Nat.reduceBNe, reduceIte, if_true, if_false, Bool.false_and, Bool.true_and, Bool.and_true, Bool.and_false, Bool.not_false, Bool.not_true, Bool.false_eq_true, beq_self_eq_true, BEq.rfl, zCat1, zCat2, zCat3, zKdI, zKdL, zKdR, true_and, and_true, zSI, zSL, zSR, zu_at, and_self, and_false, false_and, lv_args, zKdZ, zKdO, zB01, zB11, Option.toList_none, Option.toList_some, List.nil_append, List.cons_append, true_or, or_true, zRow_rd, zu_rd, zo_aload_n, zo_getfield, zo_iconst, zi_5, zKd_10_25, sh_87, rf_87_25, sh_91, zcl_5, zvi_5_10, zKn_0, s87, r25]
  refine z_cS0 (M' := mX10_copies) (R' := rX10_copies) [.ref 91, .int 5] [] eX10_copies k10_279 (by decide +kernel : decode cX10_keepText 61 = .ok (.invokestatic 279, 3)) (Nat.le_of_ble_eq_true rfl) ⟨Nat.le_of_ble_eq_true rfl, Nat.le_of_ble_eq_true rfl, Nat.le_of_ble_eq_true rfl, Nat.le_of_ble_eq_true rfl, Nat.le_of_ble_eq_true rfl⟩ rfl rfl rfl ?_
  refine mo_copies (n := 5) (N := 10) (s91.trans sh_91) (by decide) (by decide) ?_
  refine zBlkR (M := mX10_keepText) (nL := 2) (rt := (Option.none : Option Jvm.ClassFile.FieldType)) (blk := bX10_keepText_64) (T := []) 0 hX10_keepText_64 zChks_nil rfl rfl rfl (Nat.le_of_ble_eq_true rfl) (Nat.le_of_ble_eq_true rfl) ?_
  simp only [bX10_keepText_64, zRun_cons, zRun_nil, zLk, zSto, zIns, zFil, zf0, zf1, zf2, zf3, List.filter_cons, List.filter_nil, Nat.reduceAdd, Nat.reduceEqDiff, Nat.reduceLT, Nat.reduceLeDiff, Nat.reduceBEq, Nat.reduceBNe, reduceIte, if_true, if_false, Bool.false_and, Bool.true_and, Bool.and_true, Bool.and_false, Bool.not_false, Bool.not_true, Bool.false_eq_true, beq_self_eq_true, BEq.rfl, zCat1, zCat2, zCat3, zKdI, zKdL, zKdR, true_and, and_true, zSI, zSL, zSR, zu_at, and_self, and_false, false_and, lv_args, zKdZ, zKdO, zB01, zB11, Option.toList_none, Option.toList_some, List.nil_append, List.cons_append, true_or, or_true, zRow_rd, zu_rd, zo_aload_n, zo_getfield, zo_iconst, zi_5, zKd_10_26, sh_87, rf_87_26, sh_92, zcl_5, zvi_5_10, zKn_0, s87, r26]
  refine z_cS0 (M' := mX10_copies) (R' := rX10_copies) [.ref 92, .int 5] [] eX10_copies k10_279 (by decide +kernel : decode cX10_keepText 69 = .ok (.invokestatic 279, 3)) (Nat.le_of_ble_eq_true rfl) ⟨Nat.le_of_ble_eq_true rfl, Nat.le_of_ble_eq_true rfl, Nat.le_of_ble_eq_true rfl, Nat.le_of_ble_eq_true rfl, Nat.le_of_ble_eq_true rfl⟩ rfl rfl rfl ?_
  refine mo_copies (n := 5) (N := 10) (s92.trans sh_92) (by decide) (by decide) ?_
  refine zBlkR (M := mX10_keepText) (nL := 2) (rt := (Option.none : Option Jvm.ClassFile.FieldType)) (blk := bX10_keepText_72) (T := []) 0 hX10_keepText_72 zChks_nil rfl rfl rfl (Nat.le_of_ble_eq_true rfl) (Nat.le_of_ble_eq_true rfl) ?_
  simp only [bX10_keepText_72, zRun_cons, zRun_nil, zLk, zSto, zIns, zFil, zf0, zf1, zf2, zf3, List.filter_cons, List.filter_nil, Nat.reduceAdd, Nat.reduceEqDiff, Nat.reduceLT, Nat.reduceLeDiff, Nat.reduceBEq, Nat.reduceBNe, reduceIte, if_true, if_false, Bool.false_and, Bool.true_and, Bool.and_true, Bool.and_false, Bool.not_false, Bool.not_true, Bool.false_eq_true, beq_self_eq_true, BEq.rfl, zCat1, zCat2, zCat3, zKdI, zKdL, zKdR, true_and, and_true, zSI, zSL, zSR, zu_at, and_self, and_false, false_and, lv_args, zKdZ, zKdO, zB01, zB11, Option.toList_none, Option.toList_some, List.nil_append, List.cons_append, true_or, or_true, zRow_rd, zu_rd, zo_aload_n, zo_getfield, zo_iconst, zi_5, zKd_10_27, sh_87, rf_87_27, sh_93, zcl_5, zvi_5_10, zKn_0, s87, r27]
  refine z_cS0 (M' := mX10_copies) (R' := rX10_copies) [.ref 93, .int 5] [] eX10_copies k10_279 (by decide +kernel : decode cX10_keepText 77 = .ok (.invokestatic 279, 3)) (Nat.le_of_ble_eq_true rfl) ⟨Nat.le_of_ble_eq_true rfl, Nat.le_of_ble_eq_true rfl, Nat.le_of_ble_eq_true rfl, Nat.le_of_ble_eq_true rfl, Nat.le_of_ble_eq_true rfl⟩ rfl rfl rfl ?_
  refine mo_copies (n := 5) (N := 10) (s93.trans sh_93) (by decide) (by decide) ?_
  refine zBlkR (M := mX10_keepText) (nL := 2) (rt := (Option.none : Option Jvm.ClassFile.FieldType)) (blk := bX10_keepText_80) (T := []) 0 hX10_keepText_80 zChks_nil rfl rfl rfl (Nat.le_of_ble_eq_true rfl) (Nat.le_of_ble_eq_true rfl) ?_
  simp only [bX10_keepText_80, zRun_cons, zRun_nil, zLk, zSto, zIns, zFil, zf0, zf1, zf2, zf3, List.filter_cons, List.filter_nil, Nat.reduceAdd, Nat.reduceEqDiff, Nat.reduceLT, Nat.reduceLeDiff, Nat.reduceBEq, Nat.reduceBNe, reduceIte, if_true, if_false, Bool.false_and, Bool.true_and, Bool.and_true, Bool.and_false, Bool.not_false, Bool.not_true, Bool.false_eq_true, beq_self_eq_true, BEq.rfl, zCat1, zCat2, zCat3, zKdI, zKdL, zKdR, true_and, and_true, zSI, zSL, zSR, zu_at, and_self, and_false, false_and, lv_args, zKdZ, zKdO, zB01, zB11, Option.toList_none, Option.toList_some, List.nil_append, List.cons_append, true_or, or_true, zRow_rd, zu_rd, zo_aload_n, zo_getfield, zo_bipush, zb_16, zKd_10_28, sh_87, rf_87_28, sh_94, zcl_16, zvi_16_32, zKn_0, s87, r28]
  refine z_cS0 (M' := mX10_copies) (R' := rX10_copies) [.ref 94, .int 16] [] eX10_copies k10_279 (by decide +kernel : decode cX10_keepText 86 = .ok (.invokestatic 279, 3)) (Nat.le_of_ble_eq_true rfl) ⟨Nat.le_of_ble_eq_true rfl, Nat.le_of_ble_eq_true rfl, Nat.le_of_ble_eq_true rfl, Nat.le_of_ble_eq_true rfl, Nat.le_of_ble_eq_true rfl⟩ rfl rfl rfl ?_
  refine mo_copies (n := 16) (N := 32) (s94.trans sh_94) (by decide) (by decide) ?_
  refine zBlkR (M := mX10_keepText) (nL := 2) (rt := (Option.none : Option Jvm.ClassFile.FieldType)) (blk := bX10_keepText_89) (T := []) 0 hX10_keepText_89 zChks_nil rfl rfl rfl (Nat.le_of_ble_eq_true rfl) (Nat.le_of_ble_eq_true rfl) ?_
  simp only [bX10_keepText_89, zRun_cons, zRun_nil, zLk, zSto, zIns, zFil, zf0, zf1, zf2, zf3, List.filter_cons, List.filter_nil, Nat.reduceAdd, Nat.reduceEqDiff, Nat.reduceLT, Nat.reduceLeDiff, Nat.reduceBEq, Nat.reduceBNe, reduceIte, if_true, if_false, Bool.false_and, Bool.true_and, Bool.and_true, Bool.and_false, Bool.not_false, Bool.not_true, Bool.false_eq_true, beq_self_eq_true, BEq.rfl, zCat1, zCat2, zCat3, zKdI, zKdL, zKdR, true_and, and_true, zSI, zSL, zSR, zu_at, and_self, and_false, false_and, lv_args, zKdZ, zKdO, zB01, zB11, Option.toList_none, Option.toList_some, List.nil_append, List.cons_append, true_or, or_true, zRow_rd, zu_rd, zo_aload_n, zo_getfield, zo_bipush, zb_16, zKd_10_29, sh_87, rf_87_29, sh_95, zcl_16, zvi_16_32, zKn_0, s87, r29]
  refine z_cS0 (M' := mX10_copies) (R' := rX10_copies) [.ref 95, .int 16] [] eX10_copies k10_279 (by decide +kernel : decode cX10_keepText 95 = .ok (.invokestatic 279, 3)) (Nat.le_of_ble_eq_true rfl) ⟨Nat.le_of_ble_eq_true rfl, Nat.le_of_ble_eq_true rfl, Nat.le_of_ble_eq_true rfl, Nat.le_of_ble_eq_true rfl, Nat.le_of_ble_eq_true rfl⟩ rfl rfl rfl ?_
  refine mo_copies (n := 16) (N := 32) (s95.trans sh_95) (by decide) (by decide) ?_
  refine zBlkR (M := mX10_keepText) (nL := 2) (rt := (Option.none : Option Jvm.ClassFile.FieldType)) (blk := bX10_keepText_98) (T := []) 0 hX10_keepText_98 zChks_nil rfl rfl rfl (Nat.le_of_ble_eq_true rfl) (Nat.le_of_ble_eq_true rfl) ?_
  simp only [bX10_keepText_98, zRun_cons, zRun_nil, zLk, zSto, zIns, zFil, zf0, zf1, zf2, zf3, List.filter_cons, List.filter_nil, Nat.reduceAdd, Nat.reduceEqDiff, Nat.reduceLT, Nat.reduceLeDiff, Nat.reduceBEq, Nat.reduceBNe, reduceIte, if_true, if_false, Bool.false_and, Bool.true_and, Bool.and_true, Bool.and_false, Bool.not_false, Bool.not_true, Bool.false_eq_true, beq_self_eq_true, BEq.rfl, zCat1, zCat2, zCat3, zKdI, zKdL, zKdR, true_and, and_true, zSI, zSL, zSR, zu_at, and_self, and_false, false_and, lv_args, zKdZ, zKdO, zB01, zB11, Option.toList_none, Option.toList_some, List.nil_append, List.cons_append, true_or, or_true, zRow_rd, zu_rd, zo_aload_n, zo_getfield, zo_bipush, zb_12, zKd_10_30, sh_87, rf_87_30, sh_96, zcl_12, zvi_12_24, zKn_0, s87, r30]
  refine z_cS0 (M' := mX10_copies) (R' := rX10_copies) [.ref 96, .int 12] [] eX10_copies k10_279 (by decide +kernel : decode cX10_keepText 104 = .ok (.invokestatic 279, 3)) (Nat.le_of_ble_eq_true rfl) ⟨Nat.le_of_ble_eq_true rfl, Nat.le_of_ble_eq_true rfl, Nat.le_of_ble_eq_true rfl, Nat.le_of_ble_eq_true rfl, Nat.le_of_ble_eq_true rfl⟩ rfl rfl rfl ?_
  refine mo_copies (n := 12) (N := 24) (s96.trans sh_96) (by decide) (by decide) ?_
  refine zBlkR (M := mX10_keepText) (nL := 2) (rt := (Option.none : Option Jvm.ClassFile.FieldType)) (blk := bX10_keepText_107) (T := []) 0 hX10_keepText_107 zChks_nil rfl rfl rfl (Nat.le_of_ble_eq_true rfl) (Nat.le_of_ble_eq_true rfl) ?_
  simp only [bX10_keepText_107, zRun_cons, zRun_nil, zLk, zSto, zIns, zFil, zf0, zf1, zf2, zf3, List.filter_cons, List.filter_nil, Nat.reduceAdd, Nat.reduceEqDiff, Nat.reduceLT, Nat.reduceLeDiff, Nat.reduceBEq, Nat.reduceBNe, reduceIte, if_true, if_false, Bool.false_and, Bool.true_and, Bool.and_true, Bool.and_false, Bool.not_false, Bool.not_true, Bool.false_eq_true, beq_self_eq_true, BEq.rfl, zCat1, zCat2, zCat3, zKdI, zKdL, zKdR, true_and, and_true, zSI, zSL, zSR, zu_at, and_self, and_false, false_and, lv_args, zKdZ, zKdO, zB01, zB11, Option.toList_none, Option.toList_some, List.nil_append, List.cons_append, true_or, or_true, zRow_rd, zu_rd, zo_aload_n, zo_getfield, zo_bipush, zb_12, zKd_10_31, sh_87, rf_87_31, sh_97, zcl_12, zvi_12_24, zKn_0, s87, r31]
  refine z_cS0 (M' := mX10_copies) (R' := rX10_copies) [.ref 97, .int 12] [] eX10_copies k10_279 (by decide +kernel : decode cX10_keepText 113 = .ok (.invokestatic 279, 3)) (Nat.le_of_ble_eq_true rfl) ⟨Nat.le_of_ble_eq_true rfl, Nat.le_of_ble_eq_true rfl, Nat.le_of_ble_eq_true rfl, Nat.le_of_ble_eq_true rfl, Nat.le_of_ble_eq_true rfl⟩ rfl rfl rfl ?_
  refine mo_copies (n := 12) (N := 24) (s97.trans sh_97) (by decide) (by decide) ?_
  refine zBlkR (M := mX10_keepText) (nL := 2) (rt := (Option.none : Option Jvm.ClassFile.FieldType)) (blk := bX10_keepText_116) (T := []) 0 hX10_keepText_116 zChks_nil rfl rfl rfl (Nat.le_of_ble_eq_true rfl) (Nat.le_of_ble_eq_true rfl) ?_
  simp only [bX10_keepText_116, zRun_cons, zRun_nil, zLk, zSto, zIns, zFil, zf0, zf1, zf2, zf3, List.filter_cons, List.filter_nil, Nat.reduceAdd, Nat.reduceEqDiff, Nat.reduceLT, Nat.reduceLeDiff, Nat.reduceBEq, Nat.reduceBNe, reduceIte, if_true, if_false, Bool.false_and, Bool.true_and, Bool.and_true, Bool.and_false, Bool.not_false, Bool.not_true, Bool.false_eq_true, beq_self_eq_true, BEq.rfl, zCat1, zCat2, zCat3, zKdI, zKdL, zKdR, true_and, and_true, zSI, zSL, zSR, zu_at, and_self, and_false, false_and, lv_args, zKdZ, zKdO, zB01, zB11, Option.toList_none, Option.toList_some, List.nil_append, List.cons_append, true_or, or_true, zRow_rd, zu_rd, zo_aload_n, zo_getfield, zo_iconst, zi_2, zKd_10_32, sh_87, rf_87_32, sh_98, zcl_2, zvi_2_4, zKn_0, s87, r32]
  refine z_cS0 (M' := mX10_copies) (R' := rX10_copies) [.ref 98, .int 2] [] eX10_copies k10_279 (by decide +kernel : decode cX10_keepText 121 = .ok (.invokestatic 279, 3)) (Nat.le_of_ble_eq_true rfl) ⟨Nat.le_of_ble_eq_true rfl, Nat.le_of_ble_eq_true rfl, Nat.le_of_ble_eq_true rfl, Nat.le_of_ble_eq_true rfl, Nat.le_of_ble_eq_true rfl⟩ rfl rfl rfl ?_
  refine mo_copies (n := 2) (N := 4) (s98.trans sh_98) (by decide) (by decide) ?_
  refine zBlkR (M := mX10_keepText) (nL := 2) (rt := (Option.none : Option Jvm.ClassFile.FieldType)) (blk := bX10_keepText_124) (T := []) 0 hX10_keepText_124 zChks_nil rfl rfl rfl (Nat.le_of_ble_eq_true rfl) (Nat.le_of_ble_eq_true rfl) ?_
  simp only [bX10_keepText_124, zRun_cons, zRun_nil, zLk, zSto, zIns, zFil, zf0, zf1, zf2, zf3, List.filter_cons, List.filter_nil, Nat.reduceAdd, Nat.reduceEqDiff, Nat.reduceLT, Nat.reduceLeDiff, Nat.reduceBEq, Nat.reduceBNe, reduceIte, if_true, if_false, Bool.false_and, Bool.true_and, Bool.and_true, Bool.and_false, Bool.not_false, Bool.not_true, Bool.false_eq_true, beq_self_eq_true, BEq.rfl, zCat1, zCat2, zCat3, zKdI, zKdL, zKdR, true_and, and_true, zSI, zSL, zSR, zu_at, and_self, and_false, false_and, lv_args, zKdZ, zKdO, zB01, zB11, Option.toList_none, Option.toList_some, List.nil_append, List.cons_append, true_or, or_true, zRow_rd, zu_rd, zo_aload_n, zo_getfield, zo_iconst, zi_2, zKd_10_33, sh_87, rf_87_33, sh_99, zcl_2, zvi_2_4, zKn_0, s87, r33]
  refine z_cS0 (M' := mX10_copies) (R' := rX10_copies) [.ref 99, .int 2] [] eX10_copies k10_279 (by decide +kernel : decode cX10_keepText 129 = .ok (.invokestatic 279, 3)) (Nat.le_of_ble_eq_true rfl) ⟨Nat.le_of_ble_eq_true rfl, Nat.le_of_ble_eq_true rfl, Nat.le_of_ble_eq_true rfl, Nat.le_of_ble_eq_true rfl, Nat.le_of_ble_eq_true rfl⟩ rfl rfl rfl ?_
  refine mo_copies (n := 2) (N := 4) (s99.trans sh_99) (by decide) (by decide) ?_
  refine zBlkR (M := mX10_keepText) (nL := 2) (rt := (Option.none : Option Jvm.ClassFile.FieldType)) (blk := bX10_keepText_132) (T := []) 0 hX10_keepText_132 zChks_nil rfl rfl rfl (Nat.le_of_ble_eq_true rfl) (Nat.le_of_ble_eq_true rfl) ?_
  simp only [bX10_keepText_132, zRun_cons, zRun_nil, zLk, zSto, zIns, zFil, zf0, zf1, zf2, zf3, List.filter_cons, List.filter_nil, Nat.reduceAdd, Nat.reduceEqDiff, Nat.reduceLT, Nat.reduceLeDiff, Nat.reduceBEq, Nat.reduceBNe, reduceIte, if_true, if_false, Bool.false_and, Bool.true_and, Bool.and_true, Bool.and_false, Bool.not_false, Bool.not_true, Bool.false_eq_true, beq_self_eq_true, BEq.rfl, zCat1, zCat2, zCat3, zKdI, zKdL, zKdR, true_and, and_true, zSI, zSL, zSR, zu_at, and_self, and_false, false_and, lv_args, zKdZ, zKdO, zB01, zB11, Option.toList_none, Option.toList_some, List.nil_append, List.cons_append, true_or, or_true, zRow_rd, zu_rd, zo_aload_n, zo_getfield, zo_iconst, zi_2, zKd_10_34, sh_87, rf_87_34, sh_100, zcl_2, zvi_2_4, zKn_0, s87, r34]
  refine z_cS0 (M' := mX10_copies) (R' := rX10_copies) [.ref 100, .int 2] [] eX10_copies k10_279 (by decide +kernel : decode cX10_keepText 137 = .ok (.invokestatic 279, 3)) (Nat.le_of_ble_eq_true rfl) ⟨Nat.le_of_ble_eq_true rfl, Nat.le_of_ble_eq_true rfl, Nat.le_of_ble_eq_true rfl, Nat.le_of_ble_eq_true rfl, Nat.le_of_ble_eq_true rfl⟩ rfl rfl rfl ?_
  refine mo_copies (n := 2) (N := 4) (s100.trans sh_100) (by decide) (by decide) ?_
  refine zBlkR (M := mX10_keepText) (nL := 2) (rt := (Option.none : Option Jvm.ClassFile.FieldType)) (blk := bX10_keepText_140) (T := []) 0 hX10_keepText_140 zChks_nil rfl rfl rfl (Nat.le_of_ble_eq_true rfl) (Nat.le_of_ble_eq_true rfl) ?_
  simp only [bX10_keepText_140, zRun_cons, zRun_nil, zLk, zSto, zIns, zFil, zf0, zf1, zf2, zf3, List.filter_cons, List.filter_nil, Nat.reduceAdd, Nat.reduceEqDiff, Nat.reduceLT, Nat.reduceLeDiff, Nat.reduceBEq, Nat.reduceBNe, reduceIte, if_true, if_false, Bool.false_and, Bool.true_and, Bool.and_true, Bool.and_false, Bool.not_false, Bool.not_true, Bool.false_eq_true, beq_self_eq_true, BEq.rfl, zCat1, zCat2, zCat3, zKdI, zKdL, zKdR, true_and, and_true, zSI, zSL, zSR, zu_at, and_self, and_false, false_and, lv_args, zKdZ, zKdO, zB01, zB11, Option.toList_none, Option.toList_some, List.nil_append, List.cons_append, true_or, or_true, zRow_rd, zu_rd, zo_aload_n, zo_getfield, zo_iconst, zi_4, zKd_10_35, sh_87, rf_87_35, sh_101, zcl_4, zvi_4_8, zKn_0, s87, r35]
  refine z_cS0 (M' := mX10_copies) (R' := rX10_copies) [.ref 101, .int 4] [] eX10_copies k10_279 (by decide +kernel : decode cX10_keepText 145 = .ok (.invokestatic 279, 3)) (Nat.le_of_ble_eq_true rfl) ⟨Nat.le_of_ble_eq_true rfl, Nat.le_of_ble_eq_true rfl, Nat.le_of_ble_eq_true rfl, Nat.le_of_ble_eq_true rfl, Nat.le_of_ble_eq_true rfl⟩ rfl rfl rfl ?_
  refine mo_copies (n := 4) (N := 8) (s101.trans sh_101) (by decide) (by decide) ?_
  refine zBlkR (M := mX10_keepText) (nL := 2) (rt := (Option.none : Option Jvm.ClassFile.FieldType)) (blk := bX10_keepText_148) (T := []) 0 hX10_keepText_148 zChks_nil rfl rfl rfl (Nat.le_of_ble_eq_true rfl) (Nat.le_of_ble_eq_true rfl) ?_
  simp only [bX10_keepText_148, zRun_cons, zRun_nil, zLk, zSto, zIns, zFil, zf0, zf1, zf2, zf3, List.filter_cons, List.filter_nil, Nat.reduceAdd, Nat.reduceEqDiff, Nat.reduceLT, Nat.reduceLeDiff, Nat.reduceBEq, Nat.reduceBNe, reduceIte, if_true, if_false, Bool.false_and, Bool.true_and, Bool.and_true, Bool.and_false, Bool.not_false, Bool.not_true, Bool.false_eq_true, beq_self_eq_true, BEq.rfl, zCat1, zCat2, zCat3, zKdI, zKdL, zKdR, true_and, and_true, zSI, zSL, zSR, zu_at, and_self, and_false, false_and, lv_args, zKdZ, zKdO, zB01, zB11, Option.toList_none, Option.toList_some, List.nil_append, List.cons_append, true_or, or_true, zRow_rd, zu_rd, zo_aload_n, zo_getfield, zo_bipush, zb_16, zKd_10_36, sh_87, rf_87_36, sh_102, zcl_16, zvi_16_32, zKn_0, s87, r36]
  refine z_cS0 (M' := mX10_copies) (R' := rX10_copies) [.ref 102, .int 16] [] eX10_copies k10_279 (by decide +kernel : decode cX10_keepText 154 = .ok (.invokestatic 279, 3)) (Nat.le_of_ble_eq_true rfl) ⟨Nat.le_of_ble_eq_true rfl, Nat.le_of_ble_eq_true rfl, Nat.le_of_ble_eq_true rfl, Nat.le_of_ble_eq_true rfl, Nat.le_of_ble_eq_true rfl⟩ rfl rfl rfl ?_
  refine mo_copies (n := 16) (N := 32) (s102.trans sh_102) (by decide) (by decide) ?_
  refine zBlkR (M := mX10_keepText) (nL := 2) (rt := (Option.none : Option Jvm.ClassFile.FieldType)) (blk := bX10_keepText_157) (T := []) 0 hX10_keepText_157 zChks_nil rfl rfl rfl (Nat.le_of_ble_eq_true rfl) (Nat.le_of_ble_eq_true rfl) ?_
  simp only [bX10_keepText_157, zRun_cons, zRun_nil, zLk, zSto, zIns, zFil, zf0, zf1, zf2, zf3, List.filter_cons, List.filter_nil, Nat.reduceAdd, Nat.reduceEqDiff, Nat.reduceLT, Nat.reduceLeDiff, Nat.reduceBEq, Nat.reduceBNe, reduceIte, if_true, if_false, Bool.false_and, Bool.true_and, Bool.and_true, Bool.and_false, Bool.not_false, Bool.not_true, Bool.false_eq_true, beq_self_eq_true, BEq.rfl, zCat1, zCat2, zCat3, zKdI, zKdL, zKdR, true_and, and_true, zSI, zSL, zSR, zu_at, and_self, and_false, false_and, lv_args, zKdZ, zKdO, zB01, zB11, Option.toList_none, Option.toList_some, List.nil_append, List.cons_append, true_or, or_true, zRow_rd, zu_rd, zo_iconst, zo_istore_n, zi_0, zcl_0, zKn_0]
  have f104 : ∀ c, zKeepL I c 104 = zHalf 3 c (I 104) := fun c => by unfold zKeepL; rw [zRow_rd, if_pos rfl]
  have key := zLoop (n := 3) (P := fun c => zX w mX10_keepText rX10_keepText Q 0 0 159 [(0, Value.ref 87), (1, Value.int (nI c))] [] (sh, zKeepL I c, L, Rf)) (fun c hc ih => ?_) 0 (Nat.zero_le _)
  · rw [zKeepL_0] at key
    exact key
  · unfold zKeepL at ih ⊢
    refine zBlkR (M := mX10_keepText) (nL := 2) (rt := (Option.none : Option Jvm.ClassFile.FieldType)) (blk := bX10_keepText_159) (T := []) 0 hX10_keepText_159 zChks_nil rfl rfl rfl (Nat.le_of_ble_eq_true rfl) (Nat.le_of_ble_eq_true rfl) ?_
    simp only [bX10_keepText_159, zRun_cons, zRun_nil, zLk, zSto, zIns, zFil, zf0, zf1, zf2, zf3, List.filter_cons, List.filter_nil, Nat.reduceAdd, Nat.reduceEqDiff, Nat.reduceLT, Nat.reduceLeDiff, Nat.reduceBEq, Nat.reduceBNe, reduceIte, if_true, if_false, Bool.false_and, Bool.true_and, Bool.and_true, Bool.and_false, Bool.not_false, Bool.not_true, Bool.false_eq_true, beq_self_eq_true, BEq.rfl, zCat1, zCat2, zCat3, zKdI, zKdL, zKdR, true_and, and_true, zSI, zSL, zSR, zu_at, and_self, and_false, false_and, lv_args, zKdZ, zKdO, zB01, zB11, Option.toList_none, Option.toList_some, List.nil_append, List.cons_append, true_or, or_true, zRow_rd, zu_rd, zo_iload_n, zo_iconst, zo_icmp_ge, zo_aload_n, zo_getfield, zo_iadd, zo_baload, zo_bastore, zo_iinc, zo_goto, zi_3, zi_1, zKd_10_38, zcl_3, sh_87, rf_87_38, sh_104, zvi_3_6, zKn_0, s87, s104, r38]
    simp only [show (3 : Int32) = nI 3 from rfl, zle_nat (a := 3) (b := c) (by omega) (by omega), nI_add, nI_clamp (n := c) (by omega), nI_clamp (n := 3 + c) (by omega), nI_1, zu_zRow]
    refine ⟨fun h => ?_, fun h => ⟨zvn (by omega) (by decide), zvn (by omega) (by decide), ?_⟩⟩
    · have : c = 3 := by omega
      subst this
      refine zBlkR (M := mX10_keepText) (nL := 2) (rt := (Option.none : Option Jvm.ClassFile.FieldType)) (blk := bX10_keepText_184) (T := []) 0 hX10_keepText_184 zChks_nil rfl rfl rfl (Nat.le_of_ble_eq_true rfl) (Nat.le_of_ble_eq_true rfl) ?_
      simp only [bX10_keepText_184, zRun_cons, zRun_nil, zLk, zSto, zIns, zFil, zf0, zf1, zf2, zf3, List.filter_cons, List.filter_nil, Nat.reduceAdd, Nat.reduceEqDiff, Nat.reduceLT, Nat.reduceLeDiff, Nat.reduceBEq, Nat.reduceBNe, reduceIte, if_true, if_false, Bool.false_and, Bool.true_and, Bool.and_true, Bool.and_false, Bool.not_false, Bool.not_true, Bool.false_eq_true, beq_self_eq_true, BEq.rfl, zCat1, zCat2, zCat3, zKdI, zKdL, zKdR, true_and, and_true, zSI, zSL, zSR, zu_at, and_self, and_false, false_and, lv_args, zKdZ, zKdO, zB01, zB11, Option.toList_none, Option.toList_some, List.nil_append, List.cons_append, true_or, or_true, zRow_rd, zu_rd, zo_aload_n, zo_getfield, zo_iconst, zi_3, zKd_10_39, sh_87, rf_87_39, sh_105, zcl_3, zvi_3_6, zKn_0, s87, r39]
      refine z_cS0 (M' := mX10_copies) (R' := rX10_copies) [.ref 105, .int 3] [] eX10_copies k10_279 (by decide +kernel : decode cX10_keepText 189 = .ok (.invokestatic 279, 3)) (Nat.le_of_ble_eq_true rfl) ⟨Nat.le_of_ble_eq_true rfl, Nat.le_of_ble_eq_true rfl, Nat.le_of_ble_eq_true rfl, Nat.le_of_ble_eq_true rfl, Nat.le_of_ble_eq_true rfl⟩ rfl rfl rfl ?_
      refine mo_copies (n := 3) (N := 6) (s105.trans sh_105) (by decide) (by decide) ?_
      refine zBlkR (M := mX10_keepText) (nL := 2) (rt := (Option.none : Option Jvm.ClassFile.FieldType)) (blk := bX10_keepText_192) (T := []) 0 hX10_keepText_192 zChks_nil rfl rfl rfl (Nat.le_of_ble_eq_true rfl) (Nat.le_of_ble_eq_true rfl) ?_
      simp only [bX10_keepText_192, zRun_cons, zRun_nil, zLk, zSto, zIns, zFil, zf0, zf1, zf2, zf3, List.filter_cons, List.filter_nil, Nat.reduceAdd, Nat.reduceEqDiff, Nat.reduceLT, Nat.reduceLeDiff, Nat.reduceBEq, Nat.reduceBNe, reduceIte, if_true, if_false, Bool.false_and, Bool.true_and, Bool.and_true, Bool.and_false, Bool.not_false, Bool.not_true, Bool.false_eq_true, beq_self_eq_true, BEq.rfl, zCat1, zCat2, zCat3, zKdI, zKdL, zKdR, true_and, and_true, zSI, zSL, zSR, zu_at, and_self, and_false, false_and, lv_args, zKdZ, zKdO, zB01, zB11, Option.toList_none, Option.toList_some, List.nil_append, List.cons_append, true_or, or_true, zRow_rd, zu_rd, zo_aload_n, zo_getfield, zo_iconst, zi_3, zKd_10_40, sh_87, rf_87_40, sh_106, zcl_3, zvi_3_6, zKn_0, s87, r40]
      refine z_cS0 (M' := mX10_copies) (R' := rX10_copies) [.ref 106, .int 3] [] eX10_copies k10_279 (by decide +kernel : decode cX10_keepText 197 = .ok (.invokestatic 279, 3)) (Nat.le_of_ble_eq_true rfl) ⟨Nat.le_of_ble_eq_true rfl, Nat.le_of_ble_eq_true rfl, Nat.le_of_ble_eq_true rfl, Nat.le_of_ble_eq_true rfl, Nat.le_of_ble_eq_true rfl⟩ rfl rfl rfl ?_
      refine mo_copies (n := 3) (N := 6) (s106.trans sh_106) (by decide) (by decide) ?_
      refine zBlkR (M := mX10_keepText) (nL := 2) (rt := (Option.none : Option Jvm.ClassFile.FieldType)) (blk := bX10_keepText_200) (T := []) 0 hX10_keepText_200 zChks_nil rfl rfl rfl (Nat.le_of_ble_eq_true rfl) (Nat.le_of_ble_eq_true rfl) ?_
      simp only [bX10_keepText_200, zRun_cons, zRun_nil, zLk, zSto, zIns, zFil, zf0, zf1, zf2, zf3, List.filter_cons, List.filter_nil, Nat.reduceAdd, Nat.reduceEqDiff, Nat.reduceLT, Nat.reduceLeDiff, Nat.reduceBEq, Nat.reduceBNe, reduceIte, if_true, if_false, Bool.false_and, Bool.true_and, Bool.and_true, Bool.and_false, Bool.not_false, Bool.not_true, Bool.false_eq_true, beq_self_eq_true, BEq.rfl, zCat1, zCat2, zCat3, zKdI, zKdL, zKdR, true_and, and_true, zSI, zSL, zSR, zu_at, and_self, and_false, false_and, lv_args, zKdZ, zKdO, zB01, zB11, Option.toList_none, Option.toList_some, List.nil_append, List.cons_append, true_or, or_true, zRow_rd, zu_rd, zo_aload_n, zo_getfield, zo_bipush, zb_64, zKd_10_41, sh_87, rf_87_41, sh_107, zcl_64, zvi_64_128, zKn_0, s87, r41]
      refine z_cS0 (M' := mX10_copies) (R' := rX10_copies) [.ref 107, .int 64] [] eX10_copies k10_279 (by decide +kernel : decode cX10_keepText 206 = .ok (.invokestatic 279, 3)) (Nat.le_of_ble_eq_true rfl) ⟨Nat.le_of_ble_eq_true rfl, Nat.le_of_ble_eq_true rfl, Nat.le_of_ble_eq_true rfl, Nat.le_of_ble_eq_true rfl, Nat.le_of_ble_eq_true rfl⟩ rfl rfl rfl ?_
      refine mo_copies (n := 64) (N := 128) (s107.trans sh_107) (by decide) (by decide) ?_
      refine zBlkR (M := mX10_keepText) (nL := 2) (rt := (Option.none : Option Jvm.ClassFile.FieldType)) (blk := bX10_keepText_209) (T := []) 0 hX10_keepText_209 zChks_nil rfl rfl rfl (Nat.le_of_ble_eq_true rfl) (Nat.le_of_ble_eq_true rfl) ?_
      simp only [bX10_keepText_209, zRun_cons, zRun_nil, zLk, zSto, zIns, zFil, zf0, zf1, zf2, zf3, List.filter_cons, List.filter_nil, Nat.reduceAdd, Nat.reduceEqDiff, Nat.reduceLT, Nat.reduceLeDiff, Nat.reduceBEq, Nat.reduceBNe, reduceIte, if_true, if_false, Bool.false_and, Bool.true_and, Bool.and_true, Bool.and_false, Bool.not_false, Bool.not_true, Bool.false_eq_true, beq_self_eq_true, BEq.rfl, zCat1, zCat2, zCat3, zKdI, zKdL, zKdR, true_and, and_true, zSI, zSL, zSR, zu_at, and_self, and_false, false_and, lv_args, zKdZ, zKdO, zB01, zB11, Option.toList_none, Option.toList_some, List.nil_append, List.cons_append, true_or, or_true, zRow_rd, zu_rd, zo_aload_n, zo_getfield, zo_bipush, zb_64, zKd_10_42, sh_87, rf_87_42, sh_108, zcl_64, zvi_64_128, zKn_0, s87, r42]
      refine z_cS0 (M' := mX10_copies) (R' := rX10_copies) [.ref 108, .int 64] [] eX10_copies k10_279 (by decide +kernel : decode cX10_keepText 215 = .ok (.invokestatic 279, 3)) (Nat.le_of_ble_eq_true rfl) ⟨Nat.le_of_ble_eq_true rfl, Nat.le_of_ble_eq_true rfl, Nat.le_of_ble_eq_true rfl, Nat.le_of_ble_eq_true rfl, Nat.le_of_ble_eq_true rfl⟩ rfl rfl rfl ?_
      refine mo_copies (n := 64) (N := 128) (s108.trans sh_108) (by decide) (by decide) ?_
      refine zBlkR (M := mX10_keepText) (nL := 2) (rt := (Option.none : Option Jvm.ClassFile.FieldType)) (blk := bX10_keepText_218) (T := []) 0 hX10_keepText_218 zChks_nil rfl rfl rfl (Nat.le_of_ble_eq_true rfl) (Nat.le_of_ble_eq_true rfl) ?_
      simp only [bX10_keepText_218, zRun_cons, zRun_nil, zLk, zSto, zIns, zFil, zf0, zf1, zf2, zf3, List.filter_cons, List.filter_nil, Nat.reduceAdd, Nat.reduceEqDiff, Nat.reduceLT, Nat.reduceLeDiff, Nat.reduceBEq, Nat.reduceBNe, reduceIte, if_true, if_false, Bool.false_and, Bool.true_and, Bool.and_true, Bool.and_false, Bool.not_false, Bool.not_true, Bool.false_eq_true, beq_self_eq_true, BEq.rfl, zCat1, zCat2, zCat3, zKdI, zKdL, zKdR, true_and, and_true, zSI, zSL, zSR, zu_at, and_self, and_false, false_and, lv_args, zKdZ, zKdO, zB01, zB11, Option.toList_none, Option.toList_some, List.nil_append, List.cons_append, true_or, or_true, zRow_rd, zu_rd, zo_aload_n, zo_getfield, zo_bipush, zb_64, zKd_10_43, sh_87, rf_87_43, sh_109, zcl_64, zvi_64_128, zKn_0, s87, r43]
      refine z_cS0 (M' := mX10_copies) (R' := rX10_copies) [.ref 109, .int 64] [] eX10_copies k10_279 (by decide +kernel : decode cX10_keepText 224 = .ok (.invokestatic 279, 3)) (Nat.le_of_ble_eq_true rfl) ⟨Nat.le_of_ble_eq_true rfl, Nat.le_of_ble_eq_true rfl, Nat.le_of_ble_eq_true rfl, Nat.le_of_ble_eq_true rfl, Nat.le_of_ble_eq_true rfl⟩ rfl rfl rfl ?_
      refine mo_copies (n := 64) (N := 128) (s109.trans sh_109) (by decide) (by decide) ?_
      refine zBlkR (M := mX10_keepText) (nL := 2) (rt := (Option.none : Option Jvm.ClassFile.FieldType)) (blk := bX10_keepText_227) (T := []) 0 hX10_keepText_227 zChks_nil rfl rfl rfl (Nat.le_of_ble_eq_true rfl) (Nat.le_of_ble_eq_true rfl) ?_
      simp only [bX10_keepText_227, zRun_cons, zRun_nil, zLk, zSto, zIns, zFil, zf0, zf1, zf2, zf3, List.filter_cons, List.filter_nil, Nat.reduceAdd, Nat.reduceEqDiff, Nat.reduceLT, Nat.reduceLeDiff, Nat.reduceBEq, Nat.reduceBNe, reduceIte, if_true, if_false, Bool.false_and, Bool.true_and, Bool.and_true, Bool.and_false, Bool.not_false, Bool.not_true, Bool.false_eq_true, beq_self_eq_true, BEq.rfl, zCat1, zCat2, zCat3, zKdI, zKdL, zKdR, true_and, and_true, zSI, zSL, zSR, zu_at, and_self, and_false, false_and, lv_args, zKdZ, zKdO, zB01, zB11, Option.toList_none, Option.toList_some, List.nil_append, List.cons_append, true_or, or_true, zRow_rd, zu_rd, zo_aload_n, zKn_0]
      refine z_cV0 (M' := mX10_begin) (R' := rX10_begin) (i := 87) [] [] eX10_begin k10_283 (by decide +kernel : decode cX10_keepText 228 = .ok (.invokevirtual 283, 3)) (Nat.le_of_ble_eq_true rfl) ⟨Nat.le_of_ble_eq_true rfl, Nat.le_of_ble_eq_true rfl, Nat.le_of_ble_eq_true rfl, Nat.le_of_ble_eq_true rfl, Nat.le_of_ble_eq_true rfl⟩ rfl rfl rfl (s87.trans sh_87) ?_
      refine mo_begin hm ?_
      refine zBlkR (M := mX10_keepText) (nL := 2) (rt := (Option.none : Option Jvm.ClassFile.FieldType)) (blk := bX10_keepText_231) (T := []) 0 hX10_keepText_231 zChks_nil rfl rfl rfl (Nat.le_of_ble_eq_true rfl) (Nat.le_of_ble_eq_true rfl) ?_
      simp only [bX10_keepText_231, zRun_cons, zRun_nil, zLk, zSto, zIns, zFil, zf0, zf1, zf2, zf3, List.filter_cons, List.filter_nil, Nat.reduceAdd, Nat.reduceEqDiff, Nat.reduceLT, Nat.reduceLeDiff, Nat.reduceBEq, Nat.reduceBNe, reduceIte, if_true, if_false, Bool.false_and, Bool.true_and, Bool.and_true, Bool.and_false, Bool.not_false, Bool.not_true, Bool.false_eq_true, beq_self_eq_true, BEq.rfl, zCat1, zCat2, zCat3, zKdI, zKdL, zKdR, true_and, and_true, zSI, zSL, zSR, zu_at, and_self, and_false, false_and, lv_args, zKdZ, zKdO, zB01, zB11, Option.toList_none, Option.toList_some, List.nil_append, List.cons_append, true_or, or_true, zRow_rd, zu_rd, zo_return_, zKn_0]
      have g : ∀ a, 105 ≤ a → zKeepE I a = I a := fun a ha => by
        unfold zKeepE
        simp only [zRow_rd, show a ≠ 90 by omega, show a ≠ 91 by omega, show a ≠ 92 by omega, show a ≠ 93 by omega, show a ≠ 94 by omega, show a ≠ 95 by omega, show a ≠ 96 by omega, show a ≠ 97 by omega, show a ≠ 98 by omega, show a ≠ 99 by omega, show a ≠ 100 by omega, show a ≠ 101 by omega, show a ≠ 102 by omega, if_false]
        exact zKeepF_row I (by omega)
      simp only [g _ (show 105 ≤ 105 by decide), g _ (show 105 ≤ 106 by decide), g _ (show 105 ≤ 107 by decide), g _ (show 105 ≤ 108 by decide), g _ (show 105 ≤ 109 by decide)]
      simp only [zKeepR, zKeepL] at hQ
      exact hQ
    · rw [zHalf_hi (by omega), vzb (hlw _), zHalf_s 3 c (I 104) _ rfl]
      exact ih (by omega)
end ZM2
