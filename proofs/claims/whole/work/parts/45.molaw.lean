-- needs: 40a 41 42 43
/-! ===== LAWS: their values ===== -/
def jBd (n : Int64) : Option Int64 := if 1000000000000 < n ∨ n < -1000000000000 then none else some n
def jAb (x : Int64) : Int64 := if x < 0 then -x else x
def jMu (a b : Int64) : Option Int64 := if a ≠ 0 ∧ b ≠ 0 ∧ 1000000000000 / jAb a < jAb b then none else some (a * b)
def jBin (k : Int32) (a b : Int64) : Option Int64 := if k = 3 then some (if a ≠ 0 ∧ b ≠ 0 then 1 else 0) else if k = 4 then some (if a ≠ 0 ∨ b ≠ 0 then 1 else 0) else if k = 11 then jBd (a + b) else if k = 12 then jBd (a - b) else if k = 13 then jMu a b else if k = 14 then (if b = 0 then none else some (a / b)) else some (if zCmp k a b = true then 1 else 0)
section ZLW
variable {w : zP} {Q : Option Value → zMem → Prop} {I V : Nat → Nat → Int32} {L : Nat → Nat → Int64} {p s : Nat} {r : Option Nat} {b c ch np : Nat} {wm : Int32}
theorem jBd_some {n v : Int64} (h : jBd n = some v) : n = v := by
  unfold jBd at h
  split at h
  · cases h
  · exact Option.some.inj h
theorem jMu_some {a b v : Int64} (h : jMu a b = some v) : a * b = v := by
  unfold jMu at h
  split at h
  · cases h
  · exact Option.some.inj h
theorem zLB : Int64.ofInt (-1000000000000) = -1000000000000 := by decide
set_option maxRecDepth 20000 in
theorem mo_bounded {n : Int64} {e : Bool} (he : I 87 54 = zb1 e) (hQ : Q (some (.long (if (e || (jBd n).isNone) = true then 0 else n))) (SH, zu I 87 54 (zb1 (e || (jBd n).isNone)), L, RF p s r)) : zXM w mX10_bounded rX10_bounded [.ref 87, .long n] (SH, I, L, RF p s r) Q := by
  unfold zXM
  obtain ⟨z2, hz2⟩ : ∃ z, z = (-1000000000000 : Int) := ⟨_, rfl⟩
  refine zBlkR (M := mX10_bounded) (nL := 3) (rt := (Option.some .long)) (blk := bX10_bounded_0) (T := [(24, bX10_bounded_24), (28, bX10_bounded_28), (29, bX10_bounded_29), (43, bX10_bounded_43), (44, bX10_bounded_44)]) 3 hX10_bounded_0 (zChks_cons hX10_bounded_24 (zChks_cons hX10_bounded_28 (zChks_cons hX10_bounded_29 (zChks_cons hX10_bounded_43 (zChks_cons hX10_bounded_44 zChks_nil))))) rfl rfl rfl (Nat.le_of_ble_eq_true rfl) (Nat.le_of_ble_eq_true rfl) ?_
  rw [show bX10_bounded_0 = [(.aload_n 0, 1, 0, 0, 0), (.aload_n 0, 1, 0, 0, 0), (.getfield 368, 3, 10, 54, 0), (.ifCond .ne 19, 3, 24, 0, 0), (.lload_n 1, 1, 0, 0, 0), (.ldc2_w 371, 3, 0, 0, 1000000000000), (.lcmp, 1, 0, 0, 0), (.ifCond .gt 11, 3, 24, 0, 0), (.lload_n 1, 1, 0, 0, 0), (.ldc2_w 373, 3, 0, 0, z2), (.lcmp, 1, 0, 0, 0), (.ifCond .ge 7, 3, 28, 0, 0), (.iconst 1, 1, 0, 0, 0), (.goto 4, 3, 29, 0, 0)] from by rw [hz2]; rfl]
  simp only [bX10_bounded_24, bX10_bounded_28, bX10_bounded_29, bX10_bounded_43, bX10_bounded_44, zRun_cons, zRun_nil, zLk, zSto, zIns, zFil, zf0, zf1, zf2, zf3, List.filter_cons, List.filter_nil, Nat.reduceAdd, Nat.reduceEqDiff, Nat.reduceLT, Nat.reduceLeDiff, Nat.reduceBEq, Nat.reduceBNe, reduceIte, if_true, if_false, Bool.false_and, Bool.true_and, Bool.and_true, Bool.and_false, Bool.not_false, Bool.not_true, Bool.false_eq_true, beq_self_eq_true, BEq.rfl, zCat1, zCat2, zCat3, zKdI, zKdL, zKdR, true_and, and_true, zSI, zSL, zSR, zu_at, and_self, and_false, false_and, lv_args, zKdZ, zKdO, zB01, zB11, Option.toList_none, Option.toList_some, List.nil_append, List.cons_append, true_or, or_true, zRow_rd, zu_rd, zo_aload_n, zo_getfield, zo_if_ne, zo_lload_n, zo_ldc2_w, zo_lcmp, zo_if_gt, zo_if_ge, zo_iconst, zo_goto, zo_putfield, zo_putfield_2, zo_putfield_3, zo_if_eq, zo_lconst, zo_lreturn, zL_1000000000000, zi_1, zi_0, zl_0, zKd_10_54, zTy_10_54, sh_87, zcl_1, zcl_0, zPutC, zKn_s, zKn_0, zFind, zCat2, he, lc_gt, lc_ge, zN10, zN01, not_true_eq_false, not_false_eq_true, false_implies, true_implies, implies_true, eq_self, nI_1, nI_40, nI_7, vz0, vz1, zb1_e0, zb1_n0]
  rw [hz2, zLB]
  unfold jBd at hQ
  cases e
  · by_cases h1 : 1000000000000 < n
    · simp [h1, zb1] at hQ ⊢; exact hQ
    · by_cases h2 : -1000000000000 ≤ n
      · have h3 : ¬ n < -1000000000000 := Int64.not_lt.mpr h2
        simp [h1, h2, h3, zb1] at hQ ⊢; exact hQ
      · have h3 : n < -1000000000000 := Int64.not_le.mp h2
        simp [h1, h2, h3, zb1] at hQ ⊢; exact hQ
  · simp [zb1] at hQ ⊢; exact hQ
theorem jAb_p {x : Int64} (h : 0 ≤ x) : jAb x = x := if_neg (Int64.not_lt.mpr h)
theorem jAb_n {x : Int64} (h : ¬ 0 ≤ x) : jAb x = -x := if_pos (Int64.not_le.mp h)
theorem jNeg0 {x : Int64} (h : ¬ x = 0) : ¬ -x = 0 := fun q => h (by have := congrArg (- ·) q; simpa using this)
set_option maxRecDepth 20000 in
theorem mo_times {x y : Int64} {e : Bool} (he : I 87 54 = zb1 e) (hQ : Q (some (.long (if (e || (jMu x y).isNone) = true then 0 else x * y))) (SH, zu I 87 54 (zb1 (e || (jMu x y).isNone)), L, RF p s r)) : zXM w mX10_times rX10_times [.ref 87, .long x, .long y] (SH, I, L, RF p s r) Q := by
  unfold zXM
  refine zBlkR (M := mX10_times) (nL := 6) (rt := (Option.some .long)) (blk := bX10_times_0) (T := [(23, bX10_times_23), (24, bX10_times_24), (38, bX10_times_38), (39, bX10_times_39), (48, bX10_times_48), (49, bX10_times_49), (64, bX10_times_64), (68, bX10_times_68), (69, bX10_times_69), (83, bX10_times_83), (86, bX10_times_86)]) 6 hX10_times_0 (zChks_cons hX10_times_23 (zChks_cons hX10_times_24 (zChks_cons hX10_times_38 (zChks_cons hX10_times_39 (zChks_cons hX10_times_48 (zChks_cons hX10_times_49 (zChks_cons hX10_times_64 (zChks_cons hX10_times_68 (zChks_cons hX10_times_69 (zChks_cons hX10_times_83 (zChks_cons hX10_times_86 zChks_nil))))))))))) rfl rfl rfl (Nat.le_of_ble_eq_true rfl) (Nat.le_of_ble_eq_true rfl) ?_
  simp only [bX10_times_0, bX10_times_23, bX10_times_24, bX10_times_38, bX10_times_39, bX10_times_48, bX10_times_49, bX10_times_64, bX10_times_68, bX10_times_69, bX10_times_83, bX10_times_86, zRun_cons, zRun_nil, zLk, zSto, zIns, zFil, zf0, zf1, zf2, zf3, List.filter_cons, List.filter_nil, Nat.reduceAdd, Nat.reduceEqDiff, Nat.reduceLT, Nat.reduceLeDiff, Nat.reduceBEq, Nat.reduceBNe, reduceIte, if_true, if_false, Bool.false_and, Bool.true_and, Bool.and_true, Bool.and_false, Bool.not_false, Bool.not_true, Bool.false_eq_true, beq_self_eq_true, BEq.rfl, zCat1, zCat2, zCat3, zKdI, zKdL, zKdR, true_and, and_true, zSI, zSL, zSR, zu_at, and_self, and_false, false_and, lv_args, zKdZ, zKdO, zB01, zB11, Option.toList_none, Option.toList_some, List.nil_append, List.cons_append, true_or, or_true, zRow_rd, zu_rd, zo_lload_n, zo_lconst, zo_lcmp, zo_if_eq, zo_if_ge, zo_lneg, zo_goto, zo_ldc2_w, zo_ldiv, zo_if_le, zo_iconst, zo_istore, zo_aload_n, zo_getfield, zo_if_ne, zo_iload, zo_putfield, zo_putfield_2, zo_putfield_3, zo_lmul, zo_lreturn, zl_0, zL_1000000000000, zi_1, zi_0, zKd_10_54, zTy_10_54, zcl_1, zcl_0, sh_87, zPutC, zKn_s, zKn_0, zFind, zCat2, he, lc_gt, lc_ge, lc_eq, lc_le, zN10, zN01, not_true_eq_false, not_false_eq_true, false_implies, true_implies, implies_true, eq_self, nI_1, nI_40, nI_7, vz0, vz1, zb1_e0, zb1_n0]
  have base : ∀ m : Bool, (jMu x y).isNone = m → (¬ e = false → Q (some (Value.long 0)) (SH, zu I 87 54 1, L, RF p s r)) ∧ (e = false → if m = true then Q (some (Value.long 0)) (SH, zu I 87 54 1, L, RF p s r) else Q (some (Value.long (x * y))) (SH, zu I 87 54 0, L, RF p s r)) := by
    intro m hm
    rw [hm] at hQ
    cases e <;> cases m <;> simp [zb1] at hQ ⊢ <;> exact hQ
  refine ⟨fun h0 => ?_, fun h0 => ⟨fun h1 => ?_, fun h1 => ?_⟩⟩
  · have := base false (by simp [jMu, h0])
    simpa using this
  · have := base false (by simp [jMu, h1])
    simpa using this
  have key : ∀ Y X : Int64, jAb y = Y → jAb x = X → (Y ≤ 1000000000000 / X → (¬ e = false → Q (some (Value.long 0)) (SH, zu I 87 54 1, L, RF p s r)) ∧ (e = false → Q (some (Value.long (x * y))) (SH, zu I 87 54 0, L, RF p s r))) ∧ (¬ Y ≤ 1000000000000 / X → (¬ e = false → Q (some (Value.long 0)) (SH, zu I 87 54 1, L, RF p s r)) ∧ (e = false → Q (some (Value.long 0)) (SH, zu I 87 54 1, L, RF p s r))) := by
    intro Y X hY hX
    constructor
    · intro h
      have h2 : ¬ (1000000000000 / X < Y) := Int64.not_lt.mpr h
      have := base false (by simp [jMu, hY, hX, h2])
      simpa using this
    · intro h
      have h2 : 1000000000000 / X < Y := Int64.not_le.mp h
      have := base true (by simp [jMu, hY, hX, h2, h0, h1])
      simpa using this
  refine ⟨fun hy => ⟨fun hx => ⟨h0, key y x (jAb_p hy) (jAb_p hx)⟩, fun hx => ⟨jNeg0 h0, key y (-x) (jAb_p hy) (jAb_n hx)⟩⟩, fun hy => ⟨fun hx => ⟨h0, key (-y) x (jAb_n hy) (jAb_p hx)⟩, fun hx => ⟨jNeg0 h0, key (-y) (-x) (jAb_n hy) (jAb_n hx)⟩⟩⟩
theorem zu_self {α : Type} (f : Nat → Nat → α) (i k : Nat) : zu f i k (f i k) = f := by
  funext a b
  rw [zu_at]
  split
  · rename_i h; rw [h.1, h.2]
  · rfl
/-- the value of a knot out of the values of its parts -/
def jVal (nm v : Nat → Int64) (k a o : Int32) : Option Int64 := if k = 0 then some a.toInt64 else if k = 1 then some (nm a.toNatClampNeg) else if k = 2 then some (if v a.toNatClampNeg = 0 then 1 else 0) else jBin k (v a.toNatClampNeg) (v o.toNatClampNeg)
set_option maxRecDepth 20000 in
theorem mo_val259 {i : Nat} {x y : Int64} (hi : i < 64) (quit : Q (some (Value.long (if zCmp (I 107 i) x y = true then 1 else 0))) (SH, I, L, RF p s r)) : zX w mX10_valueOf rX10_valueOf Q 0 0 259 [(0, Value.ref 87), (1, Value.int (nI i)), (2, Value.long x), (4, Value.long y)] [] (SH, I, L, RF p s r) := by
  have hv : vp_in (nI i) 128 := zvn (by omega) (by omega)
  refine zBlkR (M := mX10_valueOf) (nL := 6) (rt := (Option.some .long)) (blk := bX10_valueOf_259) (T := []) 0 hX10_valueOf_259 zChks_nil rfl rfl rfl (Nat.le_of_ble_eq_true rfl) (Nat.le_of_ble_eq_true rfl) ?_
  simp only [bX10_valueOf_259, zRun_cons, zRun_nil, zLk, zSto, zIns, zFil, zf0, zf1, zf2, zf3, List.filter_cons, List.filter_nil, Nat.reduceAdd, Nat.reduceEqDiff, Nat.reduceLT, Nat.reduceLeDiff, Nat.reduceBEq, Nat.reduceBNe, reduceIte, if_true, if_false, Bool.false_and, Bool.true_and, Bool.and_true, Bool.and_false, Bool.not_false, Bool.not_true, Bool.false_eq_true, beq_self_eq_true, BEq.rfl, zCat1, zCat2, zCat3, zKdI, zKdL, zKdR, true_and, and_true, zSI, zSL, zSR, zu_at, and_self, and_false, false_and, lv_args, zKdZ, zKdO, zB01, zB11, Option.toList_none, Option.toList_some, List.nil_append, List.cons_append, true_or, or_true, zRow_rd, zu_rd, zo_aload_n, zo_getfield, zo_iload_n, zo_iaload, zo_lload_n, zo_lload, zKd_10_41, sh_87, rf_87_41, sh_107, zKn_0, hv, zCat2, nI_clamp (n := i) (by omega), zN10, zN01, not_true_eq_false, not_false_eq_true, false_implies, true_implies, implies_true, eq_self, nI_1, nI_40, nI_7, vz0, vz1, zb1_e0, zb1_n0]
  refine z_cS0 (M' := mX10_compares) (R' := rX10_compares) [.int (I 107 i), .long x, .long y] [] eX10_compares k10_383 (by decide +kernel : decode cX10_valueOf 268 = .ok (.invokestatic 383, 3)) (Nat.le_of_ble_eq_true rfl) ⟨Nat.le_of_ble_eq_true rfl, Nat.le_of_ble_eq_true rfl, Nat.le_of_ble_eq_true rfl, Nat.le_of_ble_eq_true rfl, Nat.le_of_ble_eq_true rfl⟩ rfl rfl rfl ?_
  refine mo_compares ?_
  refine zBlkR (M := mX10_valueOf) (nL := 6) (rt := (Option.some .long)) (blk := bX10_valueOf_271) (T := [(278, bX10_valueOf_278), (279, bX10_valueOf_279)]) 1 hX10_valueOf_271 (zChks_cons hX10_valueOf_278 (zChks_cons hX10_valueOf_279 zChks_nil)) rfl rfl rfl (Nat.le_of_ble_eq_true rfl) (Nat.le_of_ble_eq_true rfl) ?_
  simp only [bX10_valueOf_271, bX10_valueOf_278, bX10_valueOf_279, zRun_cons, zRun_nil, zLk, zSto, zIns, zFil, zf0, zf1, zf2, zf3, List.filter_cons, List.filter_nil, Nat.reduceAdd, Nat.reduceEqDiff, Nat.reduceLT, Nat.reduceLeDiff, Nat.reduceBEq, Nat.reduceBNe, reduceIte, if_true, if_false, Bool.false_and, Bool.true_and, Bool.and_true, Bool.and_false, Bool.not_false, Bool.not_true, Bool.false_eq_true, beq_self_eq_true, BEq.rfl, zCat1, zCat2, zCat3, zKdI, zKdL, zKdR, true_and, and_true, zSI, zSL, zSR, zu_at, and_self, and_false, false_and, lv_args, zKdZ, zKdO, zB01, zB11, Option.toList_none, Option.toList_some, List.nil_append, List.cons_append, true_or, or_true, zRow_rd, zu_rd, zo_if_eq, zo_lconst, zo_goto, zo_lreturn, zl_1, zl_0, zKn_s, zKn_0, zFind, zN10, zN01, not_true_eq_false, not_false_eq_true, false_implies, true_implies, implies_true, eq_self, nI_1, nI_40, nI_7, vz0, vz1, zb1_e0, zb1_n0]
  refine ⟨fun q => ?_, fun q => ?_⟩
  · rw [if_neg (by rw [q]; decide)] at quit; exact quit
  · rw [if_pos (by simpa using q)] at quit; exact quit
set_option maxRecDepth 20000 in
theorem mo_val156 {i : Nat} {x y : Int64} (quit : Q (some (Value.long (if x ≠ 0 ∧ y ≠ 0 then 1 else 0))) (SH, I, L, RF p s r)) : zX w mX10_valueOf rX10_valueOf Q 0 0 156 [(0, Value.ref 87), (1, Value.int (nI i)), (2, Value.long x), (4, Value.long y)] [] (SH, I, L, RF p s r) := by
  refine zBlkR (M := mX10_valueOf) (nL := 6) (rt := (Option.some .long)) (blk := bX10_valueOf_156) (T := [(173, bX10_valueOf_173), (174, bX10_valueOf_174)]) 1 hX10_valueOf_156 (zChks_cons hX10_valueOf_173 (zChks_cons hX10_valueOf_174 zChks_nil)) rfl rfl rfl (Nat.le_of_ble_eq_true rfl) (Nat.le_of_ble_eq_true rfl) ?_
  simp only [bX10_valueOf_156, bX10_valueOf_173, bX10_valueOf_174, zRun_cons, zRun_nil, zLk, zSto, zIns, zFil, zf0, zf1, zf2, zf3, List.filter_cons, List.filter_nil, Nat.reduceAdd, Nat.reduceEqDiff, Nat.reduceLT, Nat.reduceLeDiff, Nat.reduceBEq, Nat.reduceBNe, reduceIte, if_true, if_false, Bool.false_and, Bool.true_and, Bool.and_true, Bool.and_false, Bool.not_false, Bool.not_true, Bool.false_eq_true, beq_self_eq_true, BEq.rfl, zCat1, zCat2, zCat3, zKdI, zKdL, zKdR, true_and, and_true, zSI, zSL, zSR, zu_at, and_self, and_false, false_and, lv_args, zKdZ, zKdO, zB01, zB11, Option.toList_none, Option.toList_some, List.nil_append, List.cons_append, true_or, or_true, zRow_rd, zu_rd, zo_lload_n, zo_lconst, zo_lcmp, zo_if_eq, zo_lload, zo_goto, zo_lreturn, zl_0, zl_1, zKn_s, zKn_0, zFind, zCat2, lc_eq, zN10, zN01, not_true_eq_false, not_false_eq_true, false_implies, true_implies, implies_true, eq_self, nI_1, nI_40, nI_7, vz0, vz1, zb1_e0, zb1_n0]
  by_cases h1 : x = 0 <;> by_cases h2 : y = 0 <;> simp [h1, h2] at quit ⊢ <;> exact quit
set_option maxRecDepth 20000 in
theorem mo_val175 {i : Nat} {x y : Int64} (quit : Q (some (Value.long (if x ≠ 0 ∨ y ≠ 0 then 1 else 0))) (SH, I, L, RF p s r)) : zX w mX10_valueOf rX10_valueOf Q 0 0 175 [(0, Value.ref 87), (1, Value.int (nI i)), (2, Value.long x), (4, Value.long y)] [] (SH, I, L, RF p s r) := by
  refine zBlkR (M := mX10_valueOf) (nL := 6) (rt := (Option.some .long)) (blk := bX10_valueOf_175) (T := [(188, bX10_valueOf_188), (192, bX10_valueOf_192), (193, bX10_valueOf_193)]) 2 hX10_valueOf_175 (zChks_cons hX10_valueOf_188 (zChks_cons hX10_valueOf_192 (zChks_cons hX10_valueOf_193 zChks_nil))) rfl rfl rfl (Nat.le_of_ble_eq_true rfl) (Nat.le_of_ble_eq_true rfl) ?_
  simp only [bX10_valueOf_175, bX10_valueOf_188, bX10_valueOf_192, bX10_valueOf_193, zRun_cons, zRun_nil, zLk, zSto, zIns, zFil, zf0, zf1, zf2, zf3, List.filter_cons, List.filter_nil, Nat.reduceAdd, Nat.reduceEqDiff, Nat.reduceLT, Nat.reduceLeDiff, Nat.reduceBEq, Nat.reduceBNe, reduceIte, if_true, if_false, Bool.false_and, Bool.true_and, Bool.and_true, Bool.and_false, Bool.not_false, Bool.not_true, Bool.false_eq_true, beq_self_eq_true, BEq.rfl, zCat1, zCat2, zCat3, zKdI, zKdL, zKdR, true_and, and_true, zSI, zSL, zSR, zu_at, and_self, and_false, false_and, lv_args, zKdZ, zKdO, zB01, zB11, Option.toList_none, Option.toList_some, List.nil_append, List.cons_append, true_or, or_true, zRow_rd, zu_rd, zo_lload_n, zo_lconst, zo_lcmp, zo_if_ne, zo_lload, zo_if_eq, zo_goto, zo_lreturn, zl_0, zl_1, zKn_s, zKn_0, zFind, zCat2, lc_eq, zN10, zN01, not_true_eq_false, not_false_eq_true, false_implies, true_implies, implies_true, eq_self, nI_1, nI_40, nI_7, vz0, vz1, zb1_e0, zb1_n0]
  by_cases h1 : x = 0 <;> by_cases h2 : y = 0 <;> simp [h1, h2] at quit ⊢ <;> exact quit
/-- how an answer stands to what a knot's value is, and isError -/
def zAnsJ (Q : Option Value → zMem → Prop) (I : Nat → Nat → Int32) (L : Nat → Nat → Int64) (p s : Nat) (r : Option Nat) (e : Bool) (o : Option Int64) : Prop := ∀ x e', (e = true → e' = true) → (e = false → ∀ v, o = some v → e' = false ∧ x = v) → (e = false → o = none → e' = true) → Q (some (.long x)) (SH, zu I 87 54 (zb1 e'), L, RF p s r)
set_option maxRecDepth 20000 in
theorem mo_val194 {i : Nat} {x y : Int64} {e : Bool} (he : I 87 54 = zb1 e) (hQ : zAnsJ Q I L p s r e (jBd (x + y))) : zX w mX10_valueOf rX10_valueOf Q 0 0 194 [(0, Value.ref 87), (1, Value.int (nI i)), (2, Value.long x), (4, Value.long y)] [] (SH, I, L, RF p s r) := by
  refine zBlkR (M := mX10_valueOf) (nL := 6) (rt := (Option.some .long)) (blk := bX10_valueOf_194) (T := []) 0 hX10_valueOf_194 zChks_nil rfl rfl rfl (Nat.le_of_ble_eq_true rfl) (Nat.le_of_ble_eq_true rfl) ?_
  simp only [bX10_valueOf_194, zRun_cons, zRun_nil, zLk, zSto, zIns, zFil, zf0, zf1, zf2, zf3, List.filter_cons, List.filter_nil, Nat.reduceAdd, Nat.reduceEqDiff, Nat.reduceLT, Nat.reduceLeDiff, Nat.reduceBEq, Nat.reduceBNe, reduceIte, if_true, if_false, Bool.false_and, Bool.true_and, Bool.and_true, Bool.and_false, Bool.not_false, Bool.not_true, Bool.false_eq_true, beq_self_eq_true, BEq.rfl, zCat1, zCat2, zCat3, zKdI, zKdL, zKdR, true_and, and_true, zSI, zSL, zSR, zu_at, and_self, and_false, false_and, lv_args, zKdZ, zKdO, zB01, zB11, Option.toList_none, Option.toList_some, List.nil_append, List.cons_append, true_or, or_true, zRow_rd, zu_rd, zo_aload_n, zo_lload_n, zo_lload, zo_ladd, zKn_0, zCat2, zN10, zN01, not_true_eq_false, not_false_eq_true, false_implies, true_implies, implies_true, eq_self, nI_1, nI_40, nI_7, vz0, vz1, zb1_e0, zb1_n0]
  refine z_cV0 (M' := mX10_bounded) (R' := rX10_bounded) (i := 87) [.long (x + y)] [] eX10_bounded k10_375 (by decide +kernel : decode cX10_valueOf 199 = .ok (.invokevirtual 375, 3)) (Nat.le_of_ble_eq_true rfl) ⟨Nat.le_of_ble_eq_true rfl, Nat.le_of_ble_eq_true rfl, Nat.le_of_ble_eq_true rfl, Nat.le_of_ble_eq_true rfl, Nat.le_of_ble_eq_true rfl⟩ rfl rfl rfl sh_87 ?_
  refine mo_bounded he ?_
  refine zBlkR (M := mX10_valueOf) (nL := 6) (rt := (Option.some .long)) (blk := bX10_valueOf_202) (T := []) 0 hX10_valueOf_202 zChks_nil rfl rfl rfl (Nat.le_of_ble_eq_true rfl) (Nat.le_of_ble_eq_true rfl) ?_
  simp only [bX10_valueOf_202, zRun_cons, zRun_nil, zLk, zSto, zIns, zFil, zf0, zf1, zf2, zf3, List.filter_cons, List.filter_nil, Nat.reduceAdd, Nat.reduceEqDiff, Nat.reduceLT, Nat.reduceLeDiff, Nat.reduceBEq, Nat.reduceBNe, reduceIte, if_true, if_false, Bool.false_and, Bool.true_and, Bool.and_true, Bool.and_false, Bool.not_false, Bool.not_true, Bool.false_eq_true, beq_self_eq_true, BEq.rfl, zCat1, zCat2, zCat3, zKdI, zKdL, zKdR, true_and, and_true, zSI, zSL, zSR, zu_at, and_self, and_false, false_and, lv_args, zKdZ, zKdO, zB01, zB11, Option.toList_none, Option.toList_some, List.nil_append, List.cons_append, true_or, or_true, zRow_rd, zu_rd, zo_lreturn, zKn_0, zN10, zN01, not_true_eq_false, not_false_eq_true, false_implies, true_implies, implies_true, eq_self, nI_1, nI_40, nI_7, vz0, vz1, zb1_e0, zb1_n0]
  refine hQ _ _ (fun h => by rw [h]; rfl) (fun h v hv => ?_) (fun h hn => by rw [hn]; simp)
  have : x + y = v := jBd_some hv
  rw [hv, h, this]; exact ⟨rfl, rfl⟩
set_option maxRecDepth 20000 in
theorem mo_val203 {i : Nat} {x y : Int64} {e : Bool} (he : I 87 54 = zb1 e) (hQ : zAnsJ Q I L p s r e (jBd (x - y))) : zX w mX10_valueOf rX10_valueOf Q 0 0 203 [(0, Value.ref 87), (1, Value.int (nI i)), (2, Value.long x), (4, Value.long y)] [] (SH, I, L, RF p s r) := by
  refine zBlkR (M := mX10_valueOf) (nL := 6) (rt := (Option.some .long)) (blk := bX10_valueOf_203) (T := []) 0 hX10_valueOf_203 zChks_nil rfl rfl rfl (Nat.le_of_ble_eq_true rfl) (Nat.le_of_ble_eq_true rfl) ?_
  simp only [bX10_valueOf_203, zRun_cons, zRun_nil, zLk, zSto, zIns, zFil, zf0, zf1, zf2, zf3, List.filter_cons, List.filter_nil, Nat.reduceAdd, Nat.reduceEqDiff, Nat.reduceLT, Nat.reduceLeDiff, Nat.reduceBEq, Nat.reduceBNe, reduceIte, if_true, if_false, Bool.false_and, Bool.true_and, Bool.and_true, Bool.and_false, Bool.not_false, Bool.not_true, Bool.false_eq_true, beq_self_eq_true, BEq.rfl, zCat1, zCat2, zCat3, zKdI, zKdL, zKdR, true_and, and_true, zSI, zSL, zSR, zu_at, and_self, and_false, false_and, lv_args, zKdZ, zKdO, zB01, zB11, Option.toList_none, Option.toList_some, List.nil_append, List.cons_append, true_or, or_true, zRow_rd, zu_rd, zo_aload_n, zo_lload_n, zo_lload, zo_lsub, zKn_0, zCat2, zN10, zN01, not_true_eq_false, not_false_eq_true, false_implies, true_implies, implies_true, eq_self, nI_1, nI_40, nI_7, vz0, vz1, zb1_e0, zb1_n0]
  refine z_cV0 (M' := mX10_bounded) (R' := rX10_bounded) (i := 87) [.long (x - y)] [] eX10_bounded k10_375 (by decide +kernel : decode cX10_valueOf 208 = .ok (.invokevirtual 375, 3)) (Nat.le_of_ble_eq_true rfl) ⟨Nat.le_of_ble_eq_true rfl, Nat.le_of_ble_eq_true rfl, Nat.le_of_ble_eq_true rfl, Nat.le_of_ble_eq_true rfl, Nat.le_of_ble_eq_true rfl⟩ rfl rfl rfl sh_87 ?_
  refine mo_bounded he ?_
  refine zBlkR (M := mX10_valueOf) (nL := 6) (rt := (Option.some .long)) (blk := bX10_valueOf_211) (T := []) 0 hX10_valueOf_211 zChks_nil rfl rfl rfl (Nat.le_of_ble_eq_true rfl) (Nat.le_of_ble_eq_true rfl) ?_
  simp only [bX10_valueOf_211, zRun_cons, zRun_nil, zLk, zSto, zIns, zFil, zf0, zf1, zf2, zf3, List.filter_cons, List.filter_nil, Nat.reduceAdd, Nat.reduceEqDiff, Nat.reduceLT, Nat.reduceLeDiff, Nat.reduceBEq, Nat.reduceBNe, reduceIte, if_true, if_false, Bool.false_and, Bool.true_and, Bool.and_true, Bool.and_false, Bool.not_false, Bool.not_true, Bool.false_eq_true, beq_self_eq_true, BEq.rfl, zCat1, zCat2, zCat3, zKdI, zKdL, zKdR, true_and, and_true, zSI, zSL, zSR, zu_at, and_self, and_false, false_and, lv_args, zKdZ, zKdO, zB01, zB11, Option.toList_none, Option.toList_some, List.nil_append, List.cons_append, true_or, or_true, zRow_rd, zu_rd, zo_lreturn, zKn_0, zN10, zN01, not_true_eq_false, not_false_eq_true, false_implies, true_implies, implies_true, eq_self, nI_1, nI_40, nI_7, vz0, vz1, zb1_e0, zb1_n0]
  refine hQ _ _ (fun h => by rw [h]; rfl) (fun h v hv => ?_) (fun h hn => by rw [hn]; simp)
  have : x - y = v := jBd_some hv
  rw [hv, h, this]; exact ⟨rfl, rfl⟩
set_option maxRecDepth 20000 in
theorem mo_val212 {i : Nat} {x y : Int64} {e : Bool} (he : I 87 54 = zb1 e) (hQ : zAnsJ Q I L p s r e (jMu x y)) : zX w mX10_valueOf rX10_valueOf Q 0 0 212 [(0, Value.ref 87), (1, Value.int (nI i)), (2, Value.long x), (4, Value.long y)] [] (SH, I, L, RF p s r) := by
  refine zBlkR (M := mX10_valueOf) (nL := 6) (rt := (Option.some .long)) (blk := bX10_valueOf_212) (T := []) 0 hX10_valueOf_212 zChks_nil rfl rfl rfl (Nat.le_of_ble_eq_true rfl) (Nat.le_of_ble_eq_true rfl) ?_
  simp only [bX10_valueOf_212, zRun_cons, zRun_nil, zLk, zSto, zIns, zFil, zf0, zf1, zf2, zf3, List.filter_cons, List.filter_nil, Nat.reduceAdd, Nat.reduceEqDiff, Nat.reduceLT, Nat.reduceLeDiff, Nat.reduceBEq, Nat.reduceBNe, reduceIte, if_true, if_false, Bool.false_and, Bool.true_and, Bool.and_true, Bool.and_false, Bool.not_false, Bool.not_true, Bool.false_eq_true, beq_self_eq_true, BEq.rfl, zCat1, zCat2, zCat3, zKdI, zKdL, zKdR, true_and, and_true, zSI, zSL, zSR, zu_at, and_self, and_false, false_and, lv_args, zKdZ, zKdO, zB01, zB11, Option.toList_none, Option.toList_some, List.nil_append, List.cons_append, true_or, or_true, zRow_rd, zu_rd, zo_aload_n, zo_lload_n, zo_lload, zKn_0, zCat2, zN10, zN01, not_true_eq_false, not_false_eq_true, false_implies, true_implies, implies_true, eq_self, nI_1, nI_40, nI_7, vz0, vz1, zb1_e0, zb1_n0]
  refine z_cV0 (M' := mX10_times) (R' := rX10_times) (i := 87) [.long x, .long y] [] eX10_times k10_379 (by decide +kernel : decode cX10_valueOf 216 = .ok (.invokevirtual 379, 3)) (Nat.le_of_ble_eq_true rfl) ⟨Nat.le_of_ble_eq_true rfl, Nat.le_of_ble_eq_true rfl, Nat.le_of_ble_eq_true rfl, Nat.le_of_ble_eq_true rfl, Nat.le_of_ble_eq_true rfl⟩ rfl rfl rfl sh_87 ?_
  refine mo_times he ?_
  refine zBlkR (M := mX10_valueOf) (nL := 6) (rt := (Option.some .long)) (blk := bX10_valueOf_219) (T := []) 0 hX10_valueOf_219 zChks_nil rfl rfl rfl (Nat.le_of_ble_eq_true rfl) (Nat.le_of_ble_eq_true rfl) ?_
  simp only [bX10_valueOf_219, zRun_cons, zRun_nil, zLk, zSto, zIns, zFil, zf0, zf1, zf2, zf3, List.filter_cons, List.filter_nil, Nat.reduceAdd, Nat.reduceEqDiff, Nat.reduceLT, Nat.reduceLeDiff, Nat.reduceBEq, Nat.reduceBNe, reduceIte, if_true, if_false, Bool.false_and, Bool.true_and, Bool.and_true, Bool.and_false, Bool.not_false, Bool.not_true, Bool.false_eq_true, beq_self_eq_true, BEq.rfl, zCat1, zCat2, zCat3, zKdI, zKdL, zKdR, true_and, and_true, zSI, zSL, zSR, zu_at, and_self, and_false, false_and, lv_args, zKdZ, zKdO, zB01, zB11, Option.toList_none, Option.toList_some, List.nil_append, List.cons_append, true_or, or_true, zRow_rd, zu_rd, zo_lreturn, zKn_0, zN10, zN01, not_true_eq_false, not_false_eq_true, false_implies, true_implies, implies_true, eq_self, nI_1, nI_40, nI_7, vz0, vz1, zb1_e0, zb1_n0]
  refine hQ _ _ (fun h => by rw [h]; rfl) (fun h v hv => ?_) (fun h hn => by rw [hn]; simp)
  have : x * y = v := jMu_some hv
  rw [hv, h, this]; exact ⟨rfl, rfl⟩
set_option maxRecDepth 20000 in
theorem mo_val220 {i : Nat} {x y : Int64} {e : Bool} (he : I 87 54 = zb1 e) (hQ : zAnsJ Q I L p s r e (if y = 0 then none else some (x / y))) : zX w mX10_valueOf rX10_valueOf Q 0 0 220 [(0, Value.ref 87), (1, Value.int (nI i)), (2, Value.long x), (4, Value.long y)] [] (SH, I, L, RF p s r) := by
  refine zBlkR (M := mX10_valueOf) (nL := 6) (rt := (Option.some .long)) (blk := bX10_valueOf_220) (T := [(235, bX10_valueOf_235), (239, bX10_valueOf_239), (240, bX10_valueOf_240), (254, bX10_valueOf_254), (258, bX10_valueOf_258)]) 3 hX10_valueOf_220 (zChks_cons hX10_valueOf_235 (zChks_cons hX10_valueOf_239 (zChks_cons hX10_valueOf_240 (zChks_cons hX10_valueOf_254 (zChks_cons hX10_valueOf_258 zChks_nil))))) rfl rfl rfl (Nat.le_of_ble_eq_true rfl) (Nat.le_of_ble_eq_true rfl) ?_
  simp only [bX10_valueOf_220, bX10_valueOf_235, bX10_valueOf_239, bX10_valueOf_240, bX10_valueOf_254, bX10_valueOf_258, zRun_cons, zRun_nil, zLk, zSto, zIns, zFil, zf0, zf1, zf2, zf3, List.filter_cons, List.filter_nil, Nat.reduceAdd, Nat.reduceEqDiff, Nat.reduceLT, Nat.reduceLeDiff, Nat.reduceBEq, Nat.reduceBNe, reduceIte, if_true, if_false, Bool.false_and, Bool.true_and, Bool.and_true, Bool.and_false, Bool.not_false, Bool.not_true, Bool.false_eq_true, beq_self_eq_true, BEq.rfl, zCat1, zCat2, zCat3, zKdI, zKdL, zKdR, true_and, and_true, zSI, zSL, zSR, zu_at, and_self, and_false, false_and, lv_args, zKdZ, zKdO, zB01, zB11, Option.toList_none, Option.toList_some, List.nil_append, List.cons_append, true_or, or_true, zRow_rd, zu_rd, zo_aload_n, zo_getfield, zo_if_ne, zo_lload, zo_lconst, zo_lcmp, zo_iconst, zo_goto, zo_putfield, zo_putfield_2, zo_putfield_3, zo_if_eq, zo_lload_n, zo_ldiv, zo_lreturn, zl_0, zi_1, zi_0, zKd_10_54, zTy_10_54, sh_87, zcl_1, zcl_0, zPutC, zKn_s, zKn_0, zFind, zCat2, he, lc_eq, zN10, zN01, not_true_eq_false, not_false_eq_true, false_implies, true_implies, implies_true, eq_self, nI_1, nI_40, nI_7, vz0, vz1, zb1_e0, zb1_n0]
  refine ⟨fun h => ?_, fun h => ⟨fun h0 => ⟨h0, ?_⟩, fun h0 => ?_⟩⟩
  · exact hQ 0 true (fun _ => rfl) (fun q => absurd q h) (fun q => absurd q h)
  · exact hQ (x / y) false (fun q => by rw [h] at q; cases q) (fun _ v hv => ⟨rfl, by rw [if_neg h0] at hv; exact Option.some.inj hv⟩) (fun _ hn => by rw [if_neg h0] at hn; cases hn)
  · exact hQ 0 true (fun _ => rfl) (fun _ v hv => by rw [if_pos h0] at hv; cases hv) (fun _ _ => rfl)
theorem zAnsJ_some {e : Bool} {o : Option Int64} {x : Int64} (he : I 87 54 = zb1 e) (hQ : zAnsJ Q I L p s r e o) (hx : o = some x) : Q (some (Value.long x)) (SH, I, L, RF p s r) := by
  have := hQ x e (fun h => h) (fun h v hv => ⟨h, by rw [hx] at hv; exact Option.some.inj hv⟩) (fun h hn => by rw [hx] at hn; cases hn)
  rw [← he, zu_self] at this
  exact this
set_option maxRecDepth 20000 in
theorem mo_val92 {i : Nat} {x y : Int64} {e : Bool} (hi : i < 64) (he : I 87 54 = zb1 e) (hQ : zAnsJ Q I L p s r e (jBin (I 107 i) x y)) : zX w mX10_valueOf rX10_valueOf Q 0 0 92 [(0, Value.ref 87), (1, Value.int (nI i)), (2, Value.long x), (4, Value.long y)] [Value.int (I 107 i)] (SH, I, L, RF p s r) := by
  have h259 : ¬ I 107 i = 3 → ¬ I 107 i = 4 → ¬ I 107 i = 11 → ¬ I 107 i = 12 → ¬ I 107 i = 13 → ¬ I 107 i = 14 → zX w mX10_valueOf rX10_valueOf Q 0 0 259 [(0, Value.ref 87), (1, Value.int (nI i)), (2, Value.long x), (4, Value.long y)] [] (SH, I, L, RF p s r) := fun q3 q4 q11 q12 q13 q14 => mo_val259 hi (zAnsJ_some he hQ (by simp [jBin, q3, q4, q11, q12, q13, q14]))
  generalize hk : I 107 i = k at *
  refine z_tsw (dt := 259) [(3, 156), (4, 175), (5, 259), (6, 259), (7, 259), (8, 259), (9, 259), (10, 259), (11, 194), (12, 203), (13, 212), (14, 220)] (by decide +kernel : decode cX10_valueOf 92 = .ok (.tableswitch 167 3 14 #[64, 83, 167, 167, 167, 167, 167, 167, 102, 111, 120, 128], 64)) (by decide) (by decide) (by decide) ?_
  simp only [zSw_cons, zSw_nil]
  refine ⟨fun q3 => ?_, fun q3 => ⟨fun q4 => ?_, fun q4 => ⟨fun q => ?_, fun _ => ⟨fun q => ?_, fun _ => ⟨fun q => ?_, fun _ => ⟨fun q => ?_, fun _ => ⟨fun q => ?_, fun _ => ⟨fun q => ?_, fun _ => ⟨fun q11 => ?_, fun q11 => ⟨fun q12 => ?_, fun q12 => ⟨fun q13 => ?_, fun q13 => ⟨fun q14 => ?_, fun q14 => ?_⟩⟩⟩⟩⟩⟩⟩⟩⟩⟩⟩⟩
  · exact mo_val156 (zAnsJ_some he hQ (by rw [q3]; rfl))
  · exact mo_val175 (zAnsJ_some he hQ (by rw [q4]; rfl))
  · exact h259 (by rw [q]; decide) (by rw [q]; decide) (by rw [q]; decide) (by rw [q]; decide) (by rw [q]; decide) (by rw [q]; decide)
  · exact h259 (by rw [q]; decide) (by rw [q]; decide) (by rw [q]; decide) (by rw [q]; decide) (by rw [q]; decide) (by rw [q]; decide)
  · exact h259 (by rw [q]; decide) (by rw [q]; decide) (by rw [q]; decide) (by rw [q]; decide) (by rw [q]; decide) (by rw [q]; decide)
  · exact h259 (by rw [q]; decide) (by rw [q]; decide) (by rw [q]; decide) (by rw [q]; decide) (by rw [q]; decide) (by rw [q]; decide)
  · exact h259 (by rw [q]; decide) (by rw [q]; decide) (by rw [q]; decide) (by rw [q]; decide) (by rw [q]; decide) (by rw [q]; decide)
  · exact h259 (by rw [q]; decide) (by rw [q]; decide) (by rw [q]; decide) (by rw [q]; decide) (by rw [q]; decide) (by rw [q]; decide)
  · exact mo_val194 he (by rw [q11] at hQ; exact hQ)
  · exact mo_val203 he (by rw [q12] at hQ; exact hQ)
  · exact mo_val212 he (by rw [q13] at hQ; exact hQ)
  · exact mo_val220 he (by rw [q14] at hQ; exact hQ)
  · exact h259 q3 q4 q11 q12 q13 q14
set_option maxRecDepth 20000 in
theorem mo_valueOf {i : Nat} {e : Bool} (hi : i < 64) (he : I 87 54 = zb1 e) (h1 : I 107 i = 1 → vp_in (I 108 i) 8) (h2 : ¬ I 107 i = 0 → ¬ I 107 i = 1 → vp_in (I 108 i) 64) (h3 : ¬ I 107 i = 0 → ¬ I 107 i = 1 → ¬ I 107 i = 2 → vp_in (I 109 i) 64) (hQ : zAnsJ Q I L p s r e (jVal (L 112) (L 113) (I 107 i) (I 108 i) (I 109 i))) : zXM w mX10_valueOf rX10_valueOf [.ref 87, .int (nI i)] (SH, I, L, RF p s r) Q := by
  unfold zXM
  have hv : vp_in (nI i) 128 := zvn (by omega) (by omega)
  refine zBlkR (M := mX10_valueOf) (nL := 6) (rt := (Option.some .long)) (blk := bX10_valueOf_0) (T := [(17, bX10_valueOf_17), (39, bX10_valueOf_39), (71, bX10_valueOf_71), (72, bX10_valueOf_72), (73, bX10_valueOf_73)]) 3 hX10_valueOf_0 (zChks_cons hX10_valueOf_17 (zChks_cons hX10_valueOf_39 (zChks_cons hX10_valueOf_71 (zChks_cons hX10_valueOf_72 (zChks_cons hX10_valueOf_73 zChks_nil))))) rfl rfl rfl (Nat.le_of_ble_eq_true rfl) (Nat.le_of_ble_eq_true rfl) ?_
  simp only [bX10_valueOf_0, bX10_valueOf_17, bX10_valueOf_39, bX10_valueOf_71, bX10_valueOf_72, bX10_valueOf_73, zRun_cons, zRun_nil, zLk, zSto, zIns, zFil, zf0, zf1, zf2, zf3, List.filter_cons, List.filter_nil, Nat.reduceAdd, Nat.reduceEqDiff, Nat.reduceLT, Nat.reduceLeDiff, Nat.reduceBEq, Nat.reduceBNe, reduceIte, if_true, if_false, Bool.false_and, Bool.true_and, Bool.and_true, Bool.and_false, Bool.not_false, Bool.not_true, Bool.false_eq_true, beq_self_eq_true, BEq.rfl, zCat1, zCat2, zCat3, zKdI, zKdL, zKdR, true_and, and_true, zSI, zSL, zSR, zu_at, and_self, and_false, false_and, lv_args, zKdZ, zKdO, zB01, zB11, Option.toList_none, Option.toList_some, List.nil_append, List.cons_append, true_or, or_true, zRow_rd, zu_rd, zo_aload_n, zo_getfield, zo_iload_n, zo_iaload, zo_if_ne, zo_i2l, zo_lreturn, zo_iconst, zo_icmp_ne, zo_laload, zo_lstore_n, zo_lload_n, zo_lconst, zo_lcmp, zo_goto, zo_lstore, zi_1, zi_2, zl_0, zl_1, zKd_10_41, zKd_10_42, zKd_10_52, zKd_10_53, zKd_10_43, sh_87, rf_87_41, sh_107, rf_87_42, sh_108, zcl_1, rf_87_52, sh_112, rf_87_53, sh_113, zcl_2, rf_87_43, sh_109, zvi_1_8, zvi_1_64, zvi_1_128, zvi_2_8, zvi_2_64, zvi_2_128, zKn_s, zKn_0, zFind, zCat2, hv, lc_eq, nI_clamp (n := i) (by omega), zN10, zN01, not_true_eq_false, not_false_eq_true, false_implies, true_implies, implies_true, eq_self, nI_1, nI_40, nI_7, vz0, vz1, zb1_e0, zb1_n0]
  refine ⟨fun k0 => ⟨fun k1 => ⟨h2 k0 k1, fun k2 => ⟨h3 k0 k1 k2, ?_⟩, fun k2 => ⟨fun q => ?_, fun q => ?_⟩⟩, fun k1 => ⟨h1 k1, ?_⟩⟩, fun k0 => ?_⟩
  · refine mo_val92 hi he ?_
    have hj : jVal (L 112) (L 113) (I 107 i) (I 108 i) (I 109 i) = jBin (I 107 i) (L 113 (I 108 i).toNatClampNeg) (L 113 (I 109 i).toNatClampNeg) := by simp [jVal, k0, k1, k2]
    rw [hj] at hQ
    exact hQ
  · exact zAnsJ_some he hQ (by simp [jVal, k2, q])
  · exact zAnsJ_some he hQ (by simp [jVal, k2, q])
  · exact zAnsJ_some he hQ (by simp [jVal, k1])
  · exact zAnsJ_some he hQ (by simp [jVal, k0])
end ZLW
