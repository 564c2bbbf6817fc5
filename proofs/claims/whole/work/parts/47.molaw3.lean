-- needs: 42 43 46
/-! ===== THE REFERENCE: sky, music, a law ===== -/
def zl1 (b : Bool) : Int64 := if b then 1 else 0
/-- the sky told last at t among the first n, and when -/
def oSkyF (tk kd : Nat → Int32) (t : Int32) : Nat → Int32 × Int32
  | 0 => (-1, 0)
  | n + 1 => if t < tk n ∨ tk n < (oSkyF tk kd t n).1 then oSkyF tk kd t n else (tk n, kd n)
def oSky (tk kd : Nat → Int32) (t : Int32) (n : Nat) (nr : Bool) : Int32 := if nr = true ∧ (oSkyF tk kd t n).2 = 2 then 1 else (oSkyF tk kd t n).2
def zAny (P : Nat → Bool) : Nat → Bool
  | 0 => false
  | n + 1 => zAny P n || P n
def oMusP (bp bf bt : Nat → Int32) (q t : Int32) (k : Nat) : Bool := decide (bp k = q) && (!decide (t < bf k) && !decide (bt k < t))
/-- what the names of a law stand for -/
def jNm (vw fr : Int32) (sun mus : Bool) (tk fe : Nat) (pr t : Int32) : Nat → Int64 := fun j => if j = 0 then vw.toInt64 else if j = 1 then fr.toInt64 else if j = 2 then zl1 sun else if j = 3 then zl1 mus else if j = 4 then (nI tk).toInt64 else if j = 5 then (nI fe).toInt64 else if j = 6 then pr.toInt64 else t.toInt64
section ZML
variable {w : zP} {Q : Option Value → zMem → Prop} {I V : Nat → Nat → Int32} {L : Nat → Nat → Int64} {p s : Nat} {r : Option Nat} {b c ch np : Nat} {wm : Int32}
theorem oSkyF_s1 {tk kd : Nat → Int32} {t : Int32} {n : Nat} (h : t < tk n ∨ tk n < (oSkyF tk kd t n).1) : oSkyF tk kd t (n + 1) = oSkyF tk kd t n := by rw [oSkyF, if_pos h]
theorem oSkyF_s2 {tk kd : Nat → Int32} {t : Int32} {n : Nat} (h : ¬ (t < tk n ∨ tk n < (oSkyF tk kd t n).1)) : oSkyF tk kd t (n + 1) = (tk n, kd n) := by rw [oSkyF, if_neg h]
set_option maxRecDepth 20000 in
theorem mo_skyOn {t : Int32} {ns : Nat} {nr : Bool} (hns : ns ≤ 12) (hI : I 87 14 = nI ns) (hnr : I 87 68 = zb1 nr) (hQ : Q (some (.int (oSky (I 96) (I 97) t ns nr))) (SH, I, L, RF p s r)) : zXM w mX10_skyOn rX10_skyOn [.ref 87, .int t] (SH, I, L, RF p s r) Q := by
  unfold zXM
  refine zBlkR (M := mX10_skyOn) (nL := 5) (rt := (Option.some .int)) (blk := bX10_skyOn_0) (T := []) 0 hX10_skyOn_0 zChks_nil rfl rfl rfl (Nat.le_of_ble_eq_true rfl) (Nat.le_of_ble_eq_true rfl) ?_
  simp only [bX10_skyOn_0, zRun_cons, zRun_nil, zLk, zSto, zIns, zFil, zf0, zf1, zf2, zf3, List.filter_cons, List.filter_nil, Nat.reduceAdd, Nat.reduceEqDiff, Nat.reduceLT, Nat.reduceLeDiff, Nat.reduceBEq, Nat.reduceBNe, reduceIte, if_true, if_false, Bool.false_and, Bool.true_and, Bool.and_true, Bool.and_false, Bool.not_false, Bool.not_true, Bool.false_eq_true, beq_self_eq_true, BEq.rfl, zCat1, zCat2, zCat3, zKdI, zKdL, zKdR, true_and, and_true, zSI, zSL, zSR, zu_at, and_self, and_false, false_and, lv_args, zKdZ, zKdO, zB01, zB11, Option.toList_none, Option.toList_some, List.nil_append, List.cons_append, true_or, or_true, zRow_rd, zu_rd, zo_iconst, zo_istore_n, zo_istore, zi_m1, zi_0, zcl_0, zKn_0, zN10, zN01, not_true_eq_false, not_false_eq_true, false_implies, true_implies, implies_true, eq_self, nI_1, nI_40, nI_7, vz0, vz1, zb1_e0, zb1_n0]
  refine zLoop (n := ns) (P := fun c => zX w mX10_skyOn rX10_skyOn Q 0 0 7 [(0, Value.ref 87), (1, Value.int t), (2, Value.int (oSkyF (I 96) (I 97) t c).1), (3, Value.int (oSkyF (I 96) (I 97) t c).2), (4, Value.int (nI c))] [] (SH, I, L, RF p s r)) (fun c hc ih => ?_) 0 (Nat.zero_le _)
  refine zBlkR (M := mX10_skyOn) (nL := 5) (rt := (Option.some .int)) (blk := bX10_skyOn_7) (T := [(41, bX10_skyOn_41), (57, bX10_skyOn_57), (63, bX10_skyOn_63), (79, bX10_skyOn_79), (80, bX10_skyOn_80)]) 2 hX10_skyOn_7 (zChks_cons hX10_skyOn_41 (zChks_cons hX10_skyOn_57 (zChks_cons hX10_skyOn_63 (zChks_cons hX10_skyOn_79 (zChks_cons hX10_skyOn_80 zChks_nil))))) rfl rfl rfl (Nat.le_of_ble_eq_true rfl) (Nat.le_of_ble_eq_true rfl) ?_
  simp only [bX10_skyOn_7, bX10_skyOn_41, bX10_skyOn_57, bX10_skyOn_63, bX10_skyOn_79, bX10_skyOn_80, zRun_cons, zRun_nil, zLk, zSto, zIns, zFil, zf0, zf1, zf2, zf3, List.filter_cons, List.filter_nil, Nat.reduceAdd, Nat.reduceEqDiff, Nat.reduceLT, Nat.reduceLeDiff, Nat.reduceBEq, Nat.reduceBNe, reduceIte, if_true, if_false, Bool.false_and, Bool.true_and, Bool.and_true, Bool.and_false, Bool.not_false, Bool.not_true, Bool.false_eq_true, beq_self_eq_true, BEq.rfl, zCat1, zCat2, zCat3, zKdI, zKdL, zKdR, true_and, and_true, zSI, zSL, zSR, zu_at, and_self, and_false, false_and, lv_args, zKdZ, zKdO, zB01, zB11, Option.toList_none, Option.toList_some, List.nil_append, List.cons_append, true_or, or_true, zRow_rd, zu_rd, zo_iload, zo_aload_n, zo_getfield, zo_icmp_ge, zo_iaload, zo_iload_n, zo_icmp_gt, zo_goto, zo_istore_n, zo_iinc, zo_if_eq, zo_iconst, zo_icmp_ne, zo_ireturn, zi_1, zi_2, zKd_10_14, zKd_10_30, zKd_10_31, zKd_10_68, sh_87, rf_87_30, sh_96, rf_87_31, sh_97, zcl_2, zcl_1, zvi_2_24, zvi_1_24, zRt, zKn_s, zKn_0, zFind, hI, hnr, zN10, zN01, not_true_eq_false, not_false_eq_true, false_implies, true_implies, implies_true, eq_self, nI_1, nI_40, nI_7, vz0, vz1, zb1_e0, zb1_n0]
  simp only [zle_nat (a := ns) (b := c) (by omega) (by omega), nI_clamp (n := c) (by omega)]
  refine ⟨fun h => ?_, fun h => ?_⟩
  · have : c = ns := by omega
    subst this
    unfold oSky at hQ
    cases nr <;> by_cases h2 : (oSkyF (I 96) (I 97) t c).2 = 2 <;> simp [h2] at hQ ⊢ <;> exact hQ
  · have hv : vp_in (nI c) 24 := zvn (by omega) (by omega)
    simp only [hv, true_and]
    refine ⟨fun h1 => ?_, fun h1 => ⟨fun h2 => ?_, fun h2 => ?_⟩⟩
    · have ih := ih (by omega)
      rw [oSkyF_s1 (Or.inl h1)] at ih
      exact ih
    · have ih := ih (by omega)
      rw [oSkyF_s2 (fun q => q.elim h1 (Int32.not_lt.mpr h2))] at ih
      exact ih
    · have ih := ih (by omega)
      rw [oSkyF_s1 (Or.inr (Int32.not_le.mp h2))] at ih
      exact ih
set_option maxRecDepth 20000 in
theorem mo_isMusic {q t : Int32} {nb : Nat} {nbd : Bool} (hnb : nb ≤ 2) (hI : I 87 15 = nI nb) (hnr : I 87 69 = zb1 nbd) (hQ : Q (some (.int (zb1 (!nbd && zAny (oMusP (I 98) (I 99) (I 100) q t) nb)))) (SH, I, L, RF p s r)) : zXM w mX10_isMusic rX10_isMusic [.ref 87, .int q, .int t] (SH, I, L, RF p s r) Q := by
  unfold zXM
  refine zBlkR (M := mX10_isMusic) (nL := 4) (rt := (Option.some .boolean)) (blk := bX10_isMusic_0) (T := []) 0 hX10_isMusic_0 zChks_nil rfl rfl rfl (Nat.le_of_ble_eq_true rfl) (Nat.le_of_ble_eq_true rfl) ?_
  simp only [bX10_isMusic_0, zRun_cons, zRun_nil, zLk, zSto, zIns, zFil, zf0, zf1, zf2, zf3, List.filter_cons, List.filter_nil, Nat.reduceAdd, Nat.reduceEqDiff, Nat.reduceLT, Nat.reduceLeDiff, Nat.reduceBEq, Nat.reduceBNe, reduceIte, if_true, if_false, Bool.false_and, Bool.true_and, Bool.and_true, Bool.and_false, Bool.not_false, Bool.not_true, Bool.false_eq_true, beq_self_eq_true, BEq.rfl, zCat1, zCat2, zCat3, zKdI, zKdL, zKdR, true_and, and_true, zSI, zSL, zSR, zu_at, and_self, and_false, false_and, lv_args, zKdZ, zKdO, zB01, zB11, Option.toList_none, Option.toList_some, List.nil_append, List.cons_append, true_or, or_true, zRow_rd, zu_rd, zo_iconst, zo_istore_n, zi_0, zcl_0, zKn_0, zN10, zN01, not_true_eq_false, not_false_eq_true, false_implies, true_implies, implies_true, eq_self, nI_1, nI_40, nI_7, vz0, vz1, zb1_e0, zb1_n0]
  refine zLoop (n := nb) (P := fun c => zAny (oMusP (I 98) (I 99) (I 100) q t) c = false → zX w mX10_isMusic rX10_isMusic Q 0 0 2 [(0, Value.ref 87), (1, Value.int q), (2, Value.int t), (3, Value.int (nI c))] [] (SH, I, L, RF p s r)) (fun c hc ih => ?_) 0 (Nat.zero_le _) rfl
  intro hz
  refine zBlkR (M := mX10_isMusic) (nL := 4) (rt := (Option.some .boolean)) (blk := bX10_isMusic_2) (T := [(48, bX10_isMusic_48), (54, bX10_isMusic_54)]) 1 hX10_isMusic_2 (zChks_cons hX10_isMusic_48 (zChks_cons hX10_isMusic_54 zChks_nil)) rfl rfl rfl (Nat.le_of_ble_eq_true rfl) (Nat.le_of_ble_eq_true rfl) ?_
  simp only [bX10_isMusic_2, bX10_isMusic_48, bX10_isMusic_54, zRun_cons, zRun_nil, zLk, zSto, zIns, zFil, zf0, zf1, zf2, zf3, List.filter_cons, List.filter_nil, Nat.reduceAdd, Nat.reduceEqDiff, Nat.reduceLT, Nat.reduceLeDiff, Nat.reduceBEq, Nat.reduceBNe, reduceIte, if_true, if_false, Bool.false_and, Bool.true_and, Bool.and_true, Bool.and_false, Bool.not_false, Bool.not_true, Bool.false_eq_true, beq_self_eq_true, BEq.rfl, zCat1, zCat2, zCat3, zKdI, zKdL, zKdR, true_and, and_true, zSI, zSL, zSR, zu_at, and_self, and_false, false_and, lv_args, zKdZ, zKdO, zB01, zB11, Option.toList_none, Option.toList_some, List.nil_append, List.cons_append, true_or, or_true, zRow_rd, zu_rd, zo_iload_n, zo_aload_n, zo_getfield, zo_icmp_ge, zo_if_ne, zo_iaload, zo_icmp_ne, zo_iinc, zo_goto, zo_iconst, zo_ireturn, zi_1, zi_0, zKd_10_15, zKd_10_69, zKd_10_32, zKd_10_33, zKd_10_34, sh_87, rf_87_32, sh_98, rf_87_33, sh_99, rf_87_34, sh_100, zcl_0, zvi_0_4, zRt, zKn_s, zKn_0, zFind, hI, hnr, zN10, zN01, not_true_eq_false, not_false_eq_true, false_implies, true_implies, implies_true, eq_self, nI_1, nI_40, nI_7, vz0, vz1, zb1_e0, zb1_n0]
  simp only [zle_nat (a := nb) (b := c) (by omega) (by omega), nI_clamp (n := c) (by omega)]
  refine ⟨fun h => ?_, fun h => ⟨fun h0 => ?_, fun h0 => ?_⟩⟩
  · have : c = nb := by omega
    subst this
    rw [hz, Bool.and_false] at hQ
    exact hQ
  · have : nbd = true := by simpa using h0
    subst this
    exact hQ
  · have hv : vp_in (nI c) 4 := zvn (by omega) (by omega)
    simp only [hv, true_and]
    refine ⟨fun h1 => ?_, fun h1 => ?_⟩
    · exact ih (by omega) (by rw [zAny, hz]; simp [oMusP, h1])
    · refine z_cS0 (M' := mX10_isIn) (R' := rX10_isIn) [.int t, .int (I 99 c), .int (I 100 c)] [] eX10_isIn k10_223 (by decide +kernel : decode cX10_isMusic 40 = .ok (.invokestatic 223, 3)) (Nat.le_of_ble_eq_true rfl) ⟨Nat.le_of_ble_eq_true rfl, Nat.le_of_ble_eq_true rfl, Nat.le_of_ble_eq_true rfl, Nat.le_of_ble_eq_true rfl, Nat.le_of_ble_eq_true rfl⟩ rfl rfl rfl ?_
      refine mo_isIn ?_
      refine zBlkR (M := mX10_isMusic) (nL := 4) (rt := (Option.some .boolean)) (blk := bX10_isMusic_43) (T := [(48, bX10_isMusic_48)]) 1 hX10_isMusic_43 (zChks_cons hX10_isMusic_48 zChks_nil) rfl rfl rfl (Nat.le_of_ble_eq_true rfl) (Nat.le_of_ble_eq_true rfl) ?_
      simp only [bX10_isMusic_43, bX10_isMusic_48, zRun_cons, zRun_nil, zLk, zSto, zIns, zFil, zf0, zf1, zf2, zf3, List.filter_cons, List.filter_nil, Nat.reduceAdd, Nat.reduceEqDiff, Nat.reduceLT, Nat.reduceLeDiff, Nat.reduceBEq, Nat.reduceBNe, reduceIte, if_true, if_false, Bool.false_and, Bool.true_and, Bool.and_true, Bool.and_false, Bool.not_false, Bool.not_true, Bool.false_eq_true, beq_self_eq_true, BEq.rfl, zCat1, zCat2, zCat3, zKdI, zKdL, zKdR, true_and, and_true, zSI, zSL, zSR, zu_at, and_self, and_false, false_and, lv_args, zKdZ, zKdO, zB01, zB11, Option.toList_none, Option.toList_some, List.nil_append, List.cons_append, true_or, or_true, zRow_rd, zu_rd, zo_if_eq, zo_iconst, zo_ireturn, zo_iinc, zo_goto, zi_1, zcl_1, zRt, zKn_s, zKn_0, zFind, zN10, zN01, not_true_eq_false, not_false_eq_true, false_implies, true_implies, implies_true, eq_self, nI_1, nI_40, nI_7, vz0, vz1, zb1_e0, zb1_n0]
      refine ⟨fun h2 => ih (by omega) (by rw [zAny, hz, Bool.false_or, oMusP, h2, Bool.and_false]), fun h2 => ?_⟩
      have h2 : (!decide (t < I 99 c) && !decide (I 100 c < t)) = true := by simpa using h2
      have key : ∀ m, c < m → zAny (oMusP (I 98) (I 99) (I 100) q t) m = true := by
        intro m
        induction m with
        | zero => intro h; omega
        | succ m ihm =>
          intro hm
          rw [zAny]
          by_cases e : c = m
          · subst e
            rw [oMusP, h2, h1]
            simp
          · rw [ihm (by omega)]; rfl
      rw [key nb (by omega), h0] at hQ
      exact hQ
end ZML
