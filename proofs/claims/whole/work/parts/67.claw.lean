/-! ===== THE CLASS: a law's value ===== -/
/-- a row of longs holds a stack, its top last -/
def zStk (f : Nat → Int64) : List Int64 → Prop
  | [] => True
  | x :: s => f s.length = x ∧ zStk f s
section ZS67
variable {nm : Nat → Int64} {k a o : Nat → Int32} {F n : Nat} {S : List Nat} {s : List Int64} {f : Nat → Int64} {v : Int64}
theorem zStk_u : ∀ {s : List Int64} {n : Nat}, zStk f s → s.length ≤ n → zStk (fun b => if b = n then v else f b) s
  | [], _, _, _ => trivial
  | x :: s, n, h, hn => by
    have hn : s.length + 1 ≤ n := hn
    refine ⟨?_, zStk_u h.2 (by omega)⟩
    show (if s.length = n then v else f s.length) = x
    rw [if_neg (by omega)]
    exact h.1
theorem jRun_len : ∀ {n : Nat} {S : List Nat} {s : List Int64}, jPos k a o F n = some S → jRun nm k a F n = some s → s.length = S.length
  | 0, S, s, h1, h2 => by cases h1; cases h2; rfl
  | n + 1, S, s, h1, h2 => by
    rw [jPos] at h1
    rw [jRun] at h2
    cases hp : jPos k a o F n with
    | none => rw [hp] at h1; cases h1
    | some S0 =>
      cases hr : jRun nm k a F n with
      | none => rw [hr] at h2; cases h2
      | some s0 =>
        have ih := jRun_len hp hr
        rw [hp, Option.bind_some] at h1
        rw [hr, Option.bind_some] at h2
        unfold jPosS at h1
        unfold jRunS at h2
        by_cases k0 : k (F + n) = 0
        · rw [if_pos (Or.inl k0)] at h1
          rw [if_pos k0] at h2
          cases h1; cases h2
          simp [ih]
        by_cases k1 : k (F + n) = 1
        · rw [if_pos (Or.inr k1)] at h1
          rw [if_neg k0, if_pos k1] at h2
          cases h1; cases h2
          simp [ih]
        rw [if_neg (fun q => q.elim k0 k1)] at h1
        rw [if_neg k0, if_neg k1] at h2
        match S0, s0, ih, h1, h2 with
        | [], _, _, h1, _ => cases h1
        | y :: S1, [], ih, _, _ => simp at ih
        | y :: S1, z :: s1, ih, h1, h2 =>
          simp only at h1 h2
          have ih : s1.length = S1.length := by simpa using ih
          by_cases k2 : k (F + n) = 2
          · rw [if_pos k2] at h1 h2
            split at h1
            · cases h1; cases h2; simp [ih]
            · cases h1
          · rw [if_neg k2] at h1 h2
            match S1, s1, ih, h1, h2 with
            | [], _, _, h1, _ => cases h1
            | y2 :: S2, [], ih, _, _ => simp at ih
            | y2 :: S2, z2 :: s2, ih, h1, h2 =>
              simp only at h1 h2
              have ih : s2.length = S2.length := by simpa using ih
              split at h1
              · cases h1
                cases hb : jBin (k (F + n)) z2 z with
                | none => rw [hb] at h2; cases h2
                | some u => rw [hb] at h2; cases h2; simp [ih]
              · cases h1
theorem jRun_none {n : Nat} (h : jRun nm k a F n = none) : ∀ m, n ≤ m → jRun nm k a F m = none
  | 0, hm => by have : n = 0 := by omega
                subst this; exact h
  | m + 1, hm => by
    by_cases e : n = m + 1
    · rw [← e]; exact h
    · rw [jRun, jRun_none h m (by omega)]; rfl
theorem jB_i (x : Int32) : jB x.toInt64 := by
  unfold jB
  rw [Int32.toInt_toInt64]
  have h1 := Int32.le_toInt x
  have h2 := Int32.toInt_lt x
  omega
theorem jRun_b (hnm : ∀ j, jB (nm j)) : ∀ {n : Nat} {s : List Int64}, jRun nm k a F n = some s → ∀ x ∈ s, jB x
  | 0, s, h => by cases h; intro x hx; cases hx
  | n + 1, s, h => by
    rw [jRun] at h
    cases hr : jRun nm k a F n with
    | none => rw [hr] at h; cases h
    | some s0 =>
      have ih := jRun_b hnm hr
      rw [hr, Option.bind_some] at h
      unfold jRunS at h
      split at h
      · cases h
        intro x hx
        rcases List.mem_cons.mp hx with rfl | hx
        · exact jB_i _
        · exact ih x hx
      · split at h
        · cases h
          intro x hx
          rcases List.mem_cons.mp hx with rfl | hx
          · exact hnm _
          · exact ih x hx
        · split at h
          · cases h
          · rename_i y s1
            split at h
            · cases h
              intro x hx
              rcases List.mem_cons.mp hx with rfl | hx
              · exact jB_01 _
              · exact ih x (List.mem_cons_of_mem _ hx)
            · split at h
              · cases h
              · rename_i z s2
                cases hb : jBin (k (F + n)) z y with
                | none => rw [hb] at h; cases h
                | some u =>
                  rw [hb] at h; cases h
                  intro x hx
                  rcases List.mem_cons.mp hx with rfl | hx
                  · exact jBin_b (ih z (List.mem_cons_of_mem _ List.mem_cons_self)) (ih y List.mem_cons_self) hb
                  · exact ih x (List.mem_cons_of_mem _ (List.mem_cons_of_mem _ hx))
theorem jNm_b {vw fr : Int32} {sun mus : Bool} {tk fe : Nat} {pr t : Int32} (j : Nat) : jB (jNm vw fr sun mus tk fe pr t j) := by
  unfold jNm
  have h1 : ∀ b, jB (zl1 b) := fun b => by cases b <;> exact ⟨by decide, by decide⟩
  repeat' split
  all_goals first | exact jB_i _ | exact h1 _
theorem jLaw_b {T : Nat} (hnm : ∀ j, jB (nm j)) (h : jLaw nm k a F T = some v) : jB v := by
  unfold jLaw at h
  cases hr : jRun nm k a F (T - F) with
  | none => rw [hr] at h; cases h
  | some s =>
    rw [hr, Option.bind_some] at h
    exact jRun_b hnm hr v (List.mem_of_mem_head? h)
end ZS67
section ZV67
variable {w : zP} {Q : Option Value → zMem → Prop} {μ : zMem} {I J V V' : Nat → Nat → Int32} {L : Nat → Nat → Int64} {p s W B T t : Nat} {r : Option Nat} {P : oPn} {m : oTm} {c i k q wh : Nat}
/-- a law's value at a place, as both find it -/
def pLw (P : oPn) (m : oTm) (t : Nat) (V : Nat → Nat → Int32) (wh q : Nat) : Option Int64 := lwP P m (nI t) wh q (oCnt V (nI q) 2 (pCh P)) (oCnt V (nI q) 1 (pCh P))
theorem pLw_b {v : Int64} (h : pLw P m t V wh q = some v) : jB v := by
  unfold pLw lwP lwJ at h
  split at h
  · exact jLaw_b (fun j => jNm_b j) h
  · cases h
theorem pLw_told (h : pTold P wh = true) : pLw P m t V wh q = jLaw (pNm P m t V q) (pR P 107) (pR P 108) (pF P wh) (pT P wh) := by
  unfold pLw lwP lwJ
  rw [if_pos h]
  rfl
theorem pLw_not (h : pTold P wh = false) : pLw P m t V wh q = none := by
  unfold pLw lwP lwJ
  rw [if_neg (by rw [h]; decide)]
set_option maxRecDepth 20000 in
theorem cl_isNameOfLaw {x : Int32} (hQ : Q (some (.int (zb1 (!decide (x < 20) && !decide (27 < x))))) μ) : zXM w mX9_isNameOfLaw rX9_isNameOfLaw [.int x] μ Q := by
  unfold zXM
  refine zBlkR (M := mX9_isNameOfLaw) (nL := 1) (rt := (Option.some .boolean)) (blk := bX9_isNameOfLaw_0) (T := [(16, bX9_isNameOfLaw_16), (17, bX9_isNameOfLaw_17)]) 1 hX9_isNameOfLaw_0 (zChks_cons hX9_isNameOfLaw_16 (zChks_cons hX9_isNameOfLaw_17 zChks_nil)) rfl rfl rfl (Nat.le_of_ble_eq_true rfl) (Nat.le_of_ble_eq_true rfl) ?_
  simp only [bX9_isNameOfLaw_0, bX9_isNameOfLaw_16, bX9_isNameOfLaw_17, zRun_cons, zRun_nil, zLk, zSto, zIns, zFil, zf0, zf1, zf2, zf3, List.filter_cons, List.filter_nil, Nat.reduceAdd, Nat.reduceEqDiff, Nat.reduceLT, Nat.reduceLeDiff, Nat.reduceBEq, Nat.reduceBNe, reduceIte, if_true, if_false, Bool.false_and, Bool.true_and, Bool.and_true, Bool.and_false, Bool.not_false, Bool.not_true, Bool.false_eq_true, beq_self_eq_true, BEq.rfl, zCat1, zCat2, zCat3, zKdI, zKdL, zKdR, true_and, and_true, zSI, zSL, zSR, zu_at, and_self, and_false, false_and, lv_args, zKdZ, zKdO, zB01, zB11, Option.toList_none, Option.toList_some, List.nil_append, List.cons_append, true_or, or_true, zRow_rd, zu_rd, zo_iload_n, zo_bipush, zo_icmp_lt, zo_icmp_gt, zo_iconst, zo_goto, zo_ireturn, zb_20, zb_27, zi_1, zi_0, zcl_20, zcl_27, zcl_1, zcl_0, zRt, zKn_s, zKn_0, zFind, zN10, zN01, not_true_eq_false, not_false_eq_true, false_implies, true_implies, implies_true, eq_self, nI_1, nI_40, nI_7, vz0, vz1, zb1_e0, zb1_n0]
  by_cases h1 : x < 20 <;> by_cases h2 : 27 < x <;> simp [zb1, h1, h2] at hQ ⊢ <;> exact hQ
theorem jNk_f : ∀ j, j < 8 → (¬ (0 : Int32) ≤ -(jNk j)) ∧ (-(jNk j) < 0) ∧ (!decide (jNk j < 20) && !decide (27 < jNk j)) = true := by decide +kernel
theorem jKd_f : ∀ k, k < 15 → 3 ≤ k → (¬ (0 : Int32) ≤ -(jKd k)) ∧ (¬ -(jKd k) = -46) ∧ (!decide (jKd k < 20) && !decide (27 < jKd k)) = false := by decide +kernel
theorem jEnc_1 : ∀ j, j < 8 → jEnc 1 (nI j) = -(jNk j) := by decide +kernel
theorem jEnc_k : ∀ k, k < 15 → 3 ≤ k → jEnc (nI k) 0 = -(jKd k) := by decide +kernel
theorem jEnc_a {k a b : Int32} (h0 : ¬ k = 0) (h1 : ¬ k = 1) : jEnc k a = jEnc k b := by simp [jEnc, h0, h1]
theorem zMin1 {z1 : Int} (h1 : z1 = -9223372036854775808) : Int64.ofInt z1 = jMin := by rw [h1]; exact zL_m9223372036854775808
set_option maxRecDepth 20000 in
theorem cl_val22 {lv : zLoc} (hQ : Q (some (.long jMin)) μ) : zX w mX8_valueOf rX8_valueOf Q 0 0 22 lv [] μ := by
  obtain ⟨z1, h1⟩ : ∃ z, z = (-9223372036854775808 : Int) := ⟨_, rfl⟩
  rw [← zMin1 h1] at hQ
  refine zBlkR (M := mX8_valueOf) (nL := 8) (rt := (Option.some .long)) (blk := bX8_valueOf_22) (T := []) 0 hX8_valueOf_22 zChks_nil rfl rfl rfl (Nat.le_of_ble_eq_true rfl) (Nat.le_of_ble_eq_true rfl) ?_
  rw [show bX8_valueOf_22 = [(.ldc2_w 155, 3, 0, 0, z1), (.lreturn, 1, 0, 0, 0)] from by rw [h1]; rfl]
  simp only [zRun_cons, zRun_nil, zLk, zSto, zIns, zFil, zf0, zf1, zf2, zf3, List.filter_cons, List.filter_nil, Nat.reduceAdd, Nat.reduceEqDiff, Nat.reduceLT, Nat.reduceLeDiff, Nat.reduceBEq, Nat.reduceBNe, reduceIte, if_true, if_false, Bool.false_and, Bool.true_and, Bool.and_true, Bool.and_false, Bool.not_false, Bool.not_true, Bool.false_eq_true, beq_self_eq_true, BEq.rfl, zCat1, zCat2, zCat3, zKdI, zKdL, zKdR, true_and, and_true, zSI, zSL, zSR, zu_at, and_self, and_false, false_and, lv_args, zKdZ, zKdO, zB01, zB11, Option.toList_none, Option.toList_some, List.nil_append, List.cons_append, true_or, or_true, zRow_rd, zu_rd, zo_ldc2_w, zo_lreturn, zKn_0, zCat2, zN10, zN01, not_true_eq_false, not_false_eq_true, false_implies, true_implies, implies_true, eq_self, nI_1, nI_40, nI_7, vz0, vz1, zb1_e0, zb1_n0]
  exact hQ
set_option maxRecDepth 20000 in
theorem cl_val189n {a0 a1 a2 a3 a4 : Value} {x5 : Int32} (hQ : Q (some (.long jMin)) μ) : zX w mX8_valueOf rX8_valueOf Q 0 0 189 [(0, a0), (1, a1), (2, a2), (3, a3), (4, a4), (5, .int x5)] [.long jMin] μ := by
  obtain ⟨z1, h1⟩ : ∃ z, z = (-9223372036854775808 : Int) := ⟨_, rfl⟩
  rw [← zMin1 h1] at hQ ⊢
  refine zBlkR (M := mX8_valueOf) (nL := 8) (rt := (Option.some .long)) (blk := bX8_valueOf_189) (T := []) 0 hX8_valueOf_189 zChks_nil rfl rfl rfl (Nat.le_of_ble_eq_true rfl) (Nat.le_of_ble_eq_true rfl) ?_
  rw [show bX8_valueOf_189 = [(.lstore 6, 2, 0, 0, 0), (.lload 6, 2, 0, 0, 0), (.ldc2_w 155, 3, 0, 0, z1), (.lcmp, 1, 0, 0, 0), (.ifCond .ne 7, 3, 204, 0, 0), (.ldc2_w 155, 3, 0, 0, z1), (.lreturn, 1, 0, 0, 0)] from by rw [h1]; rfl]
  simp only [zRun_cons, zRun_nil, zLk, zSto, zIns, zFil, zf0, zf1, zf2, zf3, List.filter_cons, List.filter_nil, Nat.reduceAdd, Nat.reduceEqDiff, Nat.reduceLT, Nat.reduceLeDiff, Nat.reduceBEq, Nat.reduceBNe, reduceIte, if_true, if_false, Bool.false_and, Bool.true_and, Bool.and_true, Bool.and_false, Bool.not_false, Bool.not_true, Bool.false_eq_true, beq_self_eq_true, BEq.rfl, zCat1, zCat2, zCat3, zKdI, zKdL, zKdR, true_and, and_true, zSI, zSL, zSR, zu_at, and_self, and_false, false_and, lv_args, zKdZ, zKdO, zB01, zB11, Option.toList_none, Option.toList_some, List.nil_append, List.cons_append, true_or, or_true, zRow_rd, zu_rd, zo_lstore, zo_lload, zo_ldc2_w, zo_lcmp, zo_if_ne, zo_lreturn, zKn_0, lc_eq, zCat2, zN10, zN01, not_true_eq_false, not_false_eq_true, false_implies, true_implies, implies_true, eq_self, nI_1, nI_40, nI_7, vz0, vz1, zb1_e0, zb1_n0]
  exact hQ
set_option maxRecDepth 20000 in
theorem cl_val189s {a0 a1 a2 a3 a4 : Value} {x5 : Int32} {u : Int64} (hu : ¬ u = jMin) (hQ : zX w mX8_valueOf rX8_valueOf Q 0 0 204 [(0, a0), (1, a1), (2, a2), (3, a3), (4, a4), (5, .int x5), (6, .long u)] [] μ) : zX w mX8_valueOf rX8_valueOf Q 0 0 189 [(0, a0), (1, a1), (2, a2), (3, a3), (4, a4), (5, .int x5)] [.long u] μ := by
  obtain ⟨z1, h1⟩ : ∃ z, z = (-9223372036854775808 : Int) := ⟨_, rfl⟩
  rw [← zMin1 h1] at hu
  have hu : (u = Int64.ofInt z1) = False := eq_false hu
  refine zBlkR (M := mX8_valueOf) (nL := 8) (rt := (Option.some .long)) (blk := bX8_valueOf_189) (T := []) 0 hX8_valueOf_189 zChks_nil rfl rfl rfl (Nat.le_of_ble_eq_true rfl) (Nat.le_of_ble_eq_true rfl) ?_
  rw [show bX8_valueOf_189 = [(.lstore 6, 2, 0, 0, 0), (.lload 6, 2, 0, 0, 0), (.ldc2_w 155, 3, 0, 0, z1), (.lcmp, 1, 0, 0, 0), (.ifCond .ne 7, 3, 204, 0, 0), (.ldc2_w 155, 3, 0, 0, z1), (.lreturn, 1, 0, 0, 0)] from by rw [h1]; rfl]
  simp only [zRun_cons, zRun_nil, zLk, zSto, zIns, zFil, zf0, zf1, zf2, zf3, List.filter_cons, List.filter_nil, Nat.reduceAdd, Nat.reduceEqDiff, Nat.reduceLT, Nat.reduceLeDiff, Nat.reduceBEq, Nat.reduceBNe, reduceIte, if_true, if_false, Bool.false_and, Bool.true_and, Bool.and_true, Bool.and_false, Bool.not_false, Bool.not_true, Bool.false_eq_true, beq_self_eq_true, BEq.rfl, zCat1, zCat2, zCat3, zKdI, zKdL, zKdR, true_and, and_true, zSI, zSL, zSR, zu_at, and_self, and_false, false_and, lv_args, zKdZ, zKdO, zB01, zB11, Option.toList_none, Option.toList_some, List.nil_append, List.cons_append, true_or, or_true, zRow_rd, zu_rd, zo_lstore, zo_lload, zo_ldc2_w, zo_lcmp, zo_if_ne, zo_lreturn, zKn_0, lc_eq, zCat2, hu, zN10, zN01, not_true_eq_false, not_false_eq_true, false_implies, true_implies, implies_true, eq_self, nI_1, nI_40, nI_7, vz0, vz1, zb1_e0, zb1_n0]
  exact hQ
set_option maxRecDepth 20000 in
theorem cl_valueOf (hw : zOk w) (hC : zCw I W B T p P m t V) (hwh : wh < 3) (hq : q < pNp P) (hQ : ∀ L', zKpt (zWS W) L L' → Q (some (.long ((pLw P m t V wh q).getD jMin))) (SH, I, L', RF p s r)) : zXM w mX8_valueOf rX8_valueOf [.ref W, .int (nI wh), .int (nI q)] (SH, I, L, RF p s r) Q := by
  have hok := hw
  unfold zXM
  have hW := hC.hW
  have hp := hC.hp
  have hnp := hC.np
  have hpl := hC.hP.2.2.2.2.2.2.2 wh hwh
  have hlo := hC.hO.2.2.2.2.2.2.1 wh hwh
  have hv3 : vp_in (nI wh) 3 := zvn hwh (by omega)
  refine zBlkR (M := mX8_valueOf) (nL := 8) (rt := (Option.some .long)) (blk := bX8_valueOf_0) (T := []) 0 hX8_valueOf_0 zChks_nil rfl rfl rfl (Nat.le_of_ble_eq_true rfl) (Nat.le_of_ble_eq_true rfl) ?_
  simp only [bX8_valueOf_0, zRun_cons, zRun_nil, zLk, zSto, zIns, zFil, zf0, zf1, zf2, zf3, List.filter_cons, List.filter_nil, Nat.reduceAdd, Nat.reduceEqDiff, Nat.reduceLT, Nat.reduceLeDiff, Nat.reduceBEq, Nat.reduceBNe, reduceIte, if_true, if_false, Bool.false_and, Bool.true_and, Bool.and_true, Bool.and_false, Bool.not_false, Bool.not_true, Bool.false_eq_true, beq_self_eq_true, BEq.rfl, zCat1, zCat2, zCat3, zKdI, zKdL, zKdR, true_and, and_true, zSI, zSL, zSR, zu_at, and_self, and_false, false_and, lv_args, zKdZ, zKdO, zB01, zB11, Option.toList_none, Option.toList_some, List.nil_append, List.cons_append, true_or, or_true, zRow_rd, zu_rd, zo_aload_n, zo_getfield, zo_iload_n, zKd_8_4, sh_37, rf_37_4, sh_40, rf_40_4, zKn_0, (wsh_0 hW), (wsh_1 hW), (wsh_2 hW), (wsh_3 hW), (wrf_0 hW), (wrf_1 hW), (wrf_2 hW), (wrf_3 hW), (wrf_4 hW), Nat.add_left_cancel_iff, Nat.left_eq_add, Nat.add_eq_left, zN10, zN01, not_true_eq_false, not_false_eq_true, false_implies, true_implies, implies_true, eq_self, nI_1, nI_40, nI_7, vz0, vz1, zb1_e0, zb1_n0]
  refine z_cV0 (M' := mX4_hasLaw) (R' := rX4_hasLaw) (i := p) [.int (nI wh)] [] eX4_hasLaw k8_144 (by decide +kernel : decode cX8_valueOf 5 = .ok (.invokevirtual 144, 3)) (Nat.le_of_ble_eq_true rfl) ⟨Nat.le_of_ble_eq_true rfl, Nat.le_of_ble_eq_true rfl, Nat.le_of_ble_eq_true rfl, Nat.le_of_ble_eq_true rfl, Nat.le_of_ble_eq_true rfl⟩ rfl rfl rfl (psh_0 hp) ?_
  refine cl_hasLaw hp hwh ?_
  cases ht : pTold P wh with
  | false =>
    have e14 : I (p + 14) wh = -1 := by have := hpl.1; rw [ht] at this; exact this
    rw [pLw_not ht, Option.getD_none] at hQ
    rw [e14, show (!decide ((-1 : Int32) = -1)) = false from rfl]
    refine zBlkR (M := mX8_valueOf) (nL := 8) (rt := (Option.some .long)) (blk := bX8_valueOf_8) (T := []) 0 hX8_valueOf_8 zChks_nil rfl rfl rfl (Nat.le_of_ble_eq_true rfl) (Nat.le_of_ble_eq_true rfl) ?_
    simp (implicitDefEqProofs := false) only [bX8_valueOf_8, zRun_cons, zRun_nil, zLk, zSto, zIns, zFil, zf0, zf1, zf2, zf3, List.filter_cons, List.filter_nil, Nat.reduceAdd, Nat.reduceEqDiff, Nat.reduceLT, Nat.reduceLeDiff, Nat.reduceBEq, Nat.reduceBNe, reduceIte, if_true, if_false, Bool.false_and, Bool.true_and, Bool.and_true, Bool.and_false, Bool.not_false, Bool.not_true, Bool.false_eq_true, beq_self_eq_true, BEq.rfl, zCat1, zCat2, zCat3, zKdI, zKdL, zKdR, true_and, and_true, zSI, zSL, zSR, zu_at, and_self, and_false, false_and, lv_args, zKdZ, zKdO, zB01, zB11, Option.toList_none, Option.toList_some, List.nil_append, List.cons_append, true_or, or_true, zRow_rd, zu_rd, zo_if_eq, zo_aload_n, zo_getfield, zo_iload_n, zKd_8_4, sh_37, rf_37_4, sh_40, rf_40_4, zKn_0, (wsh_0 hW), (wsh_1 hW), (wsh_2 hW), (wsh_3 hW), (wrf_0 hW), (wrf_1 hW), (wrf_2 hW), (wrf_3 hW), (wrf_4 hW), Nat.add_left_cancel_iff, Nat.left_eq_add, Nat.add_eq_left, zCat2, zb1_f, zN10, zN01, not_true_eq_false, not_false_eq_true, false_implies, true_implies, implies_true, eq_self, nI_1, nI_40, nI_7, vz0, vz1, zb1_e0, zb1_n0]
    exact cl_val22 (hQ L zKpt_rfl)
  | true =>
    obtain ⟨hF, hT, hFT, hT64, hP, hN⟩ := hlo.2 ht
    have e14 : I (p + 14) wh = nI (pF P wh) := by have := hpl.1; rw [ht] at this; exact this
    obtain ⟨e15, e13⟩ := hpl.2 ht
    have e15 : I (p + 15) wh = nI (pT P wh) := e15
    have e13 : ∀ i, pF P wh ≤ i → i < pT P wh → I (p + 13) i = jEnc (pR P 107 i) (pR P 108 i) := e13
    have hkn := hC.hO2.2.2.1 wh hwh ht
    have n1 : (!decide (I (p + 14) wh = -1)) = true := by
      rw [e14]
      have h0 : ¬ nI (pF P wh) < 0 := nI_nn (by omega)
      simp only [Bool.not_eq_true', decide_eq_false_iff_not]
      intro g; rw [g] at h0; exact h0 (by decide)
    rw [n1]
    refine zBlkR (M := mX8_valueOf) (nL := 8) (rt := (Option.some .long)) (blk := bX8_valueOf_8) (T := [(22, bX8_valueOf_22)]) 1 hX8_valueOf_8 (zChks_cons hX8_valueOf_22 zChks_nil) rfl rfl rfl (Nat.le_of_ble_eq_true rfl) (Nat.le_of_ble_eq_true rfl) ?_
    simp (implicitDefEqProofs := false) only [bX8_valueOf_8, bX8_valueOf_22, zRun_cons, zRun_nil, zLk, zSto, zIns, zFil, zf0, zf1, zf2, zf3, List.filter_cons, List.filter_nil, Nat.reduceAdd, Nat.reduceEqDiff, Nat.reduceLT, Nat.reduceLeDiff, Nat.reduceBEq, Nat.reduceBNe, reduceIte, if_true, if_false, Bool.false_and, Bool.true_and, Bool.and_true, Bool.and_false, Bool.not_false, Bool.not_true, Bool.false_eq_true, beq_self_eq_true, BEq.rfl, zCat1, zCat2, zCat3, zKdI, zKdL, zKdR, true_and, and_true, zSI, zSL, zSR, zu_at, and_self, and_false, false_and, lv_args, zKdZ, zKdO, zB01, zB11, Option.toList_none, Option.toList_some, List.nil_append, List.cons_append, true_or, or_true, zRow_rd, zu_rd, zo_if_eq, zo_aload_n, zo_getfield, zo_iload_n, zo_ldc2_w, zo_lreturn, zL_m9223372036854775808, zKd_8_4, sh_37, rf_37_4, sh_40, rf_40_4, zKn_s, zKn_0, zFind, (wsh_0 hW), (wsh_1 hW), (wsh_2 hW), (wsh_3 hW), (wrf_0 hW), (wrf_1 hW), (wrf_2 hW), (wrf_3 hW), (wrf_4 hW), Nat.add_left_cancel_iff, Nat.left_eq_add, Nat.add_eq_left, zb1_t, zN10, zN01, not_true_eq_false, not_false_eq_true, false_implies, true_implies, implies_true, eq_self, nI_1, nI_40, nI_7, vz0, vz1, zb1_e0, zb1_n0]
    refine z_cV0 (M' := mX4_hasPlace) (R' := rX4_hasPlace) (i := p) [.int (nI q)] [] eX4_hasPlace k8_190 (by decide +kernel : decode cX8_valueOf 16 = .ok (.invokevirtual 190, 3)) (Nat.le_of_ble_eq_true rfl) ⟨Nat.le_of_ble_eq_true rfl, Nat.le_of_ble_eq_true rfl, Nat.le_of_ble_eq_true rfl, Nat.le_of_ble_eq_true rfl, Nat.le_of_ble_eq_true rfl⟩ rfl rfl rfl (psh_0 hp) ?_
    refine cl_hasPlace hp hC.i0 ?_
    rw [oIn_q hq (by omega)]
    refine zBlkR (M := mX8_valueOf) (nL := 8) (rt := (Option.some .long)) (blk := bX8_valueOf_19) (T := [(26, bX8_valueOf_26)]) 1 hX8_valueOf_19 (zChks_cons hX8_valueOf_26 zChks_nil) rfl rfl rfl (Nat.le_of_ble_eq_true rfl) (Nat.le_of_ble_eq_true rfl) ?_
    simp (implicitDefEqProofs := false) only [bX8_valueOf_19, bX8_valueOf_26, zRun_cons, zRun_nil, zLk, zSto, zIns, zFil, zf0, zf1, zf2, zf3, List.filter_cons, List.filter_nil, Nat.reduceAdd, Nat.reduceEqDiff, Nat.reduceLT, Nat.reduceLeDiff, Nat.reduceBEq, Nat.reduceBNe, reduceIte, if_true, if_false, Bool.false_and, Bool.true_and, Bool.and_true, Bool.and_false, Bool.not_false, Bool.not_true, Bool.false_eq_true, beq_self_eq_true, BEq.rfl, zCat1, zCat2, zCat3, zKdI, zKdL, zKdR, true_and, and_true, zSI, zSL, zSR, zu_at, and_self, and_false, false_and, lv_args, zKdZ, zKdO, zB01, zB11, Option.toList_none, Option.toList_some, List.nil_append, List.cons_append, true_or, or_true, zRow_rd, zu_rd, zo_if_ne, zo_ldc2_w, zo_lreturn, zo_iconst, zo_istore_n, zo_aload_n, zo_getfield, zo_iload_n, zo_iaload, zo_istore, zL_m9223372036854775808, zi_0, zKd_8_4, zKd_4_18, zcl_0, sh_37, rf_37_4, sh_40, rf_40_4, sh_55, rf_55_18, sh_69, sh_71, rf_71_18, sh_85, zvi_0_3, zKn_s, zKn_0, zFind, (wsh_0 hW), (wsh_1 hW), (wsh_2 hW), (wsh_3 hW), (wrf_0 hW), (wrf_1 hW), (wrf_2 hW), (wrf_3 hW), (wrf_4 hW), Nat.add_left_cancel_iff, Nat.left_eq_add, Nat.add_eq_left, (psh_0 hp), (psh_1 hp), (psh_2 hp), (psh_3 hp), (psh_4 hp), (psh_5 hp), (psh_6 hp), (psh_7 hp), (psh_8 hp), (psh_9 hp), (psh_10 hp), (psh_11 hp), (psh_12 hp), (psh_13 hp), (psh_14 hp), (psh_15 hp), (prf_1 hp), (prf_2 hp), (prf_3 hp), (prf_4 hp), (prf_6 hp), (prf_7 hp), (prf_8 hp), (prf_10 hp), (prf_11 hp), (prf_12 hp), (prf_13 hp), (prf_15 hp), (prf_17 hp), (prf_18 hp), (prf_19 hp), Nat.add_left_cancel_iff, Nat.left_eq_add, Nat.add_eq_left, zb1_t, hv3, e14, nI_clamp (n := wh) (by omega), zN10, zN01, not_true_eq_false, not_false_eq_true, false_implies, true_implies, implies_true, eq_self, nI_1, nI_40, nI_7, vz0, vz1, zb1_e0, zb1_n0]
    rw [pLw_told ht] at hQ
    generalize hnmE : pNm P m t V q = nm at hQ
    have hnm : ∀ j, jB (nm j) := fun j => by rw [← hnmE]; exact jNm_b j
    refine zLoop (n := pT P wh - pF P wh) (P := fun n => ∀ K s', zKpt (zWS W) L K → jRun nm (pR P 107) (pR P 108) (pF P wh) n = some s' → zStk (K (W + 1)) s' → zX w mX8_valueOf rX8_valueOf Q 0 0 39 [(0, Value.ref W), (1, Value.int (nI wh)), (2, Value.int (nI q)), (3, Value.int (nI s'.length)), (4, Value.int (nI (pF P wh + n)))] [] (SH, I, K, RF p s r)) (fun n hn ih => ?_) 0 (Nat.zero_le _) L [] zKpt_rfl rfl trivial
    intro K s' hK hrun hstk
    by_cases hend : n = pT P wh - pF P wh
    · have hx : (nI (pT P wh) ≤ nI (pF P wh + n)) = True := eq_true (by rw [zle_nat (by omega) (by omega)]; omega)
      rw [← hend] at hP
      have hlen := jRun_len hP hrun
      match s', hlen, hrun, hstk with
      | [x], _, hrun, hstk =>
        have h0 : K (W + 1) 0 = x := hstk.1
        refine zBlkR (M := mX8_valueOf) (nL := 8) (rt := (Option.some .long)) (blk := bX8_valueOf_39) (T := [(79, bX8_valueOf_79), (89, bX8_valueOf_89), (105, bX8_valueOf_105), (113, bX8_valueOf_113), (214, bX8_valueOf_214), (220, bX8_valueOf_220), (234, bX8_valueOf_234), (237, bX8_valueOf_237)]) 4 hX8_valueOf_39 (zChks_cons hX8_valueOf_79 (zChks_cons hX8_valueOf_89 (zChks_cons hX8_valueOf_105 (zChks_cons hX8_valueOf_113 (zChks_cons hX8_valueOf_214 (zChks_cons hX8_valueOf_220 (zChks_cons hX8_valueOf_234 (zChks_cons hX8_valueOf_237 zChks_nil)))))))) rfl rfl rfl (Nat.le_of_ble_eq_true rfl) (Nat.le_of_ble_eq_true rfl) ?_
        simp (implicitDefEqProofs := false) only [bX8_valueOf_39, bX8_valueOf_79, bX8_valueOf_89, bX8_valueOf_105, bX8_valueOf_113, bX8_valueOf_214, bX8_valueOf_220, bX8_valueOf_234, bX8_valueOf_237, zRun_cons, zRun_nil, zLk, zSto, zIns, zFil, zf0, zf1, zf2, zf3, List.filter_cons, List.filter_nil, Nat.reduceAdd, Nat.reduceEqDiff, Nat.reduceLT, Nat.reduceLeDiff, Nat.reduceBEq, Nat.reduceBNe, reduceIte, if_true, if_false, Bool.false_and, Bool.true_and, Bool.and_true, Bool.and_false, Bool.not_false, Bool.not_true, Bool.false_eq_true, beq_self_eq_true, BEq.rfl, zCat1, zCat2, zCat3, zKdI, zKdL, zKdR, true_and, and_true, zSI, zSL, zSR, zu_at, and_self, and_false, false_and, lv_args, zKdZ, zKdO, zB01, zB11, Option.toList_none, Option.toList_some, List.nil_append, List.cons_append, true_or, or_true, zRow_rd, zu_rd, zo_iload, zo_aload_n, zo_getfield, zo_iload_n, zo_iaload, zo_icmp_ge, zo_istore, zo_if_ge, zo_ineg, zo_bipush, zo_icmp_lt, zo_ldc2_w, zo_lreturn, zo_if_lt, zo_i2l, zo_goto, zo_lastore, zo_iinc, zo_iconst, zo_icmp_ne, zo_laload, zb_64, zL_m9223372036854775808, zi_1, zi_0, zKd_8_4, zKd_4_19, zKd_4_17, zKd_8_2, sh_37, rf_37_4, sh_40, rf_40_4, sh_55, rf_55_19, sh_70, sh_71, rf_71_19, sh_86, rf_55_17, sh_68, rf_71_17, sh_84, zcl_64, rf_37_2, sh_38, rf_40_2, sh_41, zcl_1, zcl_0, zvi_1_3, zvi_1_64, zvi_0_3, zvi_0_64, zKn_s, zKn_0, zFind, (wsh_0 hW), (wsh_1 hW), (wsh_2 hW), (wsh_3 hW), (wrf_0 hW), (wrf_1 hW), (wrf_2 hW), (wrf_3 hW), (wrf_4 hW), Nat.add_left_cancel_iff, Nat.left_eq_add, Nat.add_eq_left, (psh_0 hp), (psh_1 hp), (psh_2 hp), (psh_3 hp), (psh_4 hp), (psh_5 hp), (psh_6 hp), (psh_7 hp), (psh_8 hp), (psh_9 hp), (psh_10 hp), (psh_11 hp), (psh_12 hp), (psh_13 hp), (psh_14 hp), (psh_15 hp), (prf_1 hp), (prf_2 hp), (prf_3 hp), (prf_4 hp), (prf_6 hp), (prf_7 hp), (prf_8 hp), (prf_10 hp), (prf_11 hp), (prf_12 hp), (prf_13 hp), (prf_15 hp), (prf_17 hp), (prf_18 hp), (prf_19 hp), Nat.add_left_cancel_iff, Nat.left_eq_add, Nat.add_eq_left, hv3, e15, hx, zvi_0_64, zcl_0, h0, zCat2, nI_clamp (n := wh) (by omega), show nI [x].length = 1 from rfl, zN10, zN01, not_true_eq_false, not_false_eq_true, false_implies, true_implies, implies_true, eq_self, nI_1, nI_40, nI_7, vz0, vz1, zb1_e0, zb1_n0]
        have hq2 := hQ K hK
        rw [jLaw, ← hend, hrun, Option.bind_some, List.head?_cons, Option.getD_some] at hq2
        exact hq2
    have hnlt : n < pT P wh - pF P wh := by omega
    obtain ⟨S, hS⟩ := jPos_part hP (m := n) (by omega)
    have hlen := jRun_len hS hrun
    obtain ⟨S1, hS1⟩ := jPos_part hP (m := n + 1) (by omega)
    have hS1' := hS1
    rw [jPos, hS, Option.bind_some] at hS1'
    have hsl : s'.length ≤ n := by
      rw [hlen]
      clear ih hS1 hS1' hrun hstk hlen
      induction n generalizing S with
      | zero => cases hS; exact Nat.le_refl _
      | succ n ihn =>
        rw [jPos] at hS
        cases hp' : jPos (pR P 107) (pR P 108) (pR P 109) (pF P wh) n with
        | none => rw [hp'] at hS; cases hS
        | some S0 =>
          have h2 := ihn (by omega) (by omega) (by omega) S0 hp'
          rw [hp', Option.bind_some] at hS
          unfold jPosS at hS
          split at hS
          · cases hS; simp; omega
          · split at hS
            · cases hS
            · split at hS
              · split at hS
                · cases hS; simp at h2 ⊢; omega
                · cases hS
              · split at hS
                · cases hS
                · split at hS
                  · cases hS; simp at h2 ⊢; omega
                  · cases hS
    have hx : (nI (pT P wh) ≤ nI (pF P wh + n)) = False := eq_false (by rw [zle_nat (by omega) (by omega)]; omega)
    have hv64 : vp_in (nI (pF P wh + n)) 64 := zvn (by omega) (by omega)
    have hvh : vp_in (nI s'.length) 64 := zvn (by omega) (by omega)
    have hl64 : (nI s'.length < 64) = True := eq_true (by rw [show (64 : Int32) = nI 64 from rfl, zlt_nat (by omega) (by omega)]; omega)
    have e13 := e13 (pF P wh + n) (by omega) (by omega)
    obtain ⟨k, hk14, ek, hk0⟩ := hkn (pF P wh + n) (by omega) (by omega)
    have ih := ih (by omega)
    have hrun1 : jRun nm (pR P 107) (pR P 108) (pF P wh) (n + 1) = jRunS nm (nI k) (pR P 108 (pF P wh + n)) s' := by rw [jRun, hrun, Option.bind_some, ek]
    rw [ek] at e13 hS1'
    have hKu : ∀ x v, zKpt (zWS W) L (zu K (W + 1) x v) := fun x v => hK.u rfl
    by_cases k0 : k = 0
    · subst k0
      obtain ⟨v, hv, ea⟩ := hk0 rfl
      have e13 : I (p + 13) (pF P wh + n) = nI v := by rw [e13, ea]; rfl
      have p0 : (0 ≤ nI v) = True := eq_true (nI_pos' (by omega))
      have p1 : (nI v < 0) = False := eq_false (nI_nn (by omega))
      refine zBlkR (M := mX8_valueOf) (nL := 8) (rt := (Option.some .long)) (blk := bX8_valueOf_39) (T := [(79, bX8_valueOf_79), (89, bX8_valueOf_89), (105, bX8_valueOf_105), (113, bX8_valueOf_113), (214, bX8_valueOf_214), (220, bX8_valueOf_220), (234, bX8_valueOf_234), (237, bX8_valueOf_237)]) 4 hX8_valueOf_39 (zChks_cons hX8_valueOf_79 (zChks_cons hX8_valueOf_89 (zChks_cons hX8_valueOf_105 (zChks_cons hX8_valueOf_113 (zChks_cons hX8_valueOf_214 (zChks_cons hX8_valueOf_220 (zChks_cons hX8_valueOf_234 (zChks_cons hX8_valueOf_237 zChks_nil)))))))) rfl rfl rfl (Nat.le_of_ble_eq_true rfl) (Nat.le_of_ble_eq_true rfl) ?_
      simp (implicitDefEqProofs := false) only [bX8_valueOf_39, bX8_valueOf_79, bX8_valueOf_89, bX8_valueOf_105, bX8_valueOf_113, bX8_valueOf_214, bX8_valueOf_220, bX8_valueOf_234, bX8_valueOf_237, zRun_cons, zRun_nil, zLk, zSto, zIns, zFil, zf0, zf1, zf2, zf3, List.filter_cons, List.filter_nil, Nat.reduceAdd, Nat.reduceEqDiff, Nat.reduceLT, Nat.reduceLeDiff, Nat.reduceBEq, Nat.reduceBNe, reduceIte, if_true, if_false, Bool.false_and, Bool.true_and, Bool.and_true, Bool.and_false, Bool.not_false, Bool.not_true, Bool.false_eq_true, beq_self_eq_true, BEq.rfl, zCat1, zCat2, zCat3, zKdI, zKdL, zKdR, true_and, and_true, zSI, zSL, zSR, zu_at, and_self, and_false, false_and, lv_args, zKdZ, zKdO, zB01, zB11, Option.toList_none, Option.toList_some, List.nil_append, List.cons_append, true_or, or_true, zRow_rd, zu_rd, zo_iload, zo_aload_n, zo_getfield, zo_iload_n, zo_iaload, zo_icmp_ge, zo_istore, zo_if_ge, zo_ineg, zo_bipush, zo_icmp_lt, zo_ldc2_w, zo_lreturn, zo_if_lt, zo_i2l, zo_goto, zo_lastore, zo_iinc, zo_iconst, zo_icmp_ne, zo_laload, zb_64, zL_m9223372036854775808, zi_1, zi_0, zKd_8_4, zKd_4_19, zKd_4_17, zKd_8_2, sh_37, rf_37_4, sh_40, rf_40_4, sh_55, rf_55_19, sh_70, sh_71, rf_71_19, sh_86, rf_55_17, sh_68, rf_71_17, sh_84, zcl_64, rf_37_2, sh_38, rf_40_2, sh_41, zcl_1, zcl_0, zvi_1_3, zvi_1_64, zvi_0_3, zvi_0_64, zKn_s, zKn_0, zFind, (wsh_0 hW), (wsh_1 hW), (wsh_2 hW), (wsh_3 hW), (wrf_0 hW), (wrf_1 hW), (wrf_2 hW), (wrf_3 hW), (wrf_4 hW), Nat.add_left_cancel_iff, Nat.left_eq_add, Nat.add_eq_left, (psh_0 hp), (psh_1 hp), (psh_2 hp), (psh_3 hp), (psh_4 hp), (psh_5 hp), (psh_6 hp), (psh_7 hp), (psh_8 hp), (psh_9 hp), (psh_10 hp), (psh_11 hp), (psh_12 hp), (psh_13 hp), (psh_14 hp), (psh_15 hp), (prf_1 hp), (prf_2 hp), (prf_3 hp), (prf_4 hp), (prf_6 hp), (prf_7 hp), (prf_8 hp), (prf_10 hp), (prf_11 hp), (prf_12 hp), (prf_13 hp), (prf_15 hp), (prf_17 hp), (prf_18 hp), (prf_19 hp), Nat.add_left_cancel_iff, Nat.left_eq_add, Nat.add_eq_left, hv3, e15, hx, hv64, e13, p0, p1, hl64, hvh, zCat2, nI_clamp (n := wh) (by omega), nI_clamp (n := pF P wh + n) (by omega), nI_clamp (n := s'.length) (by omega), zN10, zN01, not_true_eq_false, not_false_eq_true, false_implies, true_implies, implies_true, eq_self, nI_1, nI_40, nI_7, vz0, vz1, zb1_e0, zb1_n0]
      have ih := ih (zu K (W + 1) s'.length (nI v).toInt64) ((nI v).toInt64 :: s') (hKu _ _) (by rw [hrun1, ea]; rfl) (by
        rw [zu_rd, if_pos rfl]
        exact ⟨if_pos rfl, zStk_u hstk (Nat.le_refl _)⟩)
      exact zX.sub' ih (by simp [Nat.add_assoc])
    by_cases k1 : k = 1
    · subst k1
      obtain ⟨j, hj, ea⟩ : ∃ j, j < 8 ∧ pR P 108 (pF P wh + n) = nI j := by
        have hh := vp_in_iff.mp (hN (pF P wh + n) (by omega) (by omega) ek)
        refine ⟨(pR P 108 (pF P wh + n)).toInt.toNat, by omega, ?_⟩
        apply Int32.toInt_inj.mp
        rw [nI_toInt (by omega)]
        omega
      obtain ⟨f1, f2, f3⟩ := jNk_f j hj
      have e13 : I (p + 13) (pF P wh + n) = -(jNk j) := by rw [e13, ea]; exact jEnc_1 j hj
      have f1 : ((0 : Int32) ≤ -(jNk j)) = False := eq_false f1
      have f2 : (-(jNk j) < 0) = True := eq_true f2
      refine zBlkR (M := mX8_valueOf) (nL := 8) (rt := (Option.some .long)) (blk := bX8_valueOf_39) (T := [(79, bX8_valueOf_79), (89, bX8_valueOf_89), (105, bX8_valueOf_105), (113, bX8_valueOf_113), (214, bX8_valueOf_214), (220, bX8_valueOf_220), (234, bX8_valueOf_234), (237, bX8_valueOf_237)]) 4 hX8_valueOf_39 (zChks_cons hX8_valueOf_79 (zChks_cons hX8_valueOf_89 (zChks_cons hX8_valueOf_105 (zChks_cons hX8_valueOf_113 (zChks_cons hX8_valueOf_214 (zChks_cons hX8_valueOf_220 (zChks_cons hX8_valueOf_234 (zChks_cons hX8_valueOf_237 zChks_nil)))))))) rfl rfl rfl (Nat.le_of_ble_eq_true rfl) (Nat.le_of_ble_eq_true rfl) ?_
      simp (implicitDefEqProofs := false) only [bX8_valueOf_39, bX8_valueOf_79, bX8_valueOf_89, bX8_valueOf_105, bX8_valueOf_113, bX8_valueOf_214, bX8_valueOf_220, bX8_valueOf_234, bX8_valueOf_237, zRun_cons, zRun_nil, zLk, zSto, zIns, zFil, zf0, zf1, zf2, zf3, List.filter_cons, List.filter_nil, Nat.reduceAdd, Nat.reduceEqDiff, Nat.reduceLT, Nat.reduceLeDiff, Nat.reduceBEq, Nat.reduceBNe, reduceIte, if_true, if_false, Bool.false_and, Bool.true_and, Bool.and_true, Bool.and_false, Bool.not_false, Bool.not_true, Bool.false_eq_true, beq_self_eq_true, BEq.rfl, zCat1, zCat2, zCat3, zKdI, zKdL, zKdR, true_and, and_true, zSI, zSL, zSR, zu_at, and_self, and_false, false_and, lv_args, zKdZ, zKdO, zB01, zB11, Option.toList_none, Option.toList_some, List.nil_append, List.cons_append, true_or, or_true, zRow_rd, zu_rd, zo_iload, zo_aload_n, zo_getfield, zo_iload_n, zo_iaload, zo_icmp_ge, zo_istore, zo_if_ge, zo_ineg, zo_bipush, zo_icmp_lt, zo_ldc2_w, zo_lreturn, zo_if_lt, zo_i2l, zo_goto, zo_lastore, zo_iinc, zo_iconst, zo_icmp_ne, zo_laload, zb_64, zL_m9223372036854775808, zi_1, zi_0, zKd_8_4, zKd_4_19, zKd_4_17, zKd_8_2, sh_37, rf_37_4, sh_40, rf_40_4, sh_55, rf_55_19, sh_70, sh_71, rf_71_19, sh_86, rf_55_17, sh_68, rf_71_17, sh_84, zcl_64, rf_37_2, sh_38, rf_40_2, sh_41, zcl_1, zcl_0, zvi_1_3, zvi_1_64, zvi_0_3, zvi_0_64, zKn_s, zKn_0, zFind, (wsh_0 hW), (wsh_1 hW), (wsh_2 hW), (wsh_3 hW), (wrf_0 hW), (wrf_1 hW), (wrf_2 hW), (wrf_3 hW), (wrf_4 hW), Nat.add_left_cancel_iff, Nat.left_eq_add, Nat.add_eq_left, (psh_0 hp), (psh_1 hp), (psh_2 hp), (psh_3 hp), (psh_4 hp), (psh_5 hp), (psh_6 hp), (psh_7 hp), (psh_8 hp), (psh_9 hp), (psh_10 hp), (psh_11 hp), (psh_12 hp), (psh_13 hp), (psh_14 hp), (psh_15 hp), (prf_1 hp), (prf_2 hp), (prf_3 hp), (prf_4 hp), (prf_6 hp), (prf_7 hp), (prf_8 hp), (prf_10 hp), (prf_11 hp), (prf_12 hp), (prf_13 hp), (prf_15 hp), (prf_17 hp), (prf_18 hp), (prf_19 hp), Nat.add_left_cancel_iff, Nat.left_eq_add, Nat.add_eq_left, hv3, e15, hx, hv64, e13, f1, Int32.neg_neg, nI_clamp (n := wh) (by omega), nI_clamp (n := pF P wh + n) (by omega), zN10, zN01, not_true_eq_false, not_false_eq_true, false_implies, true_implies, implies_true, eq_self, nI_1, nI_40, nI_7, vz0, vz1, zb1_e0, zb1_n0]
      refine z_cSN0 (host := "SkyChairs") (M' := mX9_isNameOfLaw) (R' := rX9_isNameOfLaw) [.int (jNk j)] [] eX9_isNameOfLaw (hok.nest (by decide)) (by decide +kernel : decode cX8_valueOf 73 = .ok (.invokestatic 226, 3)) (Nat.le_of_ble_eq_true rfl) ⟨Nat.le_of_ble_eq_true rfl, Nat.le_of_ble_eq_true rfl, Nat.le_of_ble_eq_true rfl, Nat.le_of_ble_eq_true rfl, Nat.le_of_ble_eq_true rfl⟩ rfl rfl rfl ?_
      refine cl_isNameOfLaw ?_
      rw [f3]
      refine zBlkR (M := mX8_valueOf) (nL := 8) (rt := (Option.some .long)) (blk := bX8_valueOf_76) (T := [(89, bX8_valueOf_89), (105, bX8_valueOf_105), (113, bX8_valueOf_113), (120, bX8_valueOf_120), (156, bX8_valueOf_156), (157, bX8_valueOf_157), (161, bX8_valueOf_161), (214, bX8_valueOf_214)]) 3 hX8_valueOf_76 (zChks_cons hX8_valueOf_89 (zChks_cons hX8_valueOf_105 (zChks_cons hX8_valueOf_113 (zChks_cons hX8_valueOf_120 (zChks_cons hX8_valueOf_156 (zChks_cons hX8_valueOf_157 (zChks_cons hX8_valueOf_161 (zChks_cons hX8_valueOf_214 zChks_nil)))))))) rfl rfl rfl (Nat.le_of_ble_eq_true rfl) (Nat.le_of_ble_eq_true rfl) ?_
      simp (implicitDefEqProofs := false) only [bX8_valueOf_76, bX8_valueOf_89, bX8_valueOf_105, bX8_valueOf_113, bX8_valueOf_120, bX8_valueOf_156, bX8_valueOf_157, bX8_valueOf_161, bX8_valueOf_214, zRun_cons, zRun_nil, zLk, zSto, zIns, zFil, zf0, zf1, zf2, zf3, List.filter_cons, List.filter_nil, Nat.reduceAdd, Nat.reduceEqDiff, Nat.reduceLT, Nat.reduceLeDiff, Nat.reduceBEq, Nat.reduceBNe, reduceIte, if_true, if_false, Bool.false_and, Bool.true_and, Bool.and_true, Bool.and_false, Bool.not_false, Bool.not_true, Bool.false_eq_true, beq_self_eq_true, BEq.rfl, zCat1, zCat2, zCat3, zKdI, zKdL, zKdR, true_and, and_true, zSI, zSL, zSR, zu_at, and_self, and_false, false_and, lv_args, zKdZ, zKdO, zB01, zB11, Option.toList_none, Option.toList_some, List.nil_append, List.cons_append, true_or, or_true, zRow_rd, zu_rd, zo_if_eq, zo_iload_n, zo_bipush, zo_icmp_lt, zo_ldc2_w, zo_lreturn, zo_aload_n, zo_getfield, zo_iload, zo_if_lt, zo_i2l, zo_goto, zo_ineg, zo_lastore, zo_iinc, zo_icmp_ne, zo_iconst, zo_isub, zo_laload, zo_lconst, zo_lcmp, zo_if_ne, zb_64, zL_m9223372036854775808, zi_1, zb_m46, zl_0, zl_1, zi_2, zi_m1, zKd_8_2, zcl_64, sh_37, rf_37_2, sh_38, sh_40, rf_40_2, sh_41, zcl_1, zcl_2, zvi_1_64, zvi_2_64, zKn_s, zKn_0, zFind, (wsh_0 hW), (wsh_1 hW), (wsh_2 hW), (wsh_3 hW), (wrf_0 hW), (wrf_1 hW), (wrf_2 hW), (wrf_3 hW), (wrf_4 hW), Nat.add_left_cancel_iff, Nat.left_eq_add, Nat.add_eq_left, zb1_t, f2, hl64, Int32.neg_neg, zCat2, zN10, zN01, not_true_eq_false, not_false_eq_true, false_implies, true_implies, implies_true, eq_self, nI_1, nI_40, nI_7, vz0, vz1, zb1_e0, zb1_n0]
      refine z_cV0 (M' := mX8_nameValue) (R' := rX8_nameValue) (i := W) [.int (jNk j), .int (nI q)] [.int (nI s'.length), .ref (W + 1)] eX8_nameValue k8_229 (by decide +kernel : decode cX8_valueOf 110 = .ok (.invokevirtual 229, 3)) (Nat.le_of_ble_eq_true rfl) ⟨Nat.le_of_ble_eq_true rfl, Nat.le_of_ble_eq_true rfl, Nat.le_of_ble_eq_true rfl, Nat.le_of_ble_eq_true rfl, Nat.le_of_ble_eq_true rfl⟩ rfl rfl rfl (wsh_0 hW) ?_
      refine cl_nameValue hC hq hj ?_
      refine zBlkR (M := mX8_valueOf) (nL := 8) (rt := (Option.some .long)) (blk := bX8_valueOf_113) (T := [(214, bX8_valueOf_214)]) 1 hX8_valueOf_113 (zChks_cons hX8_valueOf_214 zChks_nil) rfl rfl rfl (Nat.le_of_ble_eq_true rfl) (Nat.le_of_ble_eq_true rfl) ?_
      simp only [bX8_valueOf_113, bX8_valueOf_214, zRun_cons, zRun_nil, zLk, zSto, zIns, zFil, zf0, zf1, zf2, zf3, List.filter_cons, List.filter_nil, Nat.reduceAdd, Nat.reduceEqDiff, Nat.reduceLT, Nat.reduceLeDiff, Nat.reduceBEq, Nat.reduceBNe, reduceIte, if_true, if_false, Bool.false_and, Bool.true_and, Bool.and_true, Bool.and_false, Bool.not_false, Bool.not_true, Bool.false_eq_true, beq_self_eq_true, BEq.rfl, zCat1, zCat2, zCat3, zKdI, zKdL, zKdR, true_and, and_true, zSI, zSL, zSR, zu_at, and_self, and_false, false_and, lv_args, zKdZ, zKdO, zB01, zB11, Option.toList_none, Option.toList_some, List.nil_append, List.cons_append, true_or, or_true, zRow_rd, zu_rd, zo_lastore, zo_iinc, zo_goto, zi_1, zKn_s, zKn_0, zFind, (wsh_0 hW), (wsh_1 hW), (wsh_2 hW), (wsh_3 hW), (wrf_0 hW), (wrf_1 hW), (wrf_2 hW), (wrf_3 hW), (wrf_4 hW), Nat.add_left_cancel_iff, Nat.left_eq_add, Nat.add_eq_left, hvh, zCat2, nI_clamp (n := s'.length) (by omega), zN10, zN01, not_true_eq_false, not_false_eq_true, false_implies, true_implies, implies_true, eq_self, nI_1, nI_40, nI_7, vz0, vz1, zb1_e0, zb1_n0]
      have ih := ih (zu K (W + 1) s'.length (pNm P m t V q j)) (pNm P m t V q j :: s') (hKu _ _) (by rw [hrun1, ea, hnmE]; simp [jRunS, nI_clamp (show j < 2 ^ 31 by omega), show nI 1 = (1 : Int32) from rfl]) (by
        rw [zu_rd, if_pos rfl]
        exact ⟨if_pos rfl, zStk_u hstk (Nat.le_refl _)⟩)
      exact zX.sub' ih (by simp [Nat.add_assoc])
    have g0 : ¬ nI k = 0 := nI_ne0 (by omega) (by omega)
    have g1 : ¬ nI k = 1 := by rw [show (1 : Int32) = nI 1 from rfl, zeq_nat (by omega) (by omega)]; exact k1
    unfold jPosS at hS1'
    rw [if_neg (fun q => q.elim g0 g1)] at hS1'
    match s', hlen, hrun1, hstk, hsl, hrun with
    | [], hlen, _, _, _, _ =>
      match S, hlen, hS1' with
      | [], _, hS1' => cases hS1'
    | y :: s1, hlen, hrun1, hstk, hsl, hrun =>
      have hsl : s1.length + 1 ≤ n := hsl
      have hy : K (W + 1) s1.length = y := hstk.1
      have hv1 : vp_in (nI s1.length) 64 := zvn (by omega) (by omega)
      by_cases k2 : k = 2
      · subst k2
        have e13 : I (p + 13) (pF P wh + n) = -46 := by rw [e13]; rfl
        have f1 : ((0 : Int32) ≤ -46) = False := eq_false (by decide)
        refine zBlkR (M := mX8_valueOf) (nL := 8) (rt := (Option.some .long)) (blk := bX8_valueOf_39) (T := [(79, bX8_valueOf_79), (89, bX8_valueOf_89), (105, bX8_valueOf_105), (113, bX8_valueOf_113), (214, bX8_valueOf_214), (220, bX8_valueOf_220), (234, bX8_valueOf_234), (237, bX8_valueOf_237)]) 4 hX8_valueOf_39 (zChks_cons hX8_valueOf_79 (zChks_cons hX8_valueOf_89 (zChks_cons hX8_valueOf_105 (zChks_cons hX8_valueOf_113 (zChks_cons hX8_valueOf_214 (zChks_cons hX8_valueOf_220 (zChks_cons hX8_valueOf_234 (zChks_cons hX8_valueOf_237 zChks_nil)))))))) rfl rfl rfl (Nat.le_of_ble_eq_true rfl) (Nat.le_of_ble_eq_true rfl) ?_
        simp (implicitDefEqProofs := false) only [bX8_valueOf_39, bX8_valueOf_79, bX8_valueOf_89, bX8_valueOf_105, bX8_valueOf_113, bX8_valueOf_214, bX8_valueOf_220, bX8_valueOf_234, bX8_valueOf_237, zRun_cons, zRun_nil, zLk, zSto, zIns, zFil, zf0, zf1, zf2, zf3, List.filter_cons, List.filter_nil, Nat.reduceAdd, Nat.reduceEqDiff, Nat.reduceLT, Nat.reduceLeDiff, Nat.reduceBEq, Nat.reduceBNe, reduceIte, if_true, if_false, Bool.false_and, Bool.true_and, Bool.and_true, Bool.and_false, Bool.not_false, Bool.not_true, Bool.false_eq_true, beq_self_eq_true, BEq.rfl, zCat1, zCat2, zCat3, zKdI, zKdL, zKdR, true_and, and_true, zSI, zSL, zSR, zu_at, and_self, and_false, false_and, lv_args, zKdZ, zKdO, zB01, zB11, Option.toList_none, Option.toList_some, List.nil_append, List.cons_append, true_or, or_true, zRow_rd, zu_rd, zo_iload, zo_aload_n, zo_getfield, zo_iload_n, zo_iaload, zo_icmp_ge, zo_istore, zo_if_ge, zo_ineg, zo_bipush, zo_icmp_lt, zo_ldc2_w, zo_lreturn, zo_if_lt, zo_i2l, zo_goto, zo_lastore, zo_iinc, zo_iconst, zo_icmp_ne, zo_laload, zb_64, zL_m9223372036854775808, zi_1, zi_0, zKd_8_4, zKd_4_19, zKd_4_17, zKd_8_2, sh_37, rf_37_4, sh_40, rf_40_4, sh_55, rf_55_19, sh_70, sh_71, rf_71_19, sh_86, rf_55_17, sh_68, rf_71_17, sh_84, zcl_64, rf_37_2, sh_38, rf_40_2, sh_41, zcl_1, zcl_0, zvi_1_3, zvi_1_64, zvi_0_3, zvi_0_64, zKn_s, zKn_0, zFind, (wsh_0 hW), (wsh_1 hW), (wsh_2 hW), (wsh_3 hW), (wrf_0 hW), (wrf_1 hW), (wrf_2 hW), (wrf_3 hW), (wrf_4 hW), Nat.add_left_cancel_iff, Nat.left_eq_add, Nat.add_eq_left, (psh_0 hp), (psh_1 hp), (psh_2 hp), (psh_3 hp), (psh_4 hp), (psh_5 hp), (psh_6 hp), (psh_7 hp), (psh_8 hp), (psh_9 hp), (psh_10 hp), (psh_11 hp), (psh_12 hp), (psh_13 hp), (psh_14 hp), (psh_15 hp), (prf_1 hp), (prf_2 hp), (prf_3 hp), (prf_4 hp), (prf_6 hp), (prf_7 hp), (prf_8 hp), (prf_10 hp), (prf_11 hp), (prf_12 hp), (prf_13 hp), (prf_15 hp), (prf_17 hp), (prf_18 hp), (prf_19 hp), Nat.add_left_cancel_iff, Nat.left_eq_add, Nat.add_eq_left, hv3, e15, hx, hv64, e13, f1, Int32.neg_neg, nI_clamp (n := wh) (by omega), nI_clamp (n := pF P wh + n) (by omega), zN10, zN01, not_true_eq_false, not_false_eq_true, false_implies, true_implies, implies_true, eq_self, nI_1, nI_40, nI_7, vz0, vz1, zb1_e0, zb1_n0]
        refine z_cSN0 (host := "SkyChairs") (M' := mX9_isNameOfLaw) (R' := rX9_isNameOfLaw) [.int 46] [] eX9_isNameOfLaw (hok.nest (by decide)) (by decide +kernel : decode cX8_valueOf 73 = .ok (.invokestatic 226, 3)) (Nat.le_of_ble_eq_true rfl) ⟨Nat.le_of_ble_eq_true rfl, Nat.le_of_ble_eq_true rfl, Nat.le_of_ble_eq_true rfl, Nat.le_of_ble_eq_true rfl, Nat.le_of_ble_eq_true rfl⟩ rfl rfl rfl ?_
        refine cl_isNameOfLaw ?_
        rw [show (!decide ((46 : Int32) < 20) && !decide ((27 : Int32) < 46)) = false by decide]
        have l1 : (nI (s1.length + 1) < 1) = False := eq_false (by rw [show (1 : Int32) = nI 1 from rfl, zlt_nat (by omega) (by omega)]; omega)
        refine zBlkR (M := mX8_valueOf) (nL := 8) (rt := (Option.some .long)) (blk := bX8_valueOf_76) (T := [(89, bX8_valueOf_89), (105, bX8_valueOf_105), (113, bX8_valueOf_113), (120, bX8_valueOf_120), (156, bX8_valueOf_156), (157, bX8_valueOf_157), (161, bX8_valueOf_161), (214, bX8_valueOf_214)]) 3 hX8_valueOf_76 (zChks_cons hX8_valueOf_89 (zChks_cons hX8_valueOf_105 (zChks_cons hX8_valueOf_113 (zChks_cons hX8_valueOf_120 (zChks_cons hX8_valueOf_156 (zChks_cons hX8_valueOf_157 (zChks_cons hX8_valueOf_161 (zChks_cons hX8_valueOf_214 zChks_nil)))))))) rfl rfl rfl (Nat.le_of_ble_eq_true rfl) (Nat.le_of_ble_eq_true rfl) ?_
        simp (implicitDefEqProofs := false) only [bX8_valueOf_76, bX8_valueOf_89, bX8_valueOf_105, bX8_valueOf_113, bX8_valueOf_120, bX8_valueOf_156, bX8_valueOf_157, bX8_valueOf_161, bX8_valueOf_214, zRun_cons, zRun_nil, zLk, zSto, zIns, zFil, zf0, zf1, zf2, zf3, List.filter_cons, List.filter_nil, Nat.reduceAdd, Nat.reduceEqDiff, Nat.reduceLT, Nat.reduceLeDiff, Nat.reduceBEq, Nat.reduceBNe, reduceIte, if_true, if_false, Bool.false_and, Bool.true_and, Bool.and_true, Bool.and_false, Bool.not_false, Bool.not_true, Bool.false_eq_true, beq_self_eq_true, BEq.rfl, zCat1, zCat2, zCat3, zKdI, zKdL, zKdR, true_and, and_true, zSI, zSL, zSR, zu_at, and_self, and_false, false_and, lv_args, zKdZ, zKdO, zB01, zB11, Option.toList_none, Option.toList_some, List.nil_append, List.cons_append, true_or, or_true, zRow_rd, zu_rd, zo_if_eq, zo_iload_n, zo_bipush, zo_icmp_lt, zo_ldc2_w, zo_lreturn, zo_aload_n, zo_getfield, zo_iload, zo_if_lt, zo_i2l, zo_goto, zo_ineg, zo_lastore, zo_iinc, zo_icmp_ne, zo_iconst, zo_isub, zo_laload, zo_lconst, zo_lcmp, zo_if_ne, zb_64, zL_m9223372036854775808, zi_1, zb_m46, zl_0, zl_1, zi_2, zi_m1, zKd_8_2, zcl_64, sh_37, rf_37_2, sh_38, sh_40, rf_40_2, sh_41, zcl_1, zcl_2, zvi_1_64, zvi_2_64, zKn_s, zKn_0, zFind, (wsh_0 hW), (wsh_1 hW), (wsh_2 hW), (wsh_3 hW), (wrf_0 hW), (wrf_1 hW), (wrf_2 hW), (wrf_3 hW), (wrf_4 hW), Nat.add_left_cancel_iff, Nat.left_eq_add, Nat.add_eq_left, zb1_f, l1, nI_pred, hv1, hy, lc_eq, List.length_cons, zCat2, nI_clamp (n := s1.length) (by omega), zN10, zN01, not_true_eq_false, not_false_eq_true, false_implies, true_implies, implies_true, eq_self, nI_1, nI_40, nI_7, vz0, vz1, zb1_e0, zb1_n0]
        have fin : ∀ v : Int64, v = (if y = 0 then 1 else 0) → zX w mX8_valueOf rX8_valueOf Q 0 0 39 [(0, Value.ref W), (1, Value.int (nI wh)), (2, Value.int (nI q)), (3, Value.int (nI (s1.length + 1))), (4, Value.int (nI (pF P wh + n + 1))), (5, Value.int (-46))] [] (SH, I, zu K (W + 1) s1.length v, RF p s r) := by
          intro v hv
          have ih := ih (zu K (W + 1) s1.length v) (v :: s1) (hKu _ _) (by rw [hrun1, hv]; rfl) (by
            rw [zu_rd, if_pos rfl]
            exact ⟨if_pos rfl, zStk_u hstk.2 (Nat.le_refl _)⟩)
          exact zX.sub' ih (by simp [Nat.add_assoc])
        exact ⟨fun h => fin 0 (by rw [if_neg h]), fun h => fin 1 (by rw [if_pos h])⟩
      have g2 : ¬ nI k = 2 := by rw [show (2 : Int32) = nI 2 from rfl, zeq_nat (by omega) (by omega)]; exact k2
      match S, hlen, hS1' with
      | y1 :: S1', hlen, hS1' =>
        simp only [g2, if_false] at hS1'
        match s1, S1', hlen, hS1', hrun1, hstk, hy, hsl, hv1, hrun with
        | [], [], _, hS1', _, _, _, _, _, _ => cases hS1'
        | x :: s2, _, _, _, hrun1, hstk, hy, hsl, hv1, hrun =>
          have hx2 : K (W + 1) s2.length = x := hstk.2.1
          have hv2 : vp_in (nI s2.length) 64 := zvn (by simp at hsl; omega) (by omega)
          have hsl : s2.length + 1 + 1 ≤ n := hsl
          have hy : K (W + 1) (s2.length + 1) = y := hy
          have hv1 : vp_in (nI (s2.length + 1)) 64 := hv1
          obtain ⟨f1, f2, f3⟩ := jKd_f k (by omega) (by omega)
          have e13 : I (p + 13) (pF P wh + n) = -(jKd k) := by rw [e13, jEnc_a (b := 0) g0 g1]; exact jEnc_k k (by omega) (by omega)
          have f1 : ((0 : Int32) ≤ -(jKd k)) = False := eq_false f1
          have f2 : (-(jKd k) = -46) = False := eq_false f2
          have l2 : (nI (s2.length + 1 + 1) < 2) = False := eq_false (by rw [show (2 : Int32) = nI 2 from rfl, zlt_nat (by omega) (by omega)]; omega)
          refine zBlkR (M := mX8_valueOf) (nL := 8) (rt := (Option.some .long)) (blk := bX8_valueOf_39) (T := [(79, bX8_valueOf_79), (89, bX8_valueOf_89), (105, bX8_valueOf_105), (113, bX8_valueOf_113), (214, bX8_valueOf_214), (220, bX8_valueOf_220), (234, bX8_valueOf_234), (237, bX8_valueOf_237)]) 4 hX8_valueOf_39 (zChks_cons hX8_valueOf_79 (zChks_cons hX8_valueOf_89 (zChks_cons hX8_valueOf_105 (zChks_cons hX8_valueOf_113 (zChks_cons hX8_valueOf_214 (zChks_cons hX8_valueOf_220 (zChks_cons hX8_valueOf_234 (zChks_cons hX8_valueOf_237 zChks_nil)))))))) rfl rfl rfl (Nat.le_of_ble_eq_true rfl) (Nat.le_of_ble_eq_true rfl) ?_
          simp (implicitDefEqProofs := false) only [bX8_valueOf_39, bX8_valueOf_79, bX8_valueOf_89, bX8_valueOf_105, bX8_valueOf_113, bX8_valueOf_214, bX8_valueOf_220, bX8_valueOf_234, bX8_valueOf_237, zRun_cons, zRun_nil, zLk, zSto, zIns, zFil, zf0, zf1, zf2, zf3, List.filter_cons, List.filter_nil, Nat.reduceAdd, Nat.reduceEqDiff, Nat.reduceLT, Nat.reduceLeDiff, Nat.reduceBEq, Nat.reduceBNe, reduceIte, if_true, if_false, Bool.false_and, Bool.true_and, Bool.and_true, Bool.and_false, Bool.not_false, Bool.not_true, Bool.false_eq_true, beq_self_eq_true, BEq.rfl, zCat1, zCat2, zCat3, zKdI, zKdL, zKdR, true_and, and_true, zSI, zSL, zSR, zu_at, and_self, and_false, false_and, lv_args, zKdZ, zKdO, zB01, zB11, Option.toList_none, Option.toList_some, List.nil_append, List.cons_append, true_or, or_true, zRow_rd, zu_rd, zo_iload, zo_aload_n, zo_getfield, zo_iload_n, zo_iaload, zo_icmp_ge, zo_istore, zo_if_ge, zo_ineg, zo_bipush, zo_icmp_lt, zo_ldc2_w, zo_lreturn, zo_if_lt, zo_i2l, zo_goto, zo_lastore, zo_iinc, zo_iconst, zo_icmp_ne, zo_laload, zb_64, zL_m9223372036854775808, zi_1, zi_0, zKd_8_4, zKd_4_19, zKd_4_17, zKd_8_2, sh_37, rf_37_4, sh_40, rf_40_4, sh_55, rf_55_19, sh_70, sh_71, rf_71_19, sh_86, rf_55_17, sh_68, rf_71_17, sh_84, zcl_64, rf_37_2, sh_38, rf_40_2, sh_41, zcl_1, zcl_0, zvi_1_3, zvi_1_64, zvi_0_3, zvi_0_64, zKn_s, zKn_0, zFind, (wsh_0 hW), (wsh_1 hW), (wsh_2 hW), (wsh_3 hW), (wrf_0 hW), (wrf_1 hW), (wrf_2 hW), (wrf_3 hW), (wrf_4 hW), Nat.add_left_cancel_iff, Nat.left_eq_add, Nat.add_eq_left, (psh_0 hp), (psh_1 hp), (psh_2 hp), (psh_3 hp), (psh_4 hp), (psh_5 hp), (psh_6 hp), (psh_7 hp), (psh_8 hp), (psh_9 hp), (psh_10 hp), (psh_11 hp), (psh_12 hp), (psh_13 hp), (psh_14 hp), (psh_15 hp), (prf_1 hp), (prf_2 hp), (prf_3 hp), (prf_4 hp), (prf_6 hp), (prf_7 hp), (prf_8 hp), (prf_10 hp), (prf_11 hp), (prf_12 hp), (prf_13 hp), (prf_15 hp), (prf_17 hp), (prf_18 hp), (prf_19 hp), Nat.add_left_cancel_iff, Nat.left_eq_add, Nat.add_eq_left, hv3, e15, hx, hv64, e13, f1, Int32.neg_neg, nI_clamp (n := wh) (by omega), nI_clamp (n := pF P wh + n) (by omega), zN10, zN01, not_true_eq_false, not_false_eq_true, false_implies, true_implies, implies_true, eq_self, nI_1, nI_40, nI_7, vz0, vz1, zb1_e0, zb1_n0]
          refine z_cSN0 (host := "SkyChairs") (M' := mX9_isNameOfLaw) (R' := rX9_isNameOfLaw) [.int (jKd k)] [] eX9_isNameOfLaw (hok.nest (by decide)) (by decide +kernel : decode cX8_valueOf 73 = .ok (.invokestatic 226, 3)) (Nat.le_of_ble_eq_true rfl) ⟨Nat.le_of_ble_eq_true rfl, Nat.le_of_ble_eq_true rfl, Nat.le_of_ble_eq_true rfl, Nat.le_of_ble_eq_true rfl, Nat.le_of_ble_eq_true rfl⟩ rfl rfl rfl ?_
          refine cl_isNameOfLaw ?_
          rw [f3]
          refine zBlkR (M := mX8_valueOf) (nL := 8) (rt := (Option.some .long)) (blk := bX8_valueOf_76) (T := [(89, bX8_valueOf_89), (105, bX8_valueOf_105), (113, bX8_valueOf_113), (120, bX8_valueOf_120), (156, bX8_valueOf_156), (157, bX8_valueOf_157), (161, bX8_valueOf_161), (214, bX8_valueOf_214)]) 3 hX8_valueOf_76 (zChks_cons hX8_valueOf_89 (zChks_cons hX8_valueOf_105 (zChks_cons hX8_valueOf_113 (zChks_cons hX8_valueOf_120 (zChks_cons hX8_valueOf_156 (zChks_cons hX8_valueOf_157 (zChks_cons hX8_valueOf_161 (zChks_cons hX8_valueOf_214 zChks_nil)))))))) rfl rfl rfl (Nat.le_of_ble_eq_true rfl) (Nat.le_of_ble_eq_true rfl) ?_
          simp (implicitDefEqProofs := false) only [bX8_valueOf_76, bX8_valueOf_89, bX8_valueOf_105, bX8_valueOf_113, bX8_valueOf_120, bX8_valueOf_156, bX8_valueOf_157, bX8_valueOf_161, bX8_valueOf_214, zRun_cons, zRun_nil, zLk, zSto, zIns, zFil, zf0, zf1, zf2, zf3, List.filter_cons, List.filter_nil, Nat.reduceAdd, Nat.reduceEqDiff, Nat.reduceLT, Nat.reduceLeDiff, Nat.reduceBEq, Nat.reduceBNe, reduceIte, if_true, if_false, Bool.false_and, Bool.true_and, Bool.and_true, Bool.and_false, Bool.not_false, Bool.not_true, Bool.false_eq_true, beq_self_eq_true, BEq.rfl, zCat1, zCat2, zCat3, zKdI, zKdL, zKdR, true_and, and_true, zSI, zSL, zSR, zu_at, and_self, and_false, false_and, lv_args, zKdZ, zKdO, zB01, zB11, Option.toList_none, Option.toList_some, List.nil_append, List.cons_append, true_or, or_true, zRow_rd, zu_rd, zo_if_eq, zo_iload_n, zo_bipush, zo_icmp_lt, zo_ldc2_w, zo_lreturn, zo_aload_n, zo_getfield, zo_iload, zo_if_lt, zo_i2l, zo_goto, zo_ineg, zo_lastore, zo_iinc, zo_icmp_ne, zo_iconst, zo_isub, zo_laload, zo_lconst, zo_lcmp, zo_if_ne, zb_64, zL_m9223372036854775808, zi_1, zb_m46, zl_0, zl_1, zi_2, zi_m1, zKd_8_2, zcl_64, sh_37, rf_37_2, sh_38, sh_40, rf_40_2, sh_41, zcl_1, zcl_2, zvi_1_64, zvi_2_64, zKn_s, zKn_0, zFind, (wsh_0 hW), (wsh_1 hW), (wsh_2 hW), (wsh_3 hW), (wrf_0 hW), (wrf_1 hW), (wrf_2 hW), (wrf_3 hW), (wrf_4 hW), Nat.add_left_cancel_iff, Nat.left_eq_add, Nat.add_eq_left, zb1_f, f2, l2, nI_pred, pk_m1, hv1, hv2, hy, hx2, List.length_cons, Int32.neg_neg, zCat2, nI_clamp (n := s2.length) (by omega), nI_clamp (n := s2.length + 1) (by omega), zN10, zN01, not_true_eq_false, not_false_eq_true, false_implies, true_implies, implies_true, eq_self, nI_1, nI_40, nI_7, vz0, vz1, zb1_e0, zb1_n0]
          refine z_cS0 (M' := mX8_join) (R' := rX8_join) [.int (jKd k), .long x, .long y] [] eX8_join k8_232 (by decide +kernel : decode cX8_valueOf 186 = .ok (.invokestatic 232, 3)) (Nat.le_of_ble_eq_true rfl) ⟨Nat.le_of_ble_eq_true rfl, Nat.le_of_ble_eq_true rfl, Nat.le_of_ble_eq_true rfl, Nat.le_of_ble_eq_true rfl, Nat.le_of_ble_eq_true rfl⟩ rfl rfl rfl ?_
          have bx := jRun_b hnm hrun x (List.mem_cons_of_mem _ List.mem_cons_self)
          have bY := jRun_b hnm hrun y List.mem_cons_self
          refine cl_join (by omega) hk14 bx bY ?_
          have hS : jRunS nm (nI k) (pR P 108 (pF P wh + n)) (y :: x :: s2) = (jBin (nI k) x y).map (· :: s2) := by simp [jRunS, g0, g1, g2]
          rw [hS] at hrun1
          cases hb : jBin (nI k) x y with
          | none =>
            rw [hb] at hrun1
            have hq2 := hQ K hK
            rw [jLaw, jRun_none (n := n + 1) hrun1 _ (by omega), Option.bind_none, Option.getD_none] at hq2
            simp only [Option.getD_none, Option.toList_some, List.cons_append, List.nil_append]
            exact cl_val189n hq2
          | some u =>
            rw [hb] at hrun1
            simp only [Option.getD_some, Option.toList_some, List.cons_append, List.nil_append]
            refine cl_val189s (jB_min (jBin_b bx bY hb)) ?_
            refine zBlkR (M := mX8_valueOf) (nL := 8) (rt := (Option.some .long)) (blk := bX8_valueOf_204) (T := []) 0 hX8_valueOf_204 zChks_nil rfl rfl rfl (Nat.le_of_ble_eq_true rfl) (Nat.le_of_ble_eq_true rfl) ?_
            simp only [bX8_valueOf_204, zRun_cons, zRun_nil, zLk, zSto, zIns, zFil, zf0, zf1, zf2, zf3, List.filter_cons, List.filter_nil, Nat.reduceAdd, Nat.reduceEqDiff, Nat.reduceLT, Nat.reduceLeDiff, Nat.reduceBEq, Nat.reduceBNe, reduceIte, if_true, if_false, Bool.false_and, Bool.true_and, Bool.and_true, Bool.and_false, Bool.not_false, Bool.not_true, Bool.false_eq_true, beq_self_eq_true, BEq.rfl, zCat1, zCat2, zCat3, zKdI, zKdL, zKdR, true_and, and_true, zSI, zSL, zSR, zu_at, and_self, and_false, false_and, lv_args, zKdZ, zKdO, zB01, zB11, Option.toList_none, Option.toList_some, List.nil_append, List.cons_append, true_or, or_true, zRow_rd, zu_rd, zo_aload_n, zo_getfield, zo_iload_n, zo_iconst, zo_isub, zo_lload, zo_lastore, zo_iinc, zo_goto, zi_1, zKd_8_2, sh_37, rf_37_2, sh_38, sh_40, rf_40_2, sh_41, zcl_1, zvi_1_64, zKn_0, (wsh_0 hW), (wsh_1 hW), (wsh_2 hW), (wsh_3 hW), (wrf_0 hW), (wrf_1 hW), (wrf_2 hW), (wrf_3 hW), (wrf_4 hW), Nat.add_left_cancel_iff, Nat.left_eq_add, Nat.add_eq_left, zCat2, nI_pred, hv2, nI_clamp (n := s2.length) (by omega), zN10, zN01, not_true_eq_false, not_false_eq_true, false_implies, true_implies, implies_true, eq_self, nI_1, nI_40, nI_7, vz0, vz1, zb1_e0, zb1_n0]
            have ih := ih (zu K (W + 1) s2.length u) (u :: s2) (hKu _ _) (by rw [hrun1]; rfl) (by
              rw [zu_rd, if_pos rfl]
              exact ⟨if_pos rfl, zStk_u hstk.2.2 (Nat.le_refl _)⟩)
            exact zX.sub' ih (by simp [Nat.add_assoc])
end ZV67
