/-! ===== LOOK: the case of the law ===== -/
section ZN98zzc
variable {w : zP} {Q Q' : Option Value → zMem → Prop} {μ : zMem} {I : Nat → Nat → Int32} {L : Nat → Nat → Int64} {pp ss : Nat} {rr : Option Nat} {x y : Int32} {n ch jj : Nat} {P : oPn} {V : Nat → Nat → Int32} {d : Int64} {t kd : Nat} {rt : oRt} {M : zMd} {R : Room} {kc ks pc : Nat} {lv : zLoc} {st : List Value} {nm : String} {len i j : Nat} {xs : Nat → Int32}
set_option maxRecDepth 20000 in
theorem yLook_good (hC : zKl I L pp P V d t kd rt) (hc : ch < pCh P) (hj : jj < 5) (hKp : zKp w) (hQ : Q (some (.int 0)) (SH, I, zu L 139 0 (V (jj + 1) ch).toInt64, RF pp ss rr)) : Met (zl w) mL_look.2.1 (yCw :: zG) yRL (zPre w [.ref 0, .int (nI ch), .int (nI jj), .ref 139] (SH, I, L, RF pp ss rr)) (zPost w Q) 1 6 (zA w) := by
  refine yMetW (Nat.le_of_ble_eq_true rfl) (fun p e s m below meth c Qm ls C htab hret hH hl => ?_)
  have hz : zX w mL_look yRL Q 0 0 0 (lv_args 0 [.ref 0, .int (nI ch), .int (nI jj), .ref 139]) [] (SH, I, L, RF pp ss rr) := by
    refine z_aload_n (M := mL_look) (i := 3) (x := 139) (by decide +kernel : decode cL_look 0 = .ok (.aload_n 3, 1)) rfl ?_
    refine z_iconst (M := mL_look) (by decide +kernel : decode cL_look 1 = .ok (.iconst 0, 1)) ?_
    refine z_aload_n (M := mL_look) (i := 0) (x := 0) (by decide +kernel : decode cL_look 2 = .ok (.aload_n 0, 1)) rfl ?_
    refine z_iload_n (M := mL_look) (i := 1) (x := nI ch) (by decide +kernel : decode cL_look 3 = .ok (.iload_n 1, 1)) rfl ?_
    refine z_iload_n (M := mL_look) (i := 2) (x := nI jj) (by decide +kernel : decode cL_look 4 = .ok (.iload_n 2, 1)) rfl ?_
    refine z_cV0 (M := mL_look) (M' := mX9_look) (R' := rX9_look) (i := 0) [.int (nI ch), .int (nI jj)] [.int (Int32.ofInt 0), .ref 139] eX9_look k11_7 (by decide +kernel : decode cL_look 5 = .ok (.invokevirtual 7, 3)) (Nat.le_of_ble_eq_true rfl) ⟨Nat.le_of_ble_eq_true rfl, Nat.le_of_ble_eq_true rfl, Nat.le_of_ble_eq_true rfl, Nat.le_of_ble_eq_true rfl, Nat.le_of_ble_eq_true rfl⟩ rfl rfl rfl sh_0 ?_
    refine cl_look hC hc hj ?_
    refine z_i2l (M := mL_look) (by decide +kernel : decode cL_look 8 = .ok (.i2l, 1)) ?_
    refine z_last (M := mL_look) (i := 139) (n := 1) (by decide +kernel : decode cL_look 9 = .ok (.lastore, 1)) sh_139 (zvn (j := 0) (by omega) (by omega)) ?_
    refine z_goto (M := mL_look) (tgt := 21) (by decide +kernel : decode cL_look 10 = .ok (.goto 11, 3)) (by decide) ?_
    refine z_iconst (M := mL_look) (by decide +kernel : decode cL_look 21 = .ok (.iconst 0, 1)) ?_
    exact z_ret (M := mL_look) (v := some (.int 0)) (by decide +kernel : decode cL_look 22 = .ok (.ireturn, 1)) ⟨.int, rfl, rfl⟩ (Nat.le_of_ble_eq_true rfl) (Nat.le_of_ble_eq_true rfl) hQ
  exact hz p e s m _ below meth c Qm C hKp hret s.heap [] ls hH va_S.rf hl
theorem z_cSW {As rest : List Value} {idx : Nat} (hd : decode M.2.2.1 pc = .ok (.invokestatic idx, 3)) (hM : zKp w → Met (zl w) mL_look.2.1 (yCw :: zG) yRL (zPre w As μ) (zPost w Q') 1 6 (zA w)) (hQ' : ∀ v μ', Q' v μ' → zX w M R Q (kc + 1) (ks + 6) (pc + 3) lv (v.toList ++ rest) μ') (hlen : As.length = 4) (hw1 : Cond.methodLink M.2.1.cls idx yL_look ∈ zG) (hfit : 7 + 1 ≤ R.frames ∧ 8 + (5 + 11) + 104 ≤ R.locals ∧ kc + 1 ≤ R.cells ∧ ks + 6 ≤ R.slots ∧ (rest.map fun v => v.category).sum ≤ 8) (hst : st = As.reverse ++ rest) : zX w M R Q kc ks pc lv st μ := by
  intro p e s m args below meth c Qm C hK hret H locs ls hH hS hl
  obtain ⟨hx, hb, hml, hown, hts, hKn, hex, hb0, hlk, hr, hnm⟩ := id C
  have hcode : yCw ∈ zG := zt5 177 (by decide +kernel) rfl
  have hgo : GoodIn zG (va_wsS M.2.1.cls idx yL_look (yCw :: zG)) := by
    have g := zG_in hcode
    have g1 : ∀ q ∈ zG, q ∈ zG ∧ ((q.onTables && q.keeps) = true ∨ ∃ ty, q = .arrayClass ty) := fun q hq => g q (List.mem_cons_of_mem _ hq)
    intro q hq
    rcases List.mem_append.mp hq with hq | hq
    · simp only [List.mem_cons, List.not_mem_nil, or_false] at hq
      rcases hq with rfl | rfl | rfl
      · exact g1 _ hw1
      · exact g1 _ (zt5 176 (by decide +kernel) rfl)
      · exact g1 _ (zt1 0 (by decide +kernel) rfl)
    · exact g q hq
  refine zBack (R' := yRL) (rest := rest.map (zCv w)) (vx_runSW (As := As.map (zCv w)) ⟨hx, hb, hml, hown, hts⟩ (hM hK) (vx_cwSW 4 hts hgo rfl rfl rfl ⟨by decide +kernel, by decide +kernel, by decide +kernel⟩ ⟨hfit.1, hfit.2.1⟩) ⟨zPre_blind hK, fun U hU hW => zPre_at hK hKn hex hb0 hH hS hU hW⟩ rfl (by simp [hlen]) hl.1 (by rw [zRev w hst]) (lv_room (by rw [zCat]; exact hfit.2.2.2.2)) hd ⟨hfit.2.2.1, hfit.2.2.2.1⟩) hS (fun v μ' H1 locs1 hq hH1 hS1 => ?_)
  have k2 := hQ' v μ' hq p e s m args below meth c Qm C hK hret H1 locs1 ls hH1 hS1 hl
  rw [List.map_append] at k2
  cases v <;> exact k2
set_option maxRecDepth 20000 in
theorem mo_thrown (hQ : Q (some (.int (I 87 2))) (SH, I, L, RF pp ss rr)) : zXM w mX10_thrown rX10_thrown [.ref 87] (SH, I, L, RF pp ss rr) Q := by
  unfold zXM
  refine zBlkR (M := mX10_thrown) (nL := 1) (rt := (Option.some .int)) (blk := bX10_thrown_0) (T := []) 0 hX10_thrown_0 zChks_nil rfl rfl rfl (Nat.le_of_ble_eq_true rfl) (Nat.le_of_ble_eq_true rfl) ?_
  simp (implicitDefEqProofs := false) only [bX10_thrown_0, zRun_cons, zRun_nil, zLk, zSto, zIns, zFil, zf0, zf1, zf2, zf3, List.filter_cons, List.filter_nil, Nat.reduceAdd, Nat.reduceEqDiff, Nat.reduceLT, Nat.reduceLeDiff, Nat.reduceBEq, Nat.reduceBNe, reduceIte, if_true, if_false, Bool.false_and, Bool.true_and, Bool.and_true, Bool.and_false, Bool.not_false, Bool.not_true, Bool.false_eq_true, beq_self_eq_true, BEq.rfl, zCat1, zCat2, zCat3, zKdI, zKdL, zKdR, true_and, and_true, zSI, zSL, zSR, zu_at, and_self, and_false, false_and, lv_args, zKdZ, zKdO, zB01, zB11, Option.toList_none, Option.toList_some, List.nil_append, List.cons_append, true_or, or_true, zRow_rd, zu_rd, zo_aload_n, zo_getfield, zo_ireturn, zKd_10_2, sh_87, zRt, zKn_0, zN10, zN01, not_true_eq_false, not_false_eq_true, false_implies, true_implies, implies_true, eq_self, nI_1, nI_40, nI_7, vz0, vz1, zb1_e0, zb1_n0]
  exact hQ
theorem z_argG (hsc : zSc w len xs) (hL : len ≤ 3072) (hi : 6 * i + 6 ≤ len) (hj : j < 6) (hd : zArgD pc j) (h0 : zLk lv 0 = some (.float 50)) (h4 : zLk lv 4 = some (.int (nI (6 * i)))) (kk : zX w (mL_law nm) R Q kc ks (pc + 6) lv (.int (xs (6 * i + j)) :: st) μ) : zX w (mL_law nm) R Q kc ks pc lv st μ := by
  obtain ⟨d1, d2, d3, d4, d5⟩ := hd
  refine z_aload_nT (M := mL_law nm) (i := 0) (x := 50) d1 h0 ?_
  refine z_iload (M := mL_law nm) (x := nI (6 * i)) d2 h4 ?_
  refine z_iconst (M := mL_law nm) d3 ?_
  refine z_iadd (M := mL_law nm) d4 ?_
  have e : nI (6 * i) + Int32.ofInt (j : Int) = nI (6 * i + j) := by rw [show Int32.ofInt (j : Int) = nI j from rfl, nI_add]
  rw [e]
  refine z_sld (M := mL_law nm) hsc (zvn (by omega) (by omega)) d5 ?_
  rw [nI_clamp (by omega)]
  exact kk
end ZN98zzc
