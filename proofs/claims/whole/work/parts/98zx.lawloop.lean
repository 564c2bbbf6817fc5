/-! ===== THE LAW'S LOOP ===== -/
/-- what its look must keep -/
def zLookOk (w : zP) (nm : String) (L : Nat) (xs : Nat → Int32) : Prop := ∀ (Q : Option Value → zMem → Prop) (kc ks i : Nat) (μ : zMem), 6 * i + 6 ≤ L → kc + 2 ≤ 1166 → ks + 16 ≤ 14508 → zInM μ → (∀ kc' ks' μ', kc' ≤ kc + 2 → ks' ≤ ks + 16 → zInM μ' → zX w (mL_law nm) room_1 Q kc' ks' 1357 (zLl i) [] μ') → zX w (mL_law nm) room_1 Q kc ks 348 (zLl i) [] μ
section ZN98zx
variable {w : zP} {Q : Option Value → zMem → Prop} {kc ks : Nat} {μ : zMem} {L i : Nat} {xs : Nat → Int32} {nm : String}
theorem nI_s6 (hL : L ≤ 3072) : (nI L - (Int8.ofInt 6).toInt32).toInt = (L : Int) - 6 := by
  rw [show (Int8.ofInt 6).toInt32 = nI 6 from rfl, Int32.toInt_sub, nI_toInt (by omega), nI_toInt (by omega), Int.bmod_eq_of_le (by omega) (by omega)]
  rfl
set_option maxRecDepth 20000 in
theorem lw_loop (hw : zOk w) (hsc : zSc w L xs) (hL : L ≤ 3072) (hlk : zLookOk w nm L xs) : ∀ m i kc ks μ, i + m = 512 → kc ≤ 140 + 2 * i → ks ≤ 6304 + 16 * i → zInM μ → zX w (mL_law nm) room_1 (fun v _ => v = some (.int 1)) kc ks 23 (zLl i) [] μ := by
  intro m
  induction m with
  | zero =>
    intro i kc ks μ hi hkc hks hμ
    refine z_iload (M := mL_law nm) (x := nI (6 * i)) (by decide +kernel : decode cL_law 23 = .ok (.iload 4, 2)) rfl ?_
    refine z_aload_nT (M := mL_law nm) (i := 0) (x := 50) (by decide +kernel : decode cL_law 25 = .ok (.aload_n 0, 1)) rfl ?_
    refine z_slen (M := mL_law nm) hsc (by omega) (by decide +kernel : decode cL_law 26 = .ok (.arraylength, 1)) ?_
    refine z_bipush (M := mL_law nm) (by decide +kernel : decode cL_law 27 = .ok (.bipush 6, 2)) ?_
    refine z_isub (M := mL_law nm) (by decide +kernel : decode cL_law 29 = .ok (.isub, 1)) ?_
    refine z_icmp_gt (M := mL_law nm) (tgt := 1363) (by decide +kernel : decode cL_law 30 = .ok (.if_icmp .gt 1333, 3)) (by decide) (fun _ => ?_) (fun hn => absurd ?_ hn)
    · refine z_iconst (M := mL_law nm) (by decide +kernel : decode cL_law 1363 = .ok (.iconst 1, 1)) ?_
      exact z_ret (M := mL_law nm) (v := some (.int 1)) (by decide +kernel : decode cL_law 1364 = .ok (.ireturn, 1)) ⟨.boolean, rfl, by decide⟩ (by show kc ≤ 1166; omega) (by show ks ≤ 14508; omega) rfl
    · rw [Int32.lt_iff_toInt_lt, nI_s6 hL, nI_toInt (by omega)]; omega
  | succ m ih =>
    intro i kc ks μ hi hkc hks hμ
    refine z_iload (M := mL_law nm) (x := nI (6 * i)) (by decide +kernel : decode cL_law 23 = .ok (.iload 4, 2)) rfl ?_
    refine z_aload_nT (M := mL_law nm) (i := 0) (x := 50) (by decide +kernel : decode cL_law 25 = .ok (.aload_n 0, 1)) rfl ?_
    refine z_slen (M := mL_law nm) hsc (by omega) (by decide +kernel : decode cL_law 26 = .ok (.arraylength, 1)) ?_
    refine z_bipush (M := mL_law nm) (by decide +kernel : decode cL_law 27 = .ok (.bipush 6, 2)) ?_
    refine z_isub (M := mL_law nm) (by decide +kernel : decode cL_law 29 = .ok (.isub, 1)) ?_
    refine z_icmp_gt (M := mL_law nm) (tgt := 1363) (by decide +kernel : decode cL_law 30 = .ok (.if_icmp .gt 1333, 3)) (by decide) (fun _ => ?_) (fun hn => ?_)
    · refine z_iconst (M := mL_law nm) (by decide +kernel : decode cL_law 1363 = .ok (.iconst 1, 1)) ?_
      exact z_ret (M := mL_law nm) (v := some (.int 1)) (by decide +kernel : decode cL_law 1364 = .ok (.ireturn, 1)) ⟨.boolean, rfl, by decide⟩ (by show kc ≤ 1166; omega) (by show ks ≤ 14508; omega) rfl
    rw [Int32.lt_iff_toInt_lt, nI_s6 hL, nI_toInt (by omega)] at hn
    have hi6 : 6 * i + 6 ≤ L := by omega
    have tail : ∀ kc' ks' μ', kc' ≤ kc + 2 → ks' ≤ ks + 16 → zInM μ' → zX w (mL_law nm) room_1 (fun v _ => v = some (.int 1)) kc' ks' 1357 (zLl i) [] μ' := by
      intro kc' ks' μ' h1 h2 h3
      refine z_iinc (M := mL_law nm) (i := 4) (x := nI (6 * i)) (by decide +kernel : decode cL_law 1357 = .ok (.iinc 4 6, 3)) rfl (Nat.le_of_ble_eq_true rfl) ?_
      refine z_goto (M := mL_law nm) (tgt := 23) (by decide +kernel : decode cL_law 1360 = .ok (.goto (-1337), 3)) (by decide) ?_
      have e : zSto false (zLl i) 4 (.int (nI (6 * i) + Int32.ofInt 6)) = zLl (i + 1) := by
        rw [show nI (6 * i) + Int32.ofInt 6 = nI (6 * (i + 1)) by rw [show Int32.ofInt 6 = nI 6 from rfl, nI_add, Nat.mul_add]]
        rfl
      rw [e]
      exact ih (i + 1) kc' ks' μ' (by omega) (by omega) (by omega) h3
    have hN : ∀ μ2, zInM μ2 → zX w (mL_law nm) room_1 (fun v _ => v = some (.int 1)) kc ks 1357 (zLl i) [] μ2 := fun μ2 h => tail kc ks μ2 (by omega) (by omega) h
    have hkc' : kc ≤ 1166 := by omega
    have hks' : ks ≤ 14508 := by omega
    clear ih
    refine z_aload_nT (M := mL_law nm) (i := 0) (x := 50) (by decide +kernel : decode cL_law 33 = .ok (.aload_n 0, 1)) rfl ?_
    refine z_iload (M := mL_law nm) (x := nI (6 * i)) (by decide +kernel : decode cL_law 34 = .ok (.iload 4, 2)) rfl ?_
    refine z_sld (M := mL_law nm) hsc (zvn (by omega) (by omega)) (by decide +kernel : decode cL_law 36 = .ok (.iaload, 1)) ?_
    refine z_bipush (M := mL_law nm) (by decide +kernel : decode cL_law 37 = .ok (.bipush 63, 2)) ?_
    refine z_iand (M := mL_law nm) (by decide +kernel : decode cL_law 39 = .ok (.iand, 1)) ?_
    generalize xs (nI (6 * i)).toNatClampNeg &&& (Int8.ofInt 63).toInt32 = x
    refine z_tsw (M := mL_law nm) (dt := 1357) [(0, 188), (1, 261), (2, 286), (3, 311), (4, 348), (5, 416), (6, 453), (7, 478), (8, 516), (9, 553), (10, 590), (11, 659), (12, 684), (13, 709), (14, 734), (15, 783), (16, 820), (17, 857), (18, 894), (19, 919), (20, 944), (21, 997), (22, 1022), (23, 1047), (24, 1072), (25, 1085), (26, 1134), (27, 1195), (28, 1244), (29, 1293), (30, 1306), (31, 1319), (32, 1332)] (by decide +kernel : decode cL_law 40 = .ok (.tableswitch 1317 0 32 #[148, 221, 246, 271, 308, 376, 413, 438, 476, 513, 550, 619, 644, 669, 694, 743, 780, 817, 854, 879, 904, 957, 982, 1007, 1032, 1045, 1094, 1155, 1204, 1253, 1266, 1279, 1292], 148)) (by decide) (by decide) (by decide) ?_
    simp only [zSw_cons, zSw_nil]
    exact ⟨fun _ => lc_0 hw hsc hL hi6 hkc' hks' hμ hN, fun _ => ⟨fun _ => lc_1 hw hsc hL hi6 hkc' hks' hμ hN, fun _ => ⟨fun _ => lc_2 hw hsc hL hi6 hkc' hks' hμ hN, fun _ => ⟨fun _ => lc_3 hw hsc hL hi6 hkc' hks' hμ hN, fun _ => ⟨fun _ => hlk _ kc ks i μ hi6 (by omega) (by omega) hμ tail, fun _ => ⟨fun _ => lc_5 hw hsc hL hi6 hkc' hks' hμ hN, fun _ => ⟨fun _ => lc_6 hw hsc hL hi6 hkc' hks' hμ hN, fun _ => ⟨fun _ => lc_7 hw hsc hL hi6 hkc' hks' hμ hN, fun _ => ⟨fun _ => lc_8 hw hsc hL hi6 hkc' hks' hμ hN, fun _ => ⟨fun _ => lc_9 hw hsc hL hi6 hkc' hks' hμ hN, fun _ => ⟨fun _ => lc_10 hw hsc hL hi6 hkc' hks' hμ hN, fun _ => ⟨fun _ => lc_11 hw hsc hL hi6 hkc' hks' hμ hN, fun _ => ⟨fun _ => lc_12 hw hsc hL hi6 hkc' hks' hμ hN, fun _ => ⟨fun _ => lc_13 hw hsc hL hi6 hkc' hks' hμ hN, fun _ => ⟨fun _ => lc_14 hw hsc hL hi6 hkc' hks' hμ hN, fun _ => ⟨fun _ => lc_15 hw hsc hL hi6 hkc' hks' hμ hN, fun _ => ⟨fun _ => lc_16 hw hsc hL hi6 hkc' hks' hμ hN, fun _ => ⟨fun _ => lc_17 hw hsc hL hi6 hkc' hks' hμ hN, fun _ => ⟨fun _ => lc_18 hw hsc hL hi6 hkc' hks' hμ hN, fun _ => ⟨fun _ => lc_19 hw hsc hL hi6 hkc' hks' hμ hN, fun _ => ⟨fun _ => lc_20 hw hsc hL hi6 hkc' hks' hμ hN, fun _ => ⟨fun _ => lc_21 hw hsc hL hi6 hkc' hks' hμ hN, fun _ => ⟨fun _ => lc_22 hw hsc hL hi6 hkc' hks' hμ hN, fun _ => ⟨fun _ => lc_23 hw hsc hL hi6 hkc' hks' hμ hN, fun _ => ⟨fun _ => lc_24 hw hsc hL hi6 hkc' hks' hμ hN, fun _ => ⟨fun _ => lc_25 hw hsc hL hi6 hkc' hks' hμ hN, fun _ => ⟨fun _ => lc_26 hw hsc hL hi6 hkc' hks' hμ hN, fun _ => ⟨fun _ => lc_27 hw hsc hL hi6 hkc' hks' hμ hN, fun _ => ⟨fun _ => lc_28 hw hsc hL hi6 hkc' hks' hμ hN, fun _ => ⟨fun _ => lc_29 hw hsc hL hi6 hkc' hks' hμ hN, fun _ => ⟨fun _ => lc_30 hw hsc hL hi6 hkc' hks' hμ hN, fun _ => ⟨fun _ => lc_31 hw hsc hL hi6 hkc' hks' hμ hN, fun _ => ⟨fun _ => lc_32 hw hsc hL hi6 hkc' hks' hμ hN, fun _ => hN _ hμ⟩⟩⟩⟩⟩⟩⟩⟩⟩⟩⟩⟩⟩⟩⟩⟩⟩⟩⟩⟩⟩⟩⟩⟩⟩⟩⟩⟩⟩⟩⟩⟩⟩
end ZN98zx
