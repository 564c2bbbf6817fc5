/-! ===== THE LAW'S LOOP: its plain cases (written by mklaw.py) ===== -/
section ZN98zw
variable {w : zP} {Q : Option Value → zMem → Prop} {kc ks : Nat} {μ : zMem} {L i : Nat} {xs : Nat → Int32} {nm : String}
set_option maxRecDepth 20000 in
theorem lc_0 (hw : zOk w) (hsc : zSc w L xs) (hL : L ≤ 3072) (hi : 6 * i + 6 ≤ L) (hkc : kc ≤ 1166) (hks : ks ≤ 14508) (hμ : zInM μ) (hN : ∀ μ2, zInM μ2 → zX w (mL_law nm) room_1 Q kc ks 1357 (zLl i) [] μ2) : zX w (mL_law nm) room_1 Q kc ks 188 (zLl i) [] μ := by
  obtain ⟨I, K, p, s, r, rfl, hs, hps, P, V, d, t, kc', rt, u, bb, T, hm, X, f1, f2, h⟩ := hμ
  refine z_aload_n (M := mL_law nm) (i := 1) (x := 0) (by decide +kernel : decode cL_law 188 = .ok (.aload_n 1, 1)) rfl ?_
  refine z_arg (j := 1) hsc hL hi (by omega) (by decide +kernel) ?_
  refine z_arg (j := 2) hsc hL hi (by omega) (by decide +kernel) ?_
  refine z_arg (j := 3) hsc hL hi (by omega) (by decide +kernel) ?_
  refine z_arg (j := 4) hsc hL hi (by omega) (by decide +kernel) ?_
  refine z_arg (j := 5) hsc hL hi (by omega) (by decide +kernel) ?_
  refine z_cV0 (M := mL_law nm) (M' := mX9_feed) (R' := rX9_feed) (i := 0) [.int (xs (6 * i + 1)), .int (xs (6 * i + 2)), .int (xs (6 * i + 3)), .int (xs (6 * i + 4)), .int (xs (6 * i + 5))] [] eX9_feed k11_21 (by decide +kernel : decode cL_law 219 = .ok (.invokevirtual 21, 3)) (Nat.le_of_ble_eq_true rfl) ⟨Nat.le_of_ble_eq_true rfl, Nat.le_of_ble_eq_true rfl, hkc, hks, Nat.le_of_ble_eq_true rfl⟩ rfl rfl rfl sh_0 ?_
  refine zXM_ret ?_
  refine pr_feed hs hps h (fun a J1 K1 R1 hre hok => ?_)
  obtain ⟨v, rfl⟩ := zRet_i (by decide) hok
  refine z_aload_n (M := mL_law nm) (i := 2) (x := 87) (by decide +kernel : decode cL_law 222 = .ok (.aload_n 2, 1)) rfl ?_
  refine z_arg (j := 1) hsc hL hi (by omega) (by decide +kernel) ?_
  refine z_arg (j := 2) hsc hL hi (by omega) (by decide +kernel) ?_
  refine z_arg (j := 3) hsc hL hi (by omega) (by decide +kernel) ?_
  refine z_arg (j := 4) hsc hL hi (by omega) (by decide +kernel) ?_
  refine z_arg (j := 5) hsc hL hi (by omega) (by decide +kernel) ?_
  refine z_cV0 (M := mL_law nm) (M' := mX10_feed) (R' := rX10_feed) (i := 87) [.int (xs (6 * i + 1)), .int (xs (6 * i + 2)), .int (xs (6 * i + 3)), .int (xs (6 * i + 4)), .int (xs (6 * i + 5))] [.int v] eX10_feed k11_25 (by decide +kernel : decode cL_law 253 = .ok (.invokevirtual 25, 3)) (Nat.le_of_ble_eq_true rfl) ⟨Nat.le_of_ble_eq_true rfl, Nat.le_of_ble_eq_true rfl, hkc, hks, Nat.le_of_ble_eq_true rfl⟩ rfl rfl rfl sh_87 ?_
  refine hre _ (fun μ2 hμ2 => ?_)
  exact z_icmp_eq (M := mL_law nm) (tgt := 1357) (by decide +kernel : decode cL_law 256 = .ok (.if_icmp .eq 1101, 3)) (by decide) (fun _ => hN _ hμ2) (fun hn => absurd rfl hn)
set_option maxRecDepth 20000 in
theorem lc_1 (hw : zOk w) (hsc : zSc w L xs) (hL : L ≤ 3072) (hi : 6 * i + 6 ≤ L) (hkc : kc ≤ 1166) (hks : ks ≤ 14508) (hμ : zInM μ) (hN : ∀ μ2, zInM μ2 → zX w (mL_law nm) room_1 Q kc ks 1357 (zLl i) [] μ2) : zX w (mL_law nm) room_1 Q kc ks 261 (zLl i) [] μ := by
  obtain ⟨I, K, p, s, r, rfl, hs, hps, P, V, d, t, kc', rt, u, bb, T, hm, X, f1, f2, h⟩ := hμ
  refine z_aload_n (M := mL_law nm) (i := 1) (x := 0) (by decide +kernel : decode cL_law 261 = .ok (.aload_n 1, 1)) rfl ?_
  refine z_arg (j := 1) hsc hL hi (by omega) (by decide +kernel) ?_
  refine z_cV0 (M := mL_law nm) (M' := mX9_text) (R' := rX9_text) (i := 0) [.int (xs (6 * i + 1))] [] eX9_text k11_26 (by decide +kernel : decode cL_law 268 = .ok (.invokevirtual 26, 3)) (Nat.le_of_ble_eq_true rfl) ⟨Nat.le_of_ble_eq_true rfl, Nat.le_of_ble_eq_true rfl, hkc, hks, Nat.le_of_ble_eq_true rfl⟩ rfl rfl rfl sh_0 ?_
  refine zXM_ret ?_
  refine pr_text hw hs hps h (fun a J1 K1 R1 hre hok => ?_)
  obtain ⟨v, rfl⟩ := zRet_i (by decide) hok
  refine z_aload_n (M := mL_law nm) (i := 2) (x := 87) (by decide +kernel : decode cL_law 271 = .ok (.aload_n 2, 1)) rfl ?_
  refine z_arg (j := 1) hsc hL hi (by omega) (by decide +kernel) ?_
  refine z_cV0 (M := mL_law nm) (M' := mX10_text) (R' := rX10_text) (i := 87) [.int (xs (6 * i + 1))] [.int v] eX10_text k11_30 (by decide +kernel : decode cL_law 278 = .ok (.invokevirtual 30, 3)) (Nat.le_of_ble_eq_true rfl) ⟨Nat.le_of_ble_eq_true rfl, Nat.le_of_ble_eq_true rfl, hkc, hks, Nat.le_of_ble_eq_true rfl⟩ rfl rfl rfl sh_87 ?_
  refine hre _ (fun μ2 hμ2 => ?_)
  exact z_icmp_eq (M := mL_law nm) (tgt := 1357) (by decide +kernel : decode cL_law 281 = .ok (.if_icmp .eq 1076, 3)) (by decide) (fun _ => hN _ hμ2) (fun hn => absurd rfl hn)
set_option maxRecDepth 20000 in
theorem lc_2 (hw : zOk w) (hsc : zSc w L xs) (hL : L ≤ 3072) (hi : 6 * i + 6 ≤ L) (hkc : kc ≤ 1166) (hks : ks ≤ 14508) (hμ : zInM μ) (hN : ∀ μ2, zInM μ2 → zX w (mL_law nm) room_1 Q kc ks 1357 (zLl i) [] μ2) : zX w (mL_law nm) room_1 Q kc ks 286 (zLl i) [] μ := by
  obtain ⟨I, K, p, s, r, rfl, hs, hps, P, V, d, t, kc', rt, u, bb, T, hm, X, f1, f2, h⟩ := hμ
  refine z_aload_n (M := mL_law nm) (i := 1) (x := 0) (by decide +kernel : decode cL_law 286 = .ok (.aload_n 1, 1)) rfl ?_
  refine z_arg (j := 1) hsc hL hi (by omega) (by decide +kernel) ?_
  refine z_cV0 (M := mL_law nm) (M' := mX9_fault) (R' := rX9_fault) (i := 0) [.int (xs (6 * i + 1))] [] eX9_fault k11_31 (by decide +kernel : decode cL_law 293 = .ok (.invokevirtual 31, 3)) (Nat.le_of_ble_eq_true rfl) ⟨Nat.le_of_ble_eq_true rfl, Nat.le_of_ble_eq_true rfl, hkc, hks, Nat.le_of_ble_eq_true rfl⟩ rfl rfl rfl sh_0 ?_
  refine zXM_ret ?_
  refine pr_fault hs hps h (fun a J1 K1 R1 hre hok => ?_)
  obtain ⟨v, rfl⟩ := zRet_i (by decide) hok
  refine z_aload_n (M := mL_law nm) (i := 2) (x := 87) (by decide +kernel : decode cL_law 296 = .ok (.aload_n 2, 1)) rfl ?_
  refine z_arg (j := 1) hsc hL hi (by omega) (by decide +kernel) ?_
  refine z_cV0 (M := mL_law nm) (M' := mX10_fault) (R' := rX10_fault) (i := 87) [.int (xs (6 * i + 1))] [.int v] eX10_fault k11_34 (by decide +kernel : decode cL_law 303 = .ok (.invokevirtual 34, 3)) (Nat.le_of_ble_eq_true rfl) ⟨Nat.le_of_ble_eq_true rfl, Nat.le_of_ble_eq_true rfl, hkc, hks, Nat.le_of_ble_eq_true rfl⟩ rfl rfl rfl sh_87 ?_
  refine hre _ (fun μ2 hμ2 => ?_)
  exact z_icmp_eq (M := mL_law nm) (tgt := 1357) (by decide +kernel : decode cL_law 306 = .ok (.if_icmp .eq 1051, 3)) (by decide) (fun _ => hN _ hμ2) (fun hn => absurd rfl hn)
set_option maxRecDepth 20000 in
theorem lc_3 (hw : zOk w) (hsc : zSc w L xs) (hL : L ≤ 3072) (hi : 6 * i + 6 ≤ L) (hkc : kc ≤ 1166) (hks : ks ≤ 14508) (hμ : zInM μ) (hN : ∀ μ2, zInM μ2 → zX w (mL_law nm) room_1 Q kc ks 1357 (zLl i) [] μ2) : zX w (mL_law nm) room_1 Q kc ks 311 (zLl i) [] μ := by
  obtain ⟨I, K, p, s, r, rfl, hs, hps, P, V, d, t, kc', rt, u, bb, T, hm, X, f1, f2, h⟩ := hμ
  refine z_aload_n (M := mL_law nm) (i := 1) (x := 0) (by decide +kernel : decode cL_law 311 = .ok (.aload_n 1, 1)) rfl ?_
  refine z_arg (j := 1) hsc hL hi (by omega) (by decide +kernel) ?_
  refine z_arg (j := 2) hsc hL hi (by omega) (by decide +kernel) ?_
  refine z_cV0 (M := mL_law nm) (M' := mX9_named) (R' := rX9_named) (i := 0) [.int (xs (6 * i + 1)), .int (xs (6 * i + 2))] [] eX9_named k11_35 (by decide +kernel : decode cL_law 324 = .ok (.invokevirtual 35, 3)) (Nat.le_of_ble_eq_true rfl) ⟨Nat.le_of_ble_eq_true rfl, Nat.le_of_ble_eq_true rfl, hkc, hks, Nat.le_of_ble_eq_true rfl⟩ rfl rfl rfl sh_0 ?_
  refine zXM_ret ?_
  refine pr_named hs hps h (fun a J1 K1 R1 hre hok => ?_)
  obtain ⟨v, rfl⟩ := zRet_i (by decide) hok
  refine z_aload_n (M := mL_law nm) (i := 2) (x := 87) (by decide +kernel : decode cL_law 327 = .ok (.aload_n 2, 1)) rfl ?_
  refine z_arg (j := 1) hsc hL hi (by omega) (by decide +kernel) ?_
  refine z_arg (j := 2) hsc hL hi (by omega) (by decide +kernel) ?_
  refine z_cV0 (M := mL_law nm) (M' := mX10_named) (R' := rX10_named) (i := 87) [.int (xs (6 * i + 1)), .int (xs (6 * i + 2))] [.int v] eX10_named k11_38 (by decide +kernel : decode cL_law 340 = .ok (.invokevirtual 38, 3)) (Nat.le_of_ble_eq_true rfl) ⟨Nat.le_of_ble_eq_true rfl, Nat.le_of_ble_eq_true rfl, hkc, hks, Nat.le_of_ble_eq_true rfl⟩ rfl rfl rfl sh_87 ?_
  refine hre _ (fun μ2 hμ2 => ?_)
  exact z_icmp_eq (M := mL_law nm) (tgt := 1357) (by decide +kernel : decode cL_law 343 = .ok (.if_icmp .eq 1014, 3)) (by decide) (fun _ => hN _ hμ2) (fun hn => absurd rfl hn)
set_option maxRecDepth 20000 in
theorem lc_5 (hw : zOk w) (hsc : zSc w L xs) (hL : L ≤ 3072) (hi : 6 * i + 6 ≤ L) (hkc : kc ≤ 1166) (hks : ks ≤ 14508) (hμ : zInM μ) (hN : ∀ μ2, zInM μ2 → zX w (mL_law nm) room_1 Q kc ks 1357 (zLl i) [] μ2) : zX w (mL_law nm) room_1 Q kc ks 416 (zLl i) [] μ := by
  obtain ⟨I, K, p, s, r, rfl, hs, hps, P, V, d, t, kc', rt, u, bb, T, hm, X, f1, f2, h⟩ := hμ
  refine z_aload_n (M := mL_law nm) (i := 1) (x := 0) (by decide +kernel : decode cL_law 416 = .ok (.aload_n 1, 1)) rfl ?_
  refine z_arg (j := 1) hsc hL hi (by omega) (by decide +kernel) ?_
  refine z_arg (j := 2) hsc hL hi (by omega) (by decide +kernel) ?_
  refine z_cV0 (M := mL_law nm) (M' := mX9_place) (R' := rX9_place) (i := 0) [.int (xs (6 * i + 1)), .int (xs (6 * i + 2))] [] eX9_place k11_49 (by decide +kernel : decode cL_law 429 = .ok (.invokevirtual 49, 3)) (Nat.le_of_ble_eq_true rfl) ⟨Nat.le_of_ble_eq_true rfl, Nat.le_of_ble_eq_true rfl, hkc, hks, Nat.le_of_ble_eq_true rfl⟩ rfl rfl rfl sh_0 ?_
  refine zXM_ret ?_
  refine pr_place hs hps h (fun a J1 K1 R1 hre hok => ?_)
  obtain ⟨v, rfl⟩ := zRet_i (by decide) hok
  refine z_aload_n (M := mL_law nm) (i := 2) (x := 87) (by decide +kernel : decode cL_law 432 = .ok (.aload_n 2, 1)) rfl ?_
  refine z_arg (j := 1) hsc hL hi (by omega) (by decide +kernel) ?_
  refine z_arg (j := 2) hsc hL hi (by omega) (by decide +kernel) ?_
  refine z_cV0 (M := mL_law nm) (M' := mX10_place) (R' := rX10_place) (i := 87) [.int (xs (6 * i + 1)), .int (xs (6 * i + 2))] [.int v] eX10_place k11_52 (by decide +kernel : decode cL_law 445 = .ok (.invokevirtual 52, 3)) (Nat.le_of_ble_eq_true rfl) ⟨Nat.le_of_ble_eq_true rfl, Nat.le_of_ble_eq_true rfl, hkc, hks, Nat.le_of_ble_eq_true rfl⟩ rfl rfl rfl sh_87 ?_
  refine hre _ (fun μ2 hμ2 => ?_)
  exact z_icmp_eq (M := mL_law nm) (tgt := 1357) (by decide +kernel : decode cL_law 448 = .ok (.if_icmp .eq 909, 3)) (by decide) (fun _ => hN _ hμ2) (fun hn => absurd rfl hn)
set_option maxRecDepth 20000 in
theorem lc_6 (hw : zOk w) (hsc : zSc w L xs) (hL : L ≤ 3072) (hi : 6 * i + 6 ≤ L) (hkc : kc ≤ 1166) (hks : ks ≤ 14508) (hμ : zInM μ) (hN : ∀ μ2, zInM μ2 → zX w (mL_law nm) room_1 Q kc ks 1357 (zLl i) [] μ2) : zX w (mL_law nm) room_1 Q kc ks 453 (zLl i) [] μ := by
  obtain ⟨I, K, p, s, r, rfl, hs, hps, P, V, d, t, kc', rt, u, bb, T, hm, X, f1, f2, h⟩ := hμ
  refine z_aload_n (M := mL_law nm) (i := 1) (x := 0) (by decide +kernel : decode cL_law 453 = .ok (.aload_n 1, 1)) rfl ?_
  refine z_arg (j := 1) hsc hL hi (by omega) (by decide +kernel) ?_
  refine z_cV0 (M := mL_law nm) (M' := mX9_sky) (R' := rX9_sky) (i := 0) [.int (xs (6 * i + 1))] [] eX9_sky k11_53 (by decide +kernel : decode cL_law 460 = .ok (.invokevirtual 53, 3)) (Nat.le_of_ble_eq_true rfl) ⟨Nat.le_of_ble_eq_true rfl, Nat.le_of_ble_eq_true rfl, hkc, hks, Nat.le_of_ble_eq_true rfl⟩ rfl rfl rfl sh_0 ?_
  refine zXM_ret ?_
  refine pr_sky hs hps h (fun a J1 K1 R1 hre hok => ?_)
  obtain ⟨v, rfl⟩ := zRet_i (by decide) hok
  refine z_aload_n (M := mL_law nm) (i := 2) (x := 87) (by decide +kernel : decode cL_law 463 = .ok (.aload_n 2, 1)) rfl ?_
  refine z_arg (j := 1) hsc hL hi (by omega) (by decide +kernel) ?_
  refine z_cV0 (M := mL_law nm) (M' := mX10_sky) (R' := rX10_sky) (i := 87) [.int (xs (6 * i + 1))] [.int v] eX10_sky k11_56 (by decide +kernel : decode cL_law 470 = .ok (.invokevirtual 56, 3)) (Nat.le_of_ble_eq_true rfl) ⟨Nat.le_of_ble_eq_true rfl, Nat.le_of_ble_eq_true rfl, hkc, hks, Nat.le_of_ble_eq_true rfl⟩ rfl rfl rfl sh_87 ?_
  refine hre _ (fun μ2 hμ2 => ?_)
  exact z_icmp_eq (M := mL_law nm) (tgt := 1357) (by decide +kernel : decode cL_law 473 = .ok (.if_icmp .eq 884, 3)) (by decide) (fun _ => hN _ hμ2) (fun hn => absurd rfl hn)
set_option maxRecDepth 20000 in
theorem lc_7 (hw : zOk w) (hsc : zSc w L xs) (hL : L ≤ 3072) (hi : 6 * i + 6 ≤ L) (hkc : kc ≤ 1166) (hks : ks ≤ 14508) (hμ : zInM μ) (hN : ∀ μ2, zInM μ2 → zX w (mL_law nm) room_1 Q kc ks 1357 (zLl i) [] μ2) : zX w (mL_law nm) room_1 Q kc ks 478 (zLl i) [] μ := by
  obtain ⟨I, K, p, s, r, rfl, hs, hps, P, V, d, t, kc', rt, u, bb, T, hm, X, f1, f2, h⟩ := hμ
  refine z_aload_n (M := mL_law nm) (i := 1) (x := 0) (by decide +kernel : decode cL_law 478 = .ok (.aload_n 1, 1)) rfl ?_
  refine z_arg (j := 1) hsc hL hi (by omega) (by decide +kernel) ?_
  refine z_arg (j := 2) hsc hL hi (by omega) (by decide +kernel) ?_
  refine z_cV0 (M := mL_law nm) (M' := mX9_law) (R' := rX9_law) (i := 0) [.int (xs (6 * i + 1)), .int (xs (6 * i + 2))] [] eX9_law k11_57 (by decide +kernel : decode cL_law 491 = .ok (.invokevirtual 57, 3)) (Nat.le_of_ble_eq_true rfl) ⟨Nat.le_of_ble_eq_true rfl, Nat.le_of_ble_eq_true rfl, hkc, hks, Nat.le_of_ble_eq_true rfl⟩ rfl rfl rfl sh_0 ?_
  refine zXM_ret ?_
  refine pr_law hw hs hps h (fun v J1 K1 R1 hre hok => ?_)
  refine z_aload_n (M := mL_law nm) (i := 2) (x := 87) (by decide +kernel : decode cL_law 494 = .ok (.aload_n 2, 1)) rfl ?_
  refine z_arg (j := 1) hsc hL hi (by omega) (by decide +kernel) ?_
  refine z_arg (j := 2) hsc hL hi (by omega) (by decide +kernel) ?_
  refine z_cV0 (M := mL_law nm) (M' := mX10_law) (R' := rX10_law) (i := 87) [.int (xs (6 * i + 1)), .int (xs (6 * i + 2))] [.long v] eX10_law k11_61 (by decide +kernel : decode cL_law 507 = .ok (.invokevirtual 61, 3)) (Nat.le_of_ble_eq_true rfl) ⟨Nat.le_of_ble_eq_true rfl, Nat.le_of_ble_eq_true rfl, hkc, hks, Nat.le_of_ble_eq_true rfl⟩ rfl rfl rfl sh_87 ?_
  refine hre _ (fun μ2 hμ2 => ?_)
  refine z_lcmp (M := mL_law nm) (by decide +kernel : decode cL_law 510 = .ok (.lcmp, 1)) ?_
  exact z_if_eq (M := mL_law nm) (tgt := 1357) (by decide +kernel : decode cL_law 511 = .ok (.ifCond .eq 846, 3)) (by decide) (fun _ => hN _ hμ2) (fun hn => absurd (by rw [lc_eq]) hn)
set_option maxRecDepth 20000 in
theorem lc_8 (hw : zOk w) (hsc : zSc w L xs) (hL : L ≤ 3072) (hi : 6 * i + 6 ≤ L) (hkc : kc ≤ 1166) (hks : ks ≤ 14508) (hμ : zInM μ) (hN : ∀ μ2, zInM μ2 → zX w (mL_law nm) room_1 Q kc ks 1357 (zLl i) [] μ2) : zX w (mL_law nm) room_1 Q kc ks 516 (zLl i) [] μ := by
  obtain ⟨I, K, p, s, r, rfl, hs, hps, P, V, d, t, kc', rt, u, bb, T, hm, X, f1, f2, h⟩ := hμ
  refine z_aload_n (M := mL_law nm) (i := 1) (x := 0) (by decide +kernel : decode cL_law 516 = .ok (.aload_n 1, 1)) rfl ?_
  refine z_arg (j := 1) hsc hL hi (by omega) (by decide +kernel) ?_
  refine z_arg (j := 2) hsc hL hi (by omega) (by decide +kernel) ?_
  refine z_cV0 (M := mL_law nm) (M' := mX9_put) (R' := rX9_put) (i := 0) [.int (xs (6 * i + 1)), .int (xs (6 * i + 2))] [] eX9_put k11_62 (by decide +kernel : decode cL_law 529 = .ok (.invokevirtual 62, 3)) (Nat.le_of_ble_eq_true rfl) ⟨Nat.le_of_ble_eq_true rfl, Nat.le_of_ble_eq_true rfl, hkc, hks, Nat.le_of_ble_eq_true rfl⟩ rfl rfl rfl sh_0 ?_
  refine zXM_ret ?_
  refine pr_put hs hps h (fun a J1 K1 R1 hre hok => ?_)
  obtain ⟨v, rfl⟩ := zRet_i (by decide) hok
  refine z_aload_n (M := mL_law nm) (i := 2) (x := 87) (by decide +kernel : decode cL_law 532 = .ok (.aload_n 2, 1)) rfl ?_
  refine z_arg (j := 1) hsc hL hi (by omega) (by decide +kernel) ?_
  refine z_arg (j := 2) hsc hL hi (by omega) (by decide +kernel) ?_
  refine z_cV0 (M := mL_law nm) (M' := mX10_put) (R' := rX10_put) (i := 87) [.int (xs (6 * i + 1)), .int (xs (6 * i + 2))] [.int v] eX10_put k11_65 (by decide +kernel : decode cL_law 545 = .ok (.invokevirtual 65, 3)) (Nat.le_of_ble_eq_true rfl) ⟨Nat.le_of_ble_eq_true rfl, Nat.le_of_ble_eq_true rfl, hkc, hks, Nat.le_of_ble_eq_true rfl⟩ rfl rfl rfl sh_87 ?_
  refine hre _ (fun μ2 hμ2 => ?_)
  exact z_icmp_eq (M := mL_law nm) (tgt := 1357) (by decide +kernel : decode cL_law 548 = .ok (.if_icmp .eq 809, 3)) (by decide) (fun _ => hN _ hμ2) (fun hn => absurd rfl hn)
set_option maxRecDepth 20000 in
theorem lc_9 (hw : zOk w) (hsc : zSc w L xs) (hL : L ≤ 3072) (hi : 6 * i + 6 ≤ L) (hkc : kc ≤ 1166) (hks : ks ≤ 14508) (hμ : zInM μ) (hN : ∀ μ2, zInM μ2 → zX w (mL_law nm) room_1 Q kc ks 1357 (zLl i) [] μ2) : zX w (mL_law nm) room_1 Q kc ks 553 (zLl i) [] μ := by
  obtain ⟨I, K, p, s, r, rfl, hs, hps, P, V, d, t, kc', rt, u, bb, T, hm, X, f1, f2, h⟩ := hμ
  refine z_aload_n (M := mL_law nm) (i := 1) (x := 0) (by decide +kernel : decode cL_law 553 = .ok (.aload_n 1, 1)) rfl ?_
  refine z_arg (j := 1) hsc hL hi (by omega) (by decide +kernel) ?_
  refine z_arg (j := 2) hsc hL hi (by omega) (by decide +kernel) ?_
  refine z_cV0 (M := mL_law nm) (M' := mX9_bring) (R' := rX9_bring) (i := 0) [.int (xs (6 * i + 1)), .int (xs (6 * i + 2))] [] eX9_bring k11_66 (by decide +kernel : decode cL_law 566 = .ok (.invokevirtual 66, 3)) (Nat.le_of_ble_eq_true rfl) ⟨Nat.le_of_ble_eq_true rfl, Nat.le_of_ble_eq_true rfl, hkc, hks, Nat.le_of_ble_eq_true rfl⟩ rfl rfl rfl sh_0 ?_
  refine zXM_ret ?_
  refine pr_bring hs hps h (fun a J1 K1 R1 hre hok => ?_)
  obtain ⟨v, rfl⟩ := zRet_i (by decide) hok
  refine z_aload_n (M := mL_law nm) (i := 2) (x := 87) (by decide +kernel : decode cL_law 569 = .ok (.aload_n 2, 1)) rfl ?_
  refine z_arg (j := 1) hsc hL hi (by omega) (by decide +kernel) ?_
  refine z_arg (j := 2) hsc hL hi (by omega) (by decide +kernel) ?_
  refine z_cV0 (M := mL_law nm) (M' := mX10_bring) (R' := rX10_bring) (i := 87) [.int (xs (6 * i + 1)), .int (xs (6 * i + 2))] [.int v] eX10_bring k11_69 (by decide +kernel : decode cL_law 582 = .ok (.invokevirtual 69, 3)) (Nat.le_of_ble_eq_true rfl) ⟨Nat.le_of_ble_eq_true rfl, Nat.le_of_ble_eq_true rfl, hkc, hks, Nat.le_of_ble_eq_true rfl⟩ rfl rfl rfl sh_87 ?_
  refine hre _ (fun μ2 hμ2 => ?_)
  exact z_icmp_eq (M := mL_law nm) (tgt := 1357) (by decide +kernel : decode cL_law 585 = .ok (.if_icmp .eq 772, 3)) (by decide) (fun _ => hN _ hμ2) (fun hn => absurd rfl hn)
set_option maxRecDepth 20000 in
theorem lc_10 (hw : zOk w) (hsc : zSc w L xs) (hL : L ≤ 3072) (hi : 6 * i + 6 ≤ L) (hkc : kc ≤ 1166) (hks : ks ≤ 14508) (hμ : zInM μ) (hN : ∀ μ2, zInM μ2 → zX w (mL_law nm) room_1 Q kc ks 1357 (zLl i) [] μ2) : zX w (mL_law nm) room_1 Q kc ks 590 (zLl i) [] μ := by
  obtain ⟨I, K, p, s, r, rfl, hs, hps, P, V, d, t, kc', rt, u, bb, T, hm, X, f1, f2, h⟩ := hμ
  refine z_aload_n (M := mL_law nm) (i := 1) (x := 0) (by decide +kernel : decode cL_law 590 = .ok (.aload_n 1, 1)) rfl ?_
  refine z_arg (j := 1) hsc hL hi (by omega) (by decide +kernel) ?_
  refine z_arg (j := 2) hsc hL hi (by omega) (by decide +kernel) ?_
  refine z_i2l (M := mL_law nm) (by decide +kernel : decode cL_law 603 = .ok (.i2l, 1)) ?_
  refine z_bipush (M := mL_law nm) (by decide +kernel : decode cL_law 604 = .ok (.bipush 32, 2)) ?_
  refine z_lshl (M := mL_law nm) (by decide +kernel : decode cL_law 606 = .ok (.lshl, 1)) ?_
  refine z_arg (j := 3) hsc hL hi (by omega) (by decide +kernel) ?_
  refine z_i2l (M := mL_law nm) (by decide +kernel : decode cL_law 613 = .ok (.i2l, 1)) ?_
  refine z_ldc2 (M := mL_law nm) (v := Int64.ofInt 4294967295) (by decide +kernel : decode cL_law 614 = .ok (.ldc2_w 70, 3)) (zTL_ok (o := 11) (idx := 70) (z := 4294967295) (by decide)) ?_
  refine z_land (M := mL_law nm) (by decide +kernel : decode cL_law 617 = .ok (.land, 1)) ?_
  refine z_lor (M := mL_law nm) (by decide +kernel : decode cL_law 618 = .ok (.lor, 1)) ?_
  refine z_cV0 (M := mL_law nm) (M' := mX9_route) (R' := rX9_route) (i := 0) [.int (xs (6 * i + 1)), .long (((Int32.toInt64 (xs (6 * i + 2))) <<< ((((Int8.ofInt 32).toInt32)).toInt64 &&& 63)) ||| ((Int32.toInt64 (xs (6 * i + 3))) &&& (Int64.ofInt 4294967295)))] [] eX9_route k11_72 (by decide +kernel : decode cL_law 619 = .ok (.invokevirtual 72, 3)) (Nat.le_of_ble_eq_true rfl) ⟨Nat.le_of_ble_eq_true rfl, Nat.le_of_ble_eq_true rfl, hkc, hks, Nat.le_of_ble_eq_true rfl⟩ rfl rfl rfl sh_0 ?_
  refine zXM_ret ?_
  refine pr_route hs hps h (fun a J1 K1 R1 hre hok => ?_)
  obtain ⟨v, rfl⟩ := zRet_i (by decide) hok
  refine z_aload_n (M := mL_law nm) (i := 2) (x := 87) (by decide +kernel : decode cL_law 622 = .ok (.aload_n 2, 1)) rfl ?_
  refine z_arg (j := 1) hsc hL hi (by omega) (by decide +kernel) ?_
  refine z_arg (j := 2) hsc hL hi (by omega) (by decide +kernel) ?_
  refine z_i2l (M := mL_law nm) (by decide +kernel : decode cL_law 635 = .ok (.i2l, 1)) ?_
  refine z_bipush (M := mL_law nm) (by decide +kernel : decode cL_law 636 = .ok (.bipush 32, 2)) ?_
  refine z_lshl (M := mL_law nm) (by decide +kernel : decode cL_law 638 = .ok (.lshl, 1)) ?_
  refine z_arg (j := 3) hsc hL hi (by omega) (by decide +kernel) ?_
  refine z_i2l (M := mL_law nm) (by decide +kernel : decode cL_law 645 = .ok (.i2l, 1)) ?_
  refine z_ldc2 (M := mL_law nm) (v := Int64.ofInt 4294967295) (by decide +kernel : decode cL_law 646 = .ok (.ldc2_w 70, 3)) (zTL_ok (o := 11) (idx := 70) (z := 4294967295) (by decide)) ?_
  refine z_land (M := mL_law nm) (by decide +kernel : decode cL_law 649 = .ok (.land, 1)) ?_
  refine z_lor (M := mL_law nm) (by decide +kernel : decode cL_law 650 = .ok (.lor, 1)) ?_
  refine z_cV0 (M := mL_law nm) (M' := mX10_route) (R' := rX10_route) (i := 87) [.int (xs (6 * i + 1)), .long (((Int32.toInt64 (xs (6 * i + 2))) <<< ((((Int8.ofInt 32).toInt32)).toInt64 &&& 63)) ||| ((Int32.toInt64 (xs (6 * i + 3))) &&& (Int64.ofInt 4294967295)))] [.int v] eX10_route k11_76 (by decide +kernel : decode cL_law 651 = .ok (.invokevirtual 76, 3)) (Nat.le_of_ble_eq_true rfl) ⟨Nat.le_of_ble_eq_true rfl, Nat.le_of_ble_eq_true rfl, hkc, hks, Nat.le_of_ble_eq_true rfl⟩ rfl rfl rfl sh_87 ?_
  refine hre _ (fun μ2 hμ2 => ?_)
  exact z_icmp_eq (M := mL_law nm) (tgt := 1357) (by decide +kernel : decode cL_law 654 = .ok (.if_icmp .eq 703, 3)) (by decide) (fun _ => hN _ hμ2) (fun hn => absurd rfl hn)
set_option maxRecDepth 20000 in
theorem lc_11 (hw : zOk w) (hsc : zSc w L xs) (hL : L ≤ 3072) (hi : 6 * i + 6 ≤ L) (hkc : kc ≤ 1166) (hks : ks ≤ 14508) (hμ : zInM μ) (hN : ∀ μ2, zInM μ2 → zX w (mL_law nm) room_1 Q kc ks 1357 (zLl i) [] μ2) : zX w (mL_law nm) room_1 Q kc ks 659 (zLl i) [] μ := by
  obtain ⟨I, K, p, s, r, rfl, hs, hps, P, V, d, t, kc', rt, u, bb, T, hm, X, f1, f2, h⟩ := hμ
  refine z_aload_n (M := mL_law nm) (i := 1) (x := 0) (by decide +kernel : decode cL_law 659 = .ok (.aload_n 1, 1)) rfl ?_
  refine z_arg (j := 1) hsc hL hi (by omega) (by decide +kernel) ?_
  refine z_cV0 (M := mL_law nm) (M' := mX9_ticks) (R' := rX9_ticks) (i := 0) [.int (xs (6 * i + 1))] [] eX9_ticks k11_77 (by decide +kernel : decode cL_law 666 = .ok (.invokevirtual 77, 3)) (Nat.le_of_ble_eq_true rfl) ⟨Nat.le_of_ble_eq_true rfl, Nat.le_of_ble_eq_true rfl, hkc, hks, Nat.le_of_ble_eq_true rfl⟩ rfl rfl rfl sh_0 ?_
  refine zXM_ret ?_
  refine pr_ticks hw hs hps h (fun a J1 K1 R1 hre hok => ?_)
  obtain ⟨v, rfl⟩ := zRet_i (by decide) hok
  refine z_aload_n (M := mL_law nm) (i := 2) (x := 87) (by decide +kernel : decode cL_law 669 = .ok (.aload_n 2, 1)) rfl ?_
  refine z_arg (j := 1) hsc hL hi (by omega) (by decide +kernel) ?_
  refine z_cV0 (M := mL_law nm) (M' := mX10_ticks) (R' := rX10_ticks) (i := 87) [.int (xs (6 * i + 1))] [.int v] eX10_ticks k11_80 (by decide +kernel : decode cL_law 676 = .ok (.invokevirtual 80, 3)) (Nat.le_of_ble_eq_true rfl) ⟨Nat.le_of_ble_eq_true rfl, Nat.le_of_ble_eq_true rfl, hkc, hks, Nat.le_of_ble_eq_true rfl⟩ rfl rfl rfl sh_87 ?_
  refine hre _ (fun μ2 hμ2 => ?_)
  exact z_icmp_eq (M := mL_law nm) (tgt := 1357) (by decide +kernel : decode cL_law 679 = .ok (.if_icmp .eq 678, 3)) (by decide) (fun _ => hN _ hμ2) (fun hn => absurd rfl hn)
set_option maxRecDepth 20000 in
theorem lc_12 (hw : zOk w) (hsc : zSc w L xs) (hL : L ≤ 3072) (hi : 6 * i + 6 ≤ L) (hkc : kc ≤ 1166) (hks : ks ≤ 14508) (hμ : zInM μ) (hN : ∀ μ2, zInM μ2 → zX w (mL_law nm) room_1 Q kc ks 1357 (zLl i) [] μ2) : zX w (mL_law nm) room_1 Q kc ks 684 (zLl i) [] μ := by
  obtain ⟨I, K, p, s, r, rfl, hs, hps, P, V, d, t, kc', rt, u, bb, T, hm, X, f1, f2, h⟩ := hμ
  refine z_aload_n (M := mL_law nm) (i := 1) (x := 0) (by decide +kernel : decode cL_law 684 = .ok (.aload_n 1, 1)) rfl ?_
  refine z_arg (j := 1) hsc hL hi (by omega) (by decide +kernel) ?_
  refine z_cV0 (M := mL_law nm) (M' := mX9_sum) (R' := rX9_sum) (i := 0) [.int (xs (6 * i + 1))] [] eX9_sum k11_81 (by decide +kernel : decode cL_law 691 = .ok (.invokevirtual 81, 3)) (Nat.le_of_ble_eq_true rfl) ⟨Nat.le_of_ble_eq_true rfl, Nat.le_of_ble_eq_true rfl, hkc, hks, Nat.le_of_ble_eq_true rfl⟩ rfl rfl rfl sh_0 ?_
  refine zXM_ret ?_
  refine pr_sum hs hps h (fun a J1 K1 R1 hre hok => ?_)
  obtain ⟨v, rfl⟩ := zRet_i (by decide) hok
  refine z_aload_n (M := mL_law nm) (i := 2) (x := 87) (by decide +kernel : decode cL_law 694 = .ok (.aload_n 2, 1)) rfl ?_
  refine z_arg (j := 1) hsc hL hi (by omega) (by decide +kernel) ?_
  refine z_cV0 (M := mL_law nm) (M' := mX10_sum) (R' := rX10_sum) (i := 87) [.int (xs (6 * i + 1))] [.int v] eX10_sum k11_84 (by decide +kernel : decode cL_law 701 = .ok (.invokevirtual 84, 3)) (Nat.le_of_ble_eq_true rfl) ⟨Nat.le_of_ble_eq_true rfl, Nat.le_of_ble_eq_true rfl, hkc, hks, Nat.le_of_ble_eq_true rfl⟩ rfl rfl rfl sh_87 ?_
  refine hre _ (fun μ2 hμ2 => ?_)
  exact z_icmp_eq (M := mL_law nm) (tgt := 1357) (by decide +kernel : decode cL_law 704 = .ok (.if_icmp .eq 653, 3)) (by decide) (fun _ => hN _ hμ2) (fun hn => absurd rfl hn)
set_option maxRecDepth 20000 in
theorem lc_13 (hw : zOk w) (hsc : zSc w L xs) (hL : L ≤ 3072) (hi : 6 * i + 6 ≤ L) (hkc : kc ≤ 1166) (hks : ks ≤ 14508) (hμ : zInM μ) (hN : ∀ μ2, zInM μ2 → zX w (mL_law nm) room_1 Q kc ks 1357 (zLl i) [] μ2) : zX w (mL_law nm) room_1 Q kc ks 709 (zLl i) [] μ := by
  obtain ⟨I, K, p, s, r, rfl, hs, hps, P, V, d, t, kc', rt, u, bb, T, hm, X, f1, f2, h⟩ := hμ
  refine z_aload_n (M := mL_law nm) (i := 1) (x := 0) (by decide +kernel : decode cL_law 709 = .ok (.aload_n 1, 1)) rfl ?_
  refine z_arg (j := 1) hsc hL hi (by omega) (by decide +kernel) ?_
  refine z_cV0 (M := mL_law nm) (M' := mX9_run) (R' := rX9_run) (i := 0) [.int (xs (6 * i + 1))] [] eX9_run k11_85 (by decide +kernel : decode cL_law 716 = .ok (.invokevirtual 85, 3)) (Nat.le_of_ble_eq_true rfl) ⟨Nat.le_of_ble_eq_true rfl, Nat.le_of_ble_eq_true rfl, hkc, hks, Nat.le_of_ble_eq_true rfl⟩ rfl rfl rfl sh_0 ?_
  refine zXM_ret ?_
  refine pr_run hw hs hps h (fun a J1 K1 R1 hre hok => ?_)
  obtain ⟨v, rfl⟩ := zRet_i (by decide) hok
  refine z_aload_n (M := mL_law nm) (i := 2) (x := 87) (by decide +kernel : decode cL_law 719 = .ok (.aload_n 2, 1)) rfl ?_
  refine z_arg (j := 1) hsc hL hi (by omega) (by decide +kernel) ?_
  refine z_cV0 (M := mL_law nm) (M' := mX10_run) (R' := rX10_run) (i := 87) [.int (xs (6 * i + 1))] [.int v] eX10_run k11_88 (by decide +kernel : decode cL_law 726 = .ok (.invokevirtual 88, 3)) (Nat.le_of_ble_eq_true rfl) ⟨Nat.le_of_ble_eq_true rfl, Nat.le_of_ble_eq_true rfl, hkc, hks, Nat.le_of_ble_eq_true rfl⟩ rfl rfl rfl sh_87 ?_
  refine hre _ (fun μ2 hμ2 => ?_)
  exact z_icmp_eq (M := mL_law nm) (tgt := 1357) (by decide +kernel : decode cL_law 729 = .ok (.if_icmp .eq 628, 3)) (by decide) (fun _ => hN _ hμ2) (fun hn => absurd rfl hn)
set_option maxRecDepth 20000 in
theorem lc_14 (hw : zOk w) (hsc : zSc w L xs) (hL : L ≤ 3072) (hi : 6 * i + 6 ≤ L) (hkc : kc ≤ 1166) (hks : ks ≤ 14508) (hμ : zInM μ) (hN : ∀ μ2, zInM μ2 → zX w (mL_law nm) room_1 Q kc ks 1357 (zLl i) [] μ2) : zX w (mL_law nm) room_1 Q kc ks 734 (zLl i) [] μ := by
  obtain ⟨I, K, p, s, r, rfl, hs, hps, P, V, d, t, kc', rt, u, bb, T, hm, X, f1, f2, h⟩ := hμ
  refine z_aload_n (M := mL_law nm) (i := 1) (x := 0) (by decide +kernel : decode cL_law 734 = .ok (.aload_n 1, 1)) rfl ?_
  refine z_arg (j := 1) hsc hL hi (by omega) (by decide +kernel) ?_
  refine z_arg (j := 2) hsc hL hi (by omega) (by decide +kernel) ?_
  refine z_arg (j := 3) hsc hL hi (by omega) (by decide +kernel) ?_
  refine z_cV0 (M := mL_law nm) (M' := mX9_many) (R' := rX9_many) (i := 0) [.int (xs (6 * i + 1)), .int (xs (6 * i + 2)), .int (xs (6 * i + 3))] [] eX9_many k11_89 (by decide +kernel : decode cL_law 753 = .ok (.invokevirtual 89, 3)) (Nat.le_of_ble_eq_true rfl) ⟨Nat.le_of_ble_eq_true rfl, Nat.le_of_ble_eq_true rfl, hkc, hks, Nat.le_of_ble_eq_true rfl⟩ rfl rfl rfl sh_0 ?_
  refine zXM_ret ?_
  refine pr_many hw hs hps h (fun a J1 K1 R1 hre hok => ?_)
  obtain ⟨v, rfl⟩ := zRet_i (by decide) hok
  refine z_aload_n (M := mL_law nm) (i := 2) (x := 87) (by decide +kernel : decode cL_law 756 = .ok (.aload_n 2, 1)) rfl ?_
  refine z_arg (j := 1) hsc hL hi (by omega) (by decide +kernel) ?_
  refine z_arg (j := 2) hsc hL hi (by omega) (by decide +kernel) ?_
  refine z_arg (j := 3) hsc hL hi (by omega) (by decide +kernel) ?_
  refine z_cV0 (M := mL_law nm) (M' := mX10_many) (R' := rX10_many) (i := 87) [.int (xs (6 * i + 1)), .int (xs (6 * i + 2)), .int (xs (6 * i + 3))] [.int v] eX10_many k11_93 (by decide +kernel : decode cL_law 775 = .ok (.invokevirtual 93, 3)) (Nat.le_of_ble_eq_true rfl) ⟨Nat.le_of_ble_eq_true rfl, Nat.le_of_ble_eq_true rfl, hkc, hks, Nat.le_of_ble_eq_true rfl⟩ rfl rfl rfl sh_87 ?_
  refine hre _ (fun μ2 hμ2 => ?_)
  exact z_icmp_eq (M := mL_law nm) (tgt := 1357) (by decide +kernel : decode cL_law 778 = .ok (.if_icmp .eq 579, 3)) (by decide) (fun _ => hN _ hμ2) (fun hn => absurd rfl hn)
set_option maxRecDepth 20000 in
theorem lc_15 (hw : zOk w) (hsc : zSc w L xs) (hL : L ≤ 3072) (hi : 6 * i + 6 ≤ L) (hkc : kc ≤ 1166) (hks : ks ≤ 14508) (hμ : zInM μ) (hN : ∀ μ2, zInM μ2 → zX w (mL_law nm) room_1 Q kc ks 1357 (zLl i) [] μ2) : zX w (mL_law nm) room_1 Q kc ks 783 (zLl i) [] μ := by
  obtain ⟨I, K, p, s, r, rfl, hs, hps, P, V, d, t, kc', rt, u, bb, T, hm, X, f1, f2, h⟩ := hμ
  refine z_aload_n (M := mL_law nm) (i := 1) (x := 0) (by decide +kernel : decode cL_law 783 = .ok (.aload_n 1, 1)) rfl ?_
  refine z_arg (j := 1) hsc hL hi (by omega) (by decide +kernel) ?_
  refine z_arg (j := 2) hsc hL hi (by omega) (by decide +kernel) ?_
  refine z_cV0 (M := mL_law nm) (M' := mX9_when) (R' := rX9_when) (i := 0) [.int (xs (6 * i + 1)), .int (xs (6 * i + 2))] [] eX9_when k11_94 (by decide +kernel : decode cL_law 796 = .ok (.invokevirtual 94, 3)) (Nat.le_of_ble_eq_true rfl) ⟨Nat.le_of_ble_eq_true rfl, Nat.le_of_ble_eq_true rfl, hkc, hks, Nat.le_of_ble_eq_true rfl⟩ rfl rfl rfl sh_0 ?_
  refine zXM_ret ?_
  refine pr_when hw hs hps h (fun a J1 K1 R1 hre hok => ?_)
  obtain ⟨v, rfl⟩ := zRet_i (by decide) hok
  refine z_aload_n (M := mL_law nm) (i := 2) (x := 87) (by decide +kernel : decode cL_law 799 = .ok (.aload_n 2, 1)) rfl ?_
  refine z_arg (j := 1) hsc hL hi (by omega) (by decide +kernel) ?_
  refine z_arg (j := 2) hsc hL hi (by omega) (by decide +kernel) ?_
  refine z_cV0 (M := mL_law nm) (M' := mX10_when) (R' := rX10_when) (i := 87) [.int (xs (6 * i + 1)), .int (xs (6 * i + 2))] [.int v] eX10_when k11_97 (by decide +kernel : decode cL_law 812 = .ok (.invokevirtual 97, 3)) (Nat.le_of_ble_eq_true rfl) ⟨Nat.le_of_ble_eq_true rfl, Nat.le_of_ble_eq_true rfl, hkc, hks, Nat.le_of_ble_eq_true rfl⟩ rfl rfl rfl sh_87 ?_
  refine hre _ (fun μ2 hμ2 => ?_)
  exact z_icmp_eq (M := mL_law nm) (tgt := 1357) (by decide +kernel : decode cL_law 815 = .ok (.if_icmp .eq 542, 3)) (by decide) (fun _ => hN _ hμ2) (fun hn => absurd rfl hn)
set_option maxRecDepth 20000 in
theorem lc_16 (hw : zOk w) (hsc : zSc w L xs) (hL : L ≤ 3072) (hi : 6 * i + 6 ≤ L) (hkc : kc ≤ 1166) (hks : ks ≤ 14508) (hμ : zInM μ) (hN : ∀ μ2, zInM μ2 → zX w (mL_law nm) room_1 Q kc ks 1357 (zLl i) [] μ2) : zX w (mL_law nm) room_1 Q kc ks 820 (zLl i) [] μ := by
  obtain ⟨I, K, p, s, r, rfl, hs, hps, P, V, d, t, kc', rt, u, bb, T, hm, X, f1, f2, h⟩ := hμ
  refine z_aload_n (M := mL_law nm) (i := 1) (x := 0) (by decide +kernel : decode cL_law 820 = .ok (.aload_n 1, 1)) rfl ?_
  refine z_arg (j := 1) hsc hL hi (by omega) (by decide +kernel) ?_
  refine z_arg (j := 2) hsc hL hi (by omega) (by decide +kernel) ?_
  refine z_cV0 (M := mL_law nm) (M' := mX9_way) (R' := rX9_way) (i := 0) [.int (xs (6 * i + 1)), .int (xs (6 * i + 2))] [] eX9_way k11_98 (by decide +kernel : decode cL_law 833 = .ok (.invokevirtual 98, 3)) (Nat.le_of_ble_eq_true rfl) ⟨Nat.le_of_ble_eq_true rfl, Nat.le_of_ble_eq_true rfl, hkc, hks, Nat.le_of_ble_eq_true rfl⟩ rfl rfl rfl sh_0 ?_
  refine zXM_ret ?_
  refine pr_way hw hs hps h (fun a J1 K1 R1 hre hok => ?_)
  obtain ⟨v, rfl⟩ := zRet_i (by decide) hok
  refine z_aload_n (M := mL_law nm) (i := 2) (x := 87) (by decide +kernel : decode cL_law 836 = .ok (.aload_n 2, 1)) rfl ?_
  refine z_arg (j := 1) hsc hL hi (by omega) (by decide +kernel) ?_
  refine z_arg (j := 2) hsc hL hi (by omega) (by decide +kernel) ?_
  refine z_cV0 (M := mL_law nm) (M' := mX10_way) (R' := rX10_way) (i := 87) [.int (xs (6 * i + 1)), .int (xs (6 * i + 2))] [.int v] eX10_way k11_101 (by decide +kernel : decode cL_law 849 = .ok (.invokevirtual 101, 3)) (Nat.le_of_ble_eq_true rfl) ⟨Nat.le_of_ble_eq_true rfl, Nat.le_of_ble_eq_true rfl, hkc, hks, Nat.le_of_ble_eq_true rfl⟩ rfl rfl rfl sh_87 ?_
  refine hre _ (fun μ2 hμ2 => ?_)
  exact z_icmp_eq (M := mL_law nm) (tgt := 1357) (by decide +kernel : decode cL_law 852 = .ok (.if_icmp .eq 505, 3)) (by decide) (fun _ => hN _ hμ2) (fun hn => absurd rfl hn)
set_option maxRecDepth 20000 in
theorem lc_17 (hw : zOk w) (hsc : zSc w L xs) (hL : L ≤ 3072) (hi : 6 * i + 6 ≤ L) (hkc : kc ≤ 1166) (hks : ks ≤ 14508) (hμ : zInM μ) (hN : ∀ μ2, zInM μ2 → zX w (mL_law nm) room_1 Q kc ks 1357 (zLl i) [] μ2) : zX w (mL_law nm) room_1 Q kc ks 857 (zLl i) [] μ := by
  obtain ⟨I, K, p, s, r, rfl, hs, hps, P, V, d, t, kc', rt, u, bb, T, hm, X, f1, f2, h⟩ := hμ
  refine z_aload_n (M := mL_law nm) (i := 1) (x := 0) (by decide +kernel : decode cL_law 857 = .ok (.aload_n 1, 1)) rfl ?_
  refine z_arg (j := 1) hsc hL hi (by omega) (by decide +kernel) ?_
  refine z_arg (j := 2) hsc hL hi (by omega) (by decide +kernel) ?_
  refine z_cV0 (M := mL_law nm) (M' := mX9_best) (R' := rX9_best) (i := 0) [.int (xs (6 * i + 1)), .int (xs (6 * i + 2))] [] eX9_best k11_102 (by decide +kernel : decode cL_law 870 = .ok (.invokevirtual 102, 3)) (Nat.le_of_ble_eq_true rfl) ⟨Nat.le_of_ble_eq_true rfl, Nat.le_of_ble_eq_true rfl, hkc, hks, Nat.le_of_ble_eq_true rfl⟩ rfl rfl rfl sh_0 ?_
  refine zXM_ret ?_
  refine pr_best hw hs hps h (fun a J1 K1 R1 hre hok => ?_)
  obtain ⟨v, rfl⟩ := zRet_i (by decide) hok
  refine z_aload_n (M := mL_law nm) (i := 2) (x := 87) (by decide +kernel : decode cL_law 873 = .ok (.aload_n 2, 1)) rfl ?_
  refine z_arg (j := 1) hsc hL hi (by omega) (by decide +kernel) ?_
  refine z_arg (j := 2) hsc hL hi (by omega) (by decide +kernel) ?_
  refine z_cV0 (M := mL_law nm) (M' := mX10_best) (R' := rX10_best) (i := 87) [.int (xs (6 * i + 1)), .int (xs (6 * i + 2))] [.int v] eX10_best k11_105 (by decide +kernel : decode cL_law 886 = .ok (.invokevirtual 105, 3)) (Nat.le_of_ble_eq_true rfl) ⟨Nat.le_of_ble_eq_true rfl, Nat.le_of_ble_eq_true rfl, hkc, hks, Nat.le_of_ble_eq_true rfl⟩ rfl rfl rfl sh_87 ?_
  refine hre _ (fun μ2 hμ2 => ?_)
  exact z_icmp_eq (M := mL_law nm) (tgt := 1357) (by decide +kernel : decode cL_law 889 = .ok (.if_icmp .eq 468, 3)) (by decide) (fun _ => hN _ hμ2) (fun hn => absurd rfl hn)
set_option maxRecDepth 20000 in
theorem lc_18 (hw : zOk w) (hsc : zSc w L xs) (hL : L ≤ 3072) (hi : 6 * i + 6 ≤ L) (hkc : kc ≤ 1166) (hks : ks ≤ 14508) (hμ : zInM μ) (hN : ∀ μ2, zInM μ2 → zX w (mL_law nm) room_1 Q kc ks 1357 (zLl i) [] μ2) : zX w (mL_law nm) room_1 Q kc ks 894 (zLl i) [] μ := by
  obtain ⟨I, K, p, s, r, rfl, hs, hps, P, V, d, t, kc', rt, u, bb, T, hm, X, f1, f2, h⟩ := hμ
  refine z_aload_n (M := mL_law nm) (i := 1) (x := 0) (by decide +kernel : decode cL_law 894 = .ok (.aload_n 1, 1)) rfl ?_
  refine z_arg (j := 1) hsc hL hi (by omega) (by decide +kernel) ?_
  refine z_cV0 (M := mL_law nm) (M' := mX9_second) (R' := rX9_second) (i := 0) [.int (xs (6 * i + 1))] [] eX9_second k11_106 (by decide +kernel : decode cL_law 901 = .ok (.invokevirtual 106, 3)) (Nat.le_of_ble_eq_true rfl) ⟨Nat.le_of_ble_eq_true rfl, Nat.le_of_ble_eq_true rfl, hkc, hks, Nat.le_of_ble_eq_true rfl⟩ rfl rfl rfl sh_0 ?_
  refine zXM_ret ?_
  refine pr_second hw hs hps h (fun a J1 K1 R1 hre hok => ?_)
  obtain ⟨v, rfl⟩ := zRet_i (by decide) hok
  refine z_aload_n (M := mL_law nm) (i := 2) (x := 87) (by decide +kernel : decode cL_law 904 = .ok (.aload_n 2, 1)) rfl ?_
  refine z_arg (j := 1) hsc hL hi (by omega) (by decide +kernel) ?_
  refine z_cV0 (M := mL_law nm) (M' := mX10_second) (R' := rX10_second) (i := 87) [.int (xs (6 * i + 1))] [.int v] eX10_second k11_109 (by decide +kernel : decode cL_law 911 = .ok (.invokevirtual 109, 3)) (Nat.le_of_ble_eq_true rfl) ⟨Nat.le_of_ble_eq_true rfl, Nat.le_of_ble_eq_true rfl, hkc, hks, Nat.le_of_ble_eq_true rfl⟩ rfl rfl rfl sh_87 ?_
  refine hre _ (fun μ2 hμ2 => ?_)
  exact z_icmp_eq (M := mL_law nm) (tgt := 1357) (by decide +kernel : decode cL_law 914 = .ok (.if_icmp .eq 443, 3)) (by decide) (fun _ => hN _ hμ2) (fun hn => absurd rfl hn)
set_option maxRecDepth 20000 in
theorem lc_19 (hw : zOk w) (hsc : zSc w L xs) (hL : L ≤ 3072) (hi : 6 * i + 6 ≤ L) (hkc : kc ≤ 1166) (hks : ks ≤ 14508) (hμ : zInM μ) (hN : ∀ μ2, zInM μ2 → zX w (mL_law nm) room_1 Q kc ks 1357 (zLl i) [] μ2) : zX w (mL_law nm) room_1 Q kc ks 919 (zLl i) [] μ := by
  obtain ⟨I, K, p, s, r, rfl, hs, hps, P, V, d, t, kc', rt, u, bb, T, hm, X, f1, f2, h⟩ := hμ
  refine z_aload_n (M := mL_law nm) (i := 1) (x := 0) (by decide +kernel : decode cL_law 919 = .ok (.aload_n 1, 1)) rfl ?_
  refine z_arg (j := 1) hsc hL hi (by omega) (by decide +kernel) ?_
  refine z_cV0 (M := mL_law nm) (M' := mX9_gather) (R' := rX9_gather) (i := 0) [.int (xs (6 * i + 1))] [] eX9_gather k11_110 (by decide +kernel : decode cL_law 926 = .ok (.invokevirtual 110, 3)) (Nat.le_of_ble_eq_true rfl) ⟨Nat.le_of_ble_eq_true rfl, Nat.le_of_ble_eq_true rfl, hkc, hks, Nat.le_of_ble_eq_true rfl⟩ rfl rfl rfl sh_0 ?_
  refine zXM_ret ?_
  refine pr_gather hs hps h (fun a J1 K1 R1 hre hok => ?_)
  obtain ⟨v, rfl⟩ := zRet_i (by decide) hok
  refine z_aload_n (M := mL_law nm) (i := 2) (x := 87) (by decide +kernel : decode cL_law 929 = .ok (.aload_n 2, 1)) rfl ?_
  refine z_arg (j := 1) hsc hL hi (by omega) (by decide +kernel) ?_
  refine z_cV0 (M := mL_law nm) (M' := mX10_gather) (R' := rX10_gather) (i := 87) [.int (xs (6 * i + 1))] [.int v] eX10_gather k11_113 (by decide +kernel : decode cL_law 936 = .ok (.invokevirtual 113, 3)) (Nat.le_of_ble_eq_true rfl) ⟨Nat.le_of_ble_eq_true rfl, Nat.le_of_ble_eq_true rfl, hkc, hks, Nat.le_of_ble_eq_true rfl⟩ rfl rfl rfl sh_87 ?_
  refine hre _ (fun μ2 hμ2 => ?_)
  exact z_icmp_eq (M := mL_law nm) (tgt := 1357) (by decide +kernel : decode cL_law 939 = .ok (.if_icmp .eq 418, 3)) (by decide) (fun _ => hN _ hμ2) (fun hn => absurd rfl hn)
set_option maxRecDepth 20000 in
theorem lc_20 (hw : zOk w) (hsc : zSc w L xs) (hL : L ≤ 3072) (hi : 6 * i + 6 ≤ L) (hkc : kc ≤ 1166) (hks : ks ≤ 14508) (hμ : zInM μ) (hN : ∀ μ2, zInM μ2 → zX w (mL_law nm) room_1 Q kc ks 1357 (zLl i) [] μ2) : zX w (mL_law nm) room_1 Q kc ks 944 (zLl i) [] μ := by
  obtain ⟨I, K, p, s, r, rfl, hs, hps, P, V, d, t, kc', rt, u, bb, T, hm, X, f1, f2, h⟩ := hμ
  refine z_aload_n (M := mL_law nm) (i := 1) (x := 0) (by decide +kernel : decode cL_law 944 = .ok (.aload_n 1, 1)) rfl ?_
  refine z_arg (j := 1) hsc hL hi (by omega) (by decide +kernel) ?_
  refine z_arg (j := 2) hsc hL hi (by omega) (by decide +kernel) ?_
  refine z_if_eq (M := mL_law nm) (tgt := 964) (by decide +kernel : decode cL_law 957 = .ok (.ifCond .eq 7, 3)) (by decide) (fun hz => ?_) (fun hz => ?_)
  · refine z_iconst (M := mL_law nm) (by decide +kernel : decode cL_law 964 = .ok (.iconst 0, 1)) ?_
    refine z_cV0 (M := mL_law nm) (M' := mX9_day) (R' := rX9_day) (i := 0) [.int (xs (6 * i + 1)), .int (zb1 false)] [] eX9_day k11_114 (by decide +kernel : decode cL_law 965 = .ok (.invokevirtual 114, 3)) (Nat.le_of_ble_eq_true rfl) ⟨Nat.le_of_ble_eq_true rfl, Nat.le_of_ble_eq_true rfl, hkc, hks, Nat.le_of_ble_eq_true rfl⟩ rfl rfl rfl sh_0 ?_
    refine zXM_ret ?_
    refine pr_day (e := false) hs hps h (fun a J1 K1 R1 hre hok => ?_)
    obtain ⟨v, rfl⟩ := zRet_i (by decide) hok
    refine z_aload_n (M := mL_law nm) (i := 2) (x := 87) (by decide +kernel : decode cL_law 968 = .ok (.aload_n 2, 1)) rfl ?_
    refine z_arg (j := 1) hsc hL hi (by omega) (by decide +kernel) ?_
    refine z_arg (j := 2) hsc hL hi (by omega) (by decide +kernel) ?_
    refine z_if_eq (M := mL_law nm) (tgt := 988) (by decide +kernel : decode cL_law 981 = .ok (.ifCond .eq 7, 3)) (by decide) (fun _ => ?_) (fun hn => absurd hz hn)
    refine z_iconst (M := mL_law nm) (by decide +kernel : decode cL_law 988 = .ok (.iconst 0, 1)) ?_
    refine z_cV0 (M := mL_law nm) (M' := mX10_day) (R' := rX10_day) (i := 87) [.int (xs (6 * i + 1)), .int (zb1 false)] [.int v] eX10_day k11_118 (by decide +kernel : decode cL_law 989 = .ok (.invokevirtual 118, 3)) (Nat.le_of_ble_eq_true rfl) ⟨Nat.le_of_ble_eq_true rfl, Nat.le_of_ble_eq_true rfl, hkc, hks, Nat.le_of_ble_eq_true rfl⟩ rfl rfl rfl sh_87 ?_
    refine hre _ (fun μ2 hμ2 => ?_)
    exact z_icmp_eq (M := mL_law nm) (tgt := 1357) (by decide +kernel : decode cL_law 992 = .ok (.if_icmp .eq 365, 3)) (by decide) (fun _ => hN _ hμ2) (fun hn => absurd rfl hn)
  · refine z_iconst (M := mL_law nm) (by decide +kernel : decode cL_law 960 = .ok (.iconst 1, 1)) ?_
    refine z_goto (M := mL_law nm) (tgt := 965) (by decide +kernel : decode cL_law 961 = .ok (.goto 4, 3)) (by decide) ?_
    refine z_cV0 (M := mL_law nm) (M' := mX9_day) (R' := rX9_day) (i := 0) [.int (xs (6 * i + 1)), .int (zb1 true)] [] eX9_day k11_114 (by decide +kernel : decode cL_law 965 = .ok (.invokevirtual 114, 3)) (Nat.le_of_ble_eq_true rfl) ⟨Nat.le_of_ble_eq_true rfl, Nat.le_of_ble_eq_true rfl, hkc, hks, Nat.le_of_ble_eq_true rfl⟩ rfl rfl rfl sh_0 ?_
    refine zXM_ret ?_
    refine pr_day (e := true) hs hps h (fun a J1 K1 R1 hre hok => ?_)
    obtain ⟨v, rfl⟩ := zRet_i (by decide) hok
    refine z_aload_n (M := mL_law nm) (i := 2) (x := 87) (by decide +kernel : decode cL_law 968 = .ok (.aload_n 2, 1)) rfl ?_
    refine z_arg (j := 1) hsc hL hi (by omega) (by decide +kernel) ?_
    refine z_arg (j := 2) hsc hL hi (by omega) (by decide +kernel) ?_
    refine z_if_eq (M := mL_law nm) (tgt := 988) (by decide +kernel : decode cL_law 981 = .ok (.ifCond .eq 7, 3)) (by decide) (fun hn => absurd hn hz) (fun _ => ?_)
    refine z_iconst (M := mL_law nm) (by decide +kernel : decode cL_law 984 = .ok (.iconst 1, 1)) ?_
    refine z_goto (M := mL_law nm) (tgt := 989) (by decide +kernel : decode cL_law 985 = .ok (.goto 4, 3)) (by decide) ?_
    refine z_cV0 (M := mL_law nm) (M' := mX10_day) (R' := rX10_day) (i := 87) [.int (xs (6 * i + 1)), .int (zb1 true)] [.int v] eX10_day k11_118 (by decide +kernel : decode cL_law 989 = .ok (.invokevirtual 118, 3)) (Nat.le_of_ble_eq_true rfl) ⟨Nat.le_of_ble_eq_true rfl, Nat.le_of_ble_eq_true rfl, hkc, hks, Nat.le_of_ble_eq_true rfl⟩ rfl rfl rfl sh_87 ?_
    refine hre _ (fun μ2 hμ2 => ?_)
    exact z_icmp_eq (M := mL_law nm) (tgt := 1357) (by decide +kernel : decode cL_law 992 = .ok (.if_icmp .eq 365, 3)) (by decide) (fun _ => hN _ hμ2) (fun hn => absurd rfl hn)
set_option maxRecDepth 20000 in
theorem lc_21 (hw : zOk w) (hsc : zSc w L xs) (hL : L ≤ 3072) (hi : 6 * i + 6 ≤ L) (hkc : kc ≤ 1166) (hks : ks ≤ 14508) (hμ : zInM μ) (hN : ∀ μ2, zInM μ2 → zX w (mL_law nm) room_1 Q kc ks 1357 (zLl i) [] μ2) : zX w (mL_law nm) room_1 Q kc ks 997 (zLl i) [] μ := by
  obtain ⟨I, K, p, s, r, rfl, hs, hps, P, V, d, t, kc', rt, u, bb, T, hm, X, f1, f2, h⟩ := hμ
  refine z_aload_n (M := mL_law nm) (i := 1) (x := 0) (by decide +kernel : decode cL_law 997 = .ok (.aload_n 1, 1)) rfl ?_
  refine z_arg (j := 1) hsc hL hi (by omega) (by decide +kernel) ?_
  refine z_cV0 (M := mL_law nm) (M' := mX9_strike) (R' := rX9_strike) (i := 0) [.int (xs (6 * i + 1))] [] eX9_strike k11_119 (by decide +kernel : decode cL_law 1004 = .ok (.invokevirtual 119, 3)) (Nat.le_of_ble_eq_true rfl) ⟨Nat.le_of_ble_eq_true rfl, Nat.le_of_ble_eq_true rfl, hkc, hks, Nat.le_of_ble_eq_true rfl⟩ rfl rfl rfl sh_0 ?_
  refine zXM_ret ?_
  refine pr_strike hs hps h (fun a J1 K1 R1 hre hok => ?_)
  obtain ⟨v, rfl⟩ := zRet_i (by decide) hok
  refine z_aload_n (M := mL_law nm) (i := 2) (x := 87) (by decide +kernel : decode cL_law 1007 = .ok (.aload_n 2, 1)) rfl ?_
  refine z_arg (j := 1) hsc hL hi (by omega) (by decide +kernel) ?_
  refine z_cV0 (M := mL_law nm) (M' := mX10_strike) (R' := rX10_strike) (i := 87) [.int (xs (6 * i + 1))] [.int v] eX10_strike k11_122 (by decide +kernel : decode cL_law 1014 = .ok (.invokevirtual 122, 3)) (Nat.le_of_ble_eq_true rfl) ⟨Nat.le_of_ble_eq_true rfl, Nat.le_of_ble_eq_true rfl, hkc, hks, Nat.le_of_ble_eq_true rfl⟩ rfl rfl rfl sh_87 ?_
  refine hre _ (fun μ2 hμ2 => ?_)
  exact z_icmp_eq (M := mL_law nm) (tgt := 1357) (by decide +kernel : decode cL_law 1017 = .ok (.if_icmp .eq 340, 3)) (by decide) (fun _ => hN _ hμ2) (fun hn => absurd rfl hn)
set_option maxRecDepth 20000 in
theorem lc_22 (hw : zOk w) (hsc : zSc w L xs) (hL : L ≤ 3072) (hi : 6 * i + 6 ≤ L) (hkc : kc ≤ 1166) (hks : ks ≤ 14508) (hμ : zInM μ) (hN : ∀ μ2, zInM μ2 → zX w (mL_law nm) room_1 Q kc ks 1357 (zLl i) [] μ2) : zX w (mL_law nm) room_1 Q kc ks 1022 (zLl i) [] μ := by
  obtain ⟨I, K, p, s, r, rfl, hs, hps, P, V, d, t, kc', rt, u, bb, T, hm, X, f1, f2, h⟩ := hμ
  refine z_aload_n (M := mL_law nm) (i := 1) (x := 0) (by decide +kernel : decode cL_law 1022 = .ok (.aload_n 1, 1)) rfl ?_
  refine z_arg (j := 1) hsc hL hi (by omega) (by decide +kernel) ?_
  refine z_cV0 (M := mL_law nm) (M' := mX9_known) (R' := rX9_known) (i := 0) [.int (xs (6 * i + 1))] [] eX9_known k11_123 (by decide +kernel : decode cL_law 1029 = .ok (.invokevirtual 123, 3)) (Nat.le_of_ble_eq_true rfl) ⟨Nat.le_of_ble_eq_true rfl, Nat.le_of_ble_eq_true rfl, hkc, hks, Nat.le_of_ble_eq_true rfl⟩ rfl rfl rfl sh_0 ?_
  refine zXM_ret ?_
  refine pr_known hs hps h (fun a J1 K1 R1 hre hok => ?_)
  obtain ⟨v, rfl⟩ := zRet_i (by decide) hok
  refine z_aload_n (M := mL_law nm) (i := 2) (x := 87) (by decide +kernel : decode cL_law 1032 = .ok (.aload_n 2, 1)) rfl ?_
  refine z_arg (j := 1) hsc hL hi (by omega) (by decide +kernel) ?_
  refine z_cV0 (M := mL_law nm) (M' := mX10_known) (R' := rX10_known) (i := 87) [.int (xs (6 * i + 1))] [.int v] eX10_known k11_127 (by decide +kernel : decode cL_law 1039 = .ok (.invokevirtual 127, 3)) (Nat.le_of_ble_eq_true rfl) ⟨Nat.le_of_ble_eq_true rfl, Nat.le_of_ble_eq_true rfl, hkc, hks, Nat.le_of_ble_eq_true rfl⟩ rfl rfl rfl sh_87 ?_
  refine hre _ (fun μ2 hμ2 => ?_)
  exact z_icmp_eq (M := mL_law nm) (tgt := 1357) (by decide +kernel : decode cL_law 1042 = .ok (.if_icmp .eq 315, 3)) (by decide) (fun _ => hN _ hμ2) (fun hn => absurd rfl hn)
set_option maxRecDepth 20000 in
theorem lc_23 (hw : zOk w) (hsc : zSc w L xs) (hL : L ≤ 3072) (hi : 6 * i + 6 ≤ L) (hkc : kc ≤ 1166) (hks : ks ≤ 14508) (hμ : zInM μ) (hN : ∀ μ2, zInM μ2 → zX w (mL_law nm) room_1 Q kc ks 1357 (zLl i) [] μ2) : zX w (mL_law nm) room_1 Q kc ks 1047 (zLl i) [] μ := by
  obtain ⟨I, K, p, s, r, rfl, hs, hps, P, V, d, t, kc', rt, u, bb, T, hm, X, f1, f2, h⟩ := hμ
  refine z_aload_n (M := mL_law nm) (i := 1) (x := 0) (by decide +kernel : decode cL_law 1047 = .ok (.aload_n 1, 1)) rfl ?_
  refine z_arg (j := 1) hsc hL hi (by omega) (by decide +kernel) ?_
  refine z_cV0 (M := mL_law nm) (M' := mX9_right) (R' := rX9_right) (i := 0) [.int (xs (6 * i + 1))] [] eX9_right k11_128 (by decide +kernel : decode cL_law 1054 = .ok (.invokevirtual 128, 3)) (Nat.le_of_ble_eq_true rfl) ⟨Nat.le_of_ble_eq_true rfl, Nat.le_of_ble_eq_true rfl, hkc, hks, Nat.le_of_ble_eq_true rfl⟩ rfl rfl rfl sh_0 ?_
  refine zXM_ret ?_
  refine pr_right hs hps h (fun a J1 K1 R1 hre hok => ?_)
  obtain ⟨v, rfl⟩ := zRet_i (by decide) hok
  refine z_aload_n (M := mL_law nm) (i := 2) (x := 87) (by decide +kernel : decode cL_law 1057 = .ok (.aload_n 2, 1)) rfl ?_
  refine z_arg (j := 1) hsc hL hi (by omega) (by decide +kernel) ?_
  refine z_cV0 (M := mL_law nm) (M' := mX10_right) (R' := rX10_right) (i := 87) [.int (xs (6 * i + 1))] [.int v] eX10_right k11_131 (by decide +kernel : decode cL_law 1064 = .ok (.invokevirtual 131, 3)) (Nat.le_of_ble_eq_true rfl) ⟨Nat.le_of_ble_eq_true rfl, Nat.le_of_ble_eq_true rfl, hkc, hks, Nat.le_of_ble_eq_true rfl⟩ rfl rfl rfl sh_87 ?_
  refine hre _ (fun μ2 hμ2 => ?_)
  exact z_icmp_eq (M := mL_law nm) (tgt := 1357) (by decide +kernel : decode cL_law 1067 = .ok (.if_icmp .eq 290, 3)) (by decide) (fun _ => hN _ hμ2) (fun hn => absurd rfl hn)
set_option maxRecDepth 20000 in
theorem lc_24 (hw : zOk w) (hsc : zSc w L xs) (hL : L ≤ 3072) (hi : 6 * i + 6 ≤ L) (hkc : kc ≤ 1166) (hks : ks ≤ 14508) (hμ : zInM μ) (hN : ∀ μ2, zInM μ2 → zX w (mL_law nm) room_1 Q kc ks 1357 (zLl i) [] μ2) : zX w (mL_law nm) room_1 Q kc ks 1072 (zLl i) [] μ := by
  obtain ⟨I, K, p, s, r, rfl, hs, hps, P, V, d, t, kc', rt, u, bb, T, hm, X, f1, f2, h⟩ := hμ
  refine z_aload_n (M := mL_law nm) (i := 1) (x := 0) (by decide +kernel : decode cL_law 1072 = .ok (.aload_n 1, 1)) rfl ?_
  refine z_cV0 (M := mL_law nm) (M' := mX9_tells) (R' := rX9_tells) (i := 0) [] [] eX9_tells k11_132 (by decide +kernel : decode cL_law 1073 = .ok (.invokevirtual 132, 3)) (Nat.le_of_ble_eq_true rfl) ⟨Nat.le_of_ble_eq_true rfl, Nat.le_of_ble_eq_true rfl, hkc, hks, Nat.le_of_ble_eq_true rfl⟩ rfl rfl rfl sh_0 ?_
  refine zXM_ret ?_
  refine pr_tells hs hps h (fun a J1 K1 R1 hre hok => ?_)
  obtain ⟨v, rfl⟩ := zRet_i (by decide) hok
  refine z_aload_n (M := mL_law nm) (i := 2) (x := 87) (by decide +kernel : decode cL_law 1076 = .ok (.aload_n 2, 1)) rfl ?_
  refine z_cV0 (M := mL_law nm) (M' := mX10_tells) (R' := rX10_tells) (i := 87) [] [.int v] eX10_tells k11_135 (by decide +kernel : decode cL_law 1077 = .ok (.invokevirtual 135, 3)) (Nat.le_of_ble_eq_true rfl) ⟨Nat.le_of_ble_eq_true rfl, Nat.le_of_ble_eq_true rfl, hkc, hks, Nat.le_of_ble_eq_true rfl⟩ rfl rfl rfl sh_87 ?_
  refine hre _ (fun μ2 hμ2 => ?_)
  exact z_icmp_eq (M := mL_law nm) (tgt := 1357) (by decide +kernel : decode cL_law 1080 = .ok (.if_icmp .eq 277, 3)) (by decide) (fun _ => hN _ hμ2) (fun hn => absurd rfl hn)
set_option maxRecDepth 20000 in
theorem lc_25 (hw : zOk w) (hsc : zSc w L xs) (hL : L ≤ 3072) (hi : 6 * i + 6 ≤ L) (hkc : kc ≤ 1166) (hks : ks ≤ 14508) (hμ : zInM μ) (hN : ∀ μ2, zInM μ2 → zX w (mL_law nm) room_1 Q kc ks 1357 (zLl i) [] μ2) : zX w (mL_law nm) room_1 Q kc ks 1085 (zLl i) [] μ := by
  obtain ⟨I, K, p, s, r, rfl, hs, hps, P, V, d, t, kc', rt, u, bb, T, hm, X, f1, f2, h⟩ := hμ
  refine z_aload_n (M := mL_law nm) (i := 1) (x := 0) (by decide +kernel : decode cL_law 1085 = .ok (.aload_n 1, 1)) rfl ?_
  refine z_arg (j := 1) hsc hL hi (by omega) (by decide +kernel) ?_
  refine z_arg (j := 2) hsc hL hi (by omega) (by decide +kernel) ?_
  refine z_arg (j := 3) hsc hL hi (by omega) (by decide +kernel) ?_
  refine z_cV0 (M := mL_law nm) (M' := mX9_joined) (R' := rX9_joined) (i := 0) [.int (xs (6 * i + 1)), .int (xs (6 * i + 2)), .int (xs (6 * i + 3))] [] eX9_joined k11_136 (by decide +kernel : decode cL_law 1104 = .ok (.invokevirtual 136, 3)) (Nat.le_of_ble_eq_true rfl) ⟨Nat.le_of_ble_eq_true rfl, Nat.le_of_ble_eq_true rfl, hkc, hks, Nat.le_of_ble_eq_true rfl⟩ rfl rfl rfl sh_0 ?_
  refine zXM_ret ?_
  refine pr_joined hs hps h (fun a J1 K1 R1 hre hok => ?_)
  obtain ⟨v, rfl⟩ := zRet_i (by decide) hok
  refine z_aload_n (M := mL_law nm) (i := 2) (x := 87) (by decide +kernel : decode cL_law 1107 = .ok (.aload_n 2, 1)) rfl ?_
  refine z_arg (j := 1) hsc hL hi (by omega) (by decide +kernel) ?_
  refine z_arg (j := 2) hsc hL hi (by omega) (by decide +kernel) ?_
  refine z_arg (j := 3) hsc hL hi (by omega) (by decide +kernel) ?_
  refine z_cV0 (M := mL_law nm) (M' := mX10_joined) (R' := rX10_joined) (i := 87) [.int (xs (6 * i + 1)), .int (xs (6 * i + 2)), .int (xs (6 * i + 3))] [.int v] eX10_joined k11_139 (by decide +kernel : decode cL_law 1126 = .ok (.invokevirtual 139, 3)) (Nat.le_of_ble_eq_true rfl) ⟨Nat.le_of_ble_eq_true rfl, Nat.le_of_ble_eq_true rfl, hkc, hks, Nat.le_of_ble_eq_true rfl⟩ rfl rfl rfl sh_87 ?_
  refine hre _ (fun μ2 hμ2 => ?_)
  exact z_icmp_eq (M := mL_law nm) (tgt := 1357) (by decide +kernel : decode cL_law 1129 = .ok (.if_icmp .eq 228, 3)) (by decide) (fun _ => hN _ hμ2) (fun hn => absurd rfl hn)
set_option maxRecDepth 20000 in
theorem lc_26 (hw : zOk w) (hsc : zSc w L xs) (hL : L ≤ 3072) (hi : 6 * i + 6 ≤ L) (hkc : kc ≤ 1166) (hks : ks ≤ 14508) (hμ : zInM μ) (hN : ∀ μ2, zInM μ2 → zX w (mL_law nm) room_1 Q kc ks 1357 (zLl i) [] μ2) : zX w (mL_law nm) room_1 Q kc ks 1134 (zLl i) [] μ := by
  obtain ⟨I, K, p, s, r, rfl, hs, hps, P, V, d, t, kc', rt, u, bb, T, hm, X, f1, f2, h⟩ := hμ
  refine z_aload_n (M := mL_law nm) (i := 1) (x := 0) (by decide +kernel : decode cL_law 1134 = .ok (.aload_n 1, 1)) rfl ?_
  refine z_arg (j := 1) hsc hL hi (by omega) (by decide +kernel) ?_
  refine z_arg (j := 2) hsc hL hi (by omega) (by decide +kernel) ?_
  refine z_arg (j := 3) hsc hL hi (by omega) (by decide +kernel) ?_
  refine z_arg (j := 4) hsc hL hi (by omega) (by decide +kernel) ?_
  refine z_cV0 (M := mL_law nm) (M' := mX9_dodgers) (R' := rX9_dodgers) (i := 0) [.int (xs (6 * i + 1)), .int (xs (6 * i + 2)), .int (xs (6 * i + 3)), .int (xs (6 * i + 4))] [] eX9_dodgers k11_140 (by decide +kernel : decode cL_law 1159 = .ok (.invokevirtual 140, 3)) (Nat.le_of_ble_eq_true rfl) ⟨Nat.le_of_ble_eq_true rfl, Nat.le_of_ble_eq_true rfl, hkc, hks, Nat.le_of_ble_eq_true rfl⟩ rfl rfl rfl sh_0 ?_
  refine zXM_ret ?_
  refine pr_dodgers hs hps h (fun a J1 K1 R1 hre hok => ?_)
  obtain ⟨v, rfl⟩ := zRet_i (by decide) hok
  refine z_aload_n (M := mL_law nm) (i := 2) (x := 87) (by decide +kernel : decode cL_law 1162 = .ok (.aload_n 2, 1)) rfl ?_
  refine z_arg (j := 1) hsc hL hi (by omega) (by decide +kernel) ?_
  refine z_arg (j := 2) hsc hL hi (by omega) (by decide +kernel) ?_
  refine z_arg (j := 3) hsc hL hi (by omega) (by decide +kernel) ?_
  refine z_arg (j := 4) hsc hL hi (by omega) (by decide +kernel) ?_
  refine z_cV0 (M := mL_law nm) (M' := mX10_dodgers) (R' := rX10_dodgers) (i := 87) [.int (xs (6 * i + 1)), .int (xs (6 * i + 2)), .int (xs (6 * i + 3)), .int (xs (6 * i + 4))] [.int v] eX10_dodgers k11_144 (by decide +kernel : decode cL_law 1187 = .ok (.invokevirtual 144, 3)) (Nat.le_of_ble_eq_true rfl) ⟨Nat.le_of_ble_eq_true rfl, Nat.le_of_ble_eq_true rfl, hkc, hks, Nat.le_of_ble_eq_true rfl⟩ rfl rfl rfl sh_87 ?_
  refine hre _ (fun μ2 hμ2 => ?_)
  exact z_icmp_eq (M := mL_law nm) (tgt := 1357) (by decide +kernel : decode cL_law 1190 = .ok (.if_icmp .eq 167, 3)) (by decide) (fun _ => hN _ hμ2) (fun hn => absurd rfl hn)
set_option maxRecDepth 20000 in
theorem lc_27 (hw : zOk w) (hsc : zSc w L xs) (hL : L ≤ 3072) (hi : 6 * i + 6 ≤ L) (hkc : kc ≤ 1166) (hks : ks ≤ 14508) (hμ : zInM μ) (hN : ∀ μ2, zInM μ2 → zX w (mL_law nm) room_1 Q kc ks 1357 (zLl i) [] μ2) : zX w (mL_law nm) room_1 Q kc ks 1195 (zLl i) [] μ := by
  obtain ⟨I, K, p, s, r, rfl, hs, hps, P, V, d, t, kc', rt, u, bb, T, hm, X, f1, f2, h⟩ := hμ
  refine z_aload_n (M := mL_law nm) (i := 1) (x := 0) (by decide +kernel : decode cL_law 1195 = .ok (.aload_n 1, 1)) rfl ?_
  refine z_arg (j := 1) hsc hL hi (by omega) (by decide +kernel) ?_
  refine z_arg (j := 2) hsc hL hi (by omega) (by decide +kernel) ?_
  refine z_arg (j := 3) hsc hL hi (by omega) (by decide +kernel) ?_
  refine z_cV0 (M := mL_law nm) (M' := mX9_tried) (R' := rX9_tried) (i := 0) [.int (xs (6 * i + 1)), .int (xs (6 * i + 2)), .int (xs (6 * i + 3))] [] eX9_tried k11_145 (by decide +kernel : decode cL_law 1214 = .ok (.invokevirtual 145, 3)) (Nat.le_of_ble_eq_true rfl) ⟨Nat.le_of_ble_eq_true rfl, Nat.le_of_ble_eq_true rfl, hkc, hks, Nat.le_of_ble_eq_true rfl⟩ rfl rfl rfl sh_0 ?_
  refine zXM_ret ?_
  refine pr_tried hw hs hps h (fun a J1 K1 R1 hre hok => ?_)
  obtain ⟨v, rfl⟩ := zRet_i (by decide) hok
  refine z_aload_n (M := mL_law nm) (i := 2) (x := 87) (by decide +kernel : decode cL_law 1217 = .ok (.aload_n 2, 1)) rfl ?_
  refine z_arg (j := 1) hsc hL hi (by omega) (by decide +kernel) ?_
  refine z_arg (j := 2) hsc hL hi (by omega) (by decide +kernel) ?_
  refine z_arg (j := 3) hsc hL hi (by omega) (by decide +kernel) ?_
  refine z_cV0 (M := mL_law nm) (M' := mX10_tried) (R' := rX10_tried) (i := 87) [.int (xs (6 * i + 1)), .int (xs (6 * i + 2)), .int (xs (6 * i + 3))] [.int v] eX10_tried k11_148 (by decide +kernel : decode cL_law 1236 = .ok (.invokevirtual 148, 3)) (Nat.le_of_ble_eq_true rfl) ⟨Nat.le_of_ble_eq_true rfl, Nat.le_of_ble_eq_true rfl, hkc, hks, Nat.le_of_ble_eq_true rfl⟩ rfl rfl rfl sh_87 ?_
  refine hre _ (fun μ2 hμ2 => ?_)
  exact z_icmp_eq (M := mL_law nm) (tgt := 1357) (by decide +kernel : decode cL_law 1239 = .ok (.if_icmp .eq 118, 3)) (by decide) (fun _ => hN _ hμ2) (fun hn => absurd rfl hn)
set_option maxRecDepth 20000 in
theorem lc_28 (hw : zOk w) (hsc : zSc w L xs) (hL : L ≤ 3072) (hi : 6 * i + 6 ≤ L) (hkc : kc ≤ 1166) (hks : ks ≤ 14508) (hμ : zInM μ) (hN : ∀ μ2, zInM μ2 → zX w (mL_law nm) room_1 Q kc ks 1357 (zLl i) [] μ2) : zX w (mL_law nm) room_1 Q kc ks 1244 (zLl i) [] μ := by
  obtain ⟨I, K, p, s, r, rfl, hs, hps, P, V, d, t, kc', rt, u, bb, T, hm, X, f1, f2, h⟩ := hμ
  refine z_aload_n (M := mL_law nm) (i := 1) (x := 0) (by decide +kernel : decode cL_law 1244 = .ok (.aload_n 1, 1)) rfl ?_
  refine z_arg (j := 1) hsc hL hi (by omega) (by decide +kernel) ?_
  refine z_arg (j := 2) hsc hL hi (by omega) (by decide +kernel) ?_
  refine z_arg (j := 3) hsc hL hi (by omega) (by decide +kernel) ?_
  refine z_cV0 (M := mL_law nm) (M' := mX9_chance) (R' := rX9_chance) (i := 0) [.int (xs (6 * i + 1)), .int (xs (6 * i + 2)), .int (xs (6 * i + 3))] [] eX9_chance k11_149 (by decide +kernel : decode cL_law 1263 = .ok (.invokevirtual 149, 3)) (Nat.le_of_ble_eq_true rfl) ⟨Nat.le_of_ble_eq_true rfl, Nat.le_of_ble_eq_true rfl, hkc, hks, Nat.le_of_ble_eq_true rfl⟩ rfl rfl rfl sh_0 ?_
  refine zXM_ret ?_
  refine pr_chance hw hs hps h (fun a J1 K1 R1 hre hok => ?_)
  obtain ⟨v, rfl⟩ := zRet_i (by decide) hok
  refine z_aload_n (M := mL_law nm) (i := 2) (x := 87) (by decide +kernel : decode cL_law 1266 = .ok (.aload_n 2, 1)) rfl ?_
  refine z_arg (j := 1) hsc hL hi (by omega) (by decide +kernel) ?_
  refine z_arg (j := 2) hsc hL hi (by omega) (by decide +kernel) ?_
  refine z_arg (j := 3) hsc hL hi (by omega) (by decide +kernel) ?_
  refine z_cV0 (M := mL_law nm) (M' := mX10_chance) (R' := rX10_chance) (i := 87) [.int (xs (6 * i + 1)), .int (xs (6 * i + 2)), .int (xs (6 * i + 3))] [.int v] eX10_chance k11_152 (by decide +kernel : decode cL_law 1285 = .ok (.invokevirtual 152, 3)) (Nat.le_of_ble_eq_true rfl) ⟨Nat.le_of_ble_eq_true rfl, Nat.le_of_ble_eq_true rfl, hkc, hks, Nat.le_of_ble_eq_true rfl⟩ rfl rfl rfl sh_87 ?_
  refine hre _ (fun μ2 hμ2 => ?_)
  exact z_icmp_eq (M := mL_law nm) (tgt := 1357) (by decide +kernel : decode cL_law 1288 = .ok (.if_icmp .eq 69, 3)) (by decide) (fun _ => hN _ hμ2) (fun hn => absurd rfl hn)
set_option maxRecDepth 20000 in
theorem lc_29 (hw : zOk w) (hsc : zSc w L xs) (hL : L ≤ 3072) (hi : 6 * i + 6 ≤ L) (hkc : kc ≤ 1166) (hks : ks ≤ 14508) (hμ : zInM μ) (hN : ∀ μ2, zInM μ2 → zX w (mL_law nm) room_1 Q kc ks 1357 (zLl i) [] μ2) : zX w (mL_law nm) room_1 Q kc ks 1293 (zLl i) [] μ := by
  obtain ⟨I, K, p, s, r, rfl, hs, hps, P, V, d, t, kc', rt, u, bb, T, hm, X, f1, f2, h⟩ := hμ
  refine z_aload_n (M := mL_law nm) (i := 1) (x := 0) (by decide +kernel : decode cL_law 1293 = .ok (.aload_n 1, 1)) rfl ?_
  refine z_cV0 (M := mL_law nm) (M' := mX9_undo) (R' := rX9_undo) (i := 0) [] [] eX9_undo k11_153 (by decide +kernel : decode cL_law 1294 = .ok (.invokevirtual 153, 3)) (Nat.le_of_ble_eq_true rfl) ⟨Nat.le_of_ble_eq_true rfl, Nat.le_of_ble_eq_true rfl, hkc, hks, Nat.le_of_ble_eq_true rfl⟩ rfl rfl rfl sh_0 ?_
  refine zXM_ret ?_
  refine pr_undo hs hps h (fun a J1 K1 R1 hre hok => ?_)
  obtain ⟨v, rfl⟩ := zRet_i (by decide) hok
  refine z_aload_n (M := mL_law nm) (i := 2) (x := 87) (by decide +kernel : decode cL_law 1297 = .ok (.aload_n 2, 1)) rfl ?_
  refine z_cV0 (M := mL_law nm) (M' := mX10_undo) (R' := rX10_undo) (i := 87) [] [.int v] eX10_undo k11_156 (by decide +kernel : decode cL_law 1298 = .ok (.invokevirtual 156, 3)) (Nat.le_of_ble_eq_true rfl) ⟨Nat.le_of_ble_eq_true rfl, Nat.le_of_ble_eq_true rfl, hkc, hks, Nat.le_of_ble_eq_true rfl⟩ rfl rfl rfl sh_87 ?_
  refine hre _ (fun μ2 hμ2 => ?_)
  exact z_icmp_eq (M := mL_law nm) (tgt := 1357) (by decide +kernel : decode cL_law 1301 = .ok (.if_icmp .eq 56, 3)) (by decide) (fun _ => hN _ hμ2) (fun hn => absurd rfl hn)
set_option maxRecDepth 20000 in
theorem lc_30 (hw : zOk w) (hsc : zSc w L xs) (hL : L ≤ 3072) (hi : 6 * i + 6 ≤ L) (hkc : kc ≤ 1166) (hks : ks ≤ 14508) (hμ : zInM μ) (hN : ∀ μ2, zInM μ2 → zX w (mL_law nm) room_1 Q kc ks 1357 (zLl i) [] μ2) : zX w (mL_law nm) room_1 Q kc ks 1306 (zLl i) [] μ := by
  obtain ⟨I, K, p, s, r, rfl, hs, hps, P, V, d, t, kc', rt, u, bb, T, hm, X, f1, f2, h⟩ := hμ
  refine z_aload_n (M := mL_law nm) (i := 1) (x := 0) (by decide +kernel : decode cL_law 1306 = .ok (.aload_n 1, 1)) rfl ?_
  refine z_cV0 (M := mL_law nm) (M' := mX9_keep) (R' := rX9_keep) (i := 0) [] [] eX9_keep k11_157 (by decide +kernel : decode cL_law 1307 = .ok (.invokevirtual 157, 3)) (Nat.le_of_ble_eq_true rfl) ⟨Nat.le_of_ble_eq_true rfl, Nat.le_of_ble_eq_true rfl, hkc, hks, Nat.le_of_ble_eq_true rfl⟩ rfl rfl rfl sh_0 ?_
  refine zXM_ret ?_
  refine pr_keep hs hps h (fun a J1 K1 R1 hre hok => ?_)
  obtain ⟨v, rfl⟩ := zRet_i (by decide) hok
  refine z_aload_n (M := mL_law nm) (i := 2) (x := 87) (by decide +kernel : decode cL_law 1310 = .ok (.aload_n 2, 1)) rfl ?_
  refine z_cV0 (M := mL_law nm) (M' := mX10_keep) (R' := rX10_keep) (i := 87) [] [.int v] eX10_keep k11_160 (by decide +kernel : decode cL_law 1311 = .ok (.invokevirtual 160, 3)) (Nat.le_of_ble_eq_true rfl) ⟨Nat.le_of_ble_eq_true rfl, Nat.le_of_ble_eq_true rfl, hkc, hks, Nat.le_of_ble_eq_true rfl⟩ rfl rfl rfl sh_87 ?_
  refine hre _ (fun μ2 hμ2 => ?_)
  exact z_icmp_eq (M := mL_law nm) (tgt := 1357) (by decide +kernel : decode cL_law 1314 = .ok (.if_icmp .eq 43, 3)) (by decide) (fun _ => hN _ hμ2) (fun hn => absurd rfl hn)
set_option maxRecDepth 20000 in
theorem lc_31 (hw : zOk w) (hsc : zSc w L xs) (hL : L ≤ 3072) (hi : 6 * i + 6 ≤ L) (hkc : kc ≤ 1166) (hks : ks ≤ 14508) (hμ : zInM μ) (hN : ∀ μ2, zInM μ2 → zX w (mL_law nm) room_1 Q kc ks 1357 (zLl i) [] μ2) : zX w (mL_law nm) room_1 Q kc ks 1319 (zLl i) [] μ := by
  obtain ⟨I, K, p, s, r, rfl, hs, hps, P, V, d, t, kc', rt, u, bb, T, hm, X, f1, f2, h⟩ := hμ
  refine z_aload_n (M := mL_law nm) (i := 1) (x := 0) (by decide +kernel : decode cL_law 1319 = .ok (.aload_n 1, 1)) rfl ?_
  refine z_cV0 (M := mL_law nm) (M' := mX9_back) (R' := rX9_back) (i := 0) [] [] eX9_back k11_161 (by decide +kernel : decode cL_law 1320 = .ok (.invokevirtual 161, 3)) (Nat.le_of_ble_eq_true rfl) ⟨Nat.le_of_ble_eq_true rfl, Nat.le_of_ble_eq_true rfl, hkc, hks, Nat.le_of_ble_eq_true rfl⟩ rfl rfl rfl sh_0 ?_
  refine zXM_ret ?_
  refine pr_back hs hps h (fun a J1 K1 R1 hre hok => ?_)
  obtain ⟨v, rfl⟩ := zRet_i (by decide) hok
  refine z_aload_n (M := mL_law nm) (i := 2) (x := 87) (by decide +kernel : decode cL_law 1323 = .ok (.aload_n 2, 1)) rfl ?_
  refine z_cV0 (M := mL_law nm) (M' := mX10_back) (R' := rX10_back) (i := 87) [] [.int v] eX10_back k11_164 (by decide +kernel : decode cL_law 1324 = .ok (.invokevirtual 164, 3)) (Nat.le_of_ble_eq_true rfl) ⟨Nat.le_of_ble_eq_true rfl, Nat.le_of_ble_eq_true rfl, hkc, hks, Nat.le_of_ble_eq_true rfl⟩ rfl rfl rfl sh_87 ?_
  refine hre _ (fun μ2 hμ2 => ?_)
  exact z_icmp_eq (M := mL_law nm) (tgt := 1357) (by decide +kernel : decode cL_law 1327 = .ok (.if_icmp .eq 30, 3)) (by decide) (fun _ => hN _ hμ2) (fun hn => absurd rfl hn)
set_option maxRecDepth 20000 in
theorem lc_32 (hw : zOk w) (hsc : zSc w L xs) (hL : L ≤ 3072) (hi : 6 * i + 6 ≤ L) (hkc : kc ≤ 1166) (hks : ks ≤ 14508) (hμ : zInM μ) (hN : ∀ μ2, zInM μ2 → zX w (mL_law nm) room_1 Q kc ks 1357 (zLl i) [] μ2) : zX w (mL_law nm) room_1 Q kc ks 1332 (zLl i) [] μ := by
  obtain ⟨I, K, p, s, r, rfl, hs, hps, P, V, d, t, kc', rt, u, bb, T, hm, X, f1, f2, h⟩ := hμ
  refine z_aload_n (M := mL_law nm) (i := 1) (x := 0) (by decide +kernel : decode cL_law 1332 = .ok (.aload_n 1, 1)) rfl ?_
  refine z_arg (j := 1) hsc hL hi (by omega) (by decide +kernel) ?_
  refine z_cV0 (M := mL_law nm) (M' := mX9_count) (R' := rX9_count) (i := 0) [.int (xs (6 * i + 1))] [] eX9_count k11_165 (by decide +kernel : decode cL_law 1339 = .ok (.invokevirtual 165, 3)) (Nat.le_of_ble_eq_true rfl) ⟨Nat.le_of_ble_eq_true rfl, Nat.le_of_ble_eq_true rfl, hkc, hks, Nat.le_of_ble_eq_true rfl⟩ rfl rfl rfl sh_0 ?_
  refine zXM_ret ?_
  refine pr_count hs hps h (fun a J1 K1 R1 hre hok => ?_)
  obtain ⟨v, rfl⟩ := zRet_i (by decide) hok
  refine z_aload_n (M := mL_law nm) (i := 2) (x := 87) (by decide +kernel : decode cL_law 1342 = .ok (.aload_n 2, 1)) rfl ?_
  refine z_arg (j := 1) hsc hL hi (by omega) (by decide +kernel) ?_
  refine z_cV0 (M := mL_law nm) (M' := mX10_count) (R' := rX10_count) (i := 87) [.int (xs (6 * i + 1))] [.int v] eX10_count k11_168 (by decide +kernel : decode cL_law 1349 = .ok (.invokevirtual 168, 3)) (Nat.le_of_ble_eq_true rfl) ⟨Nat.le_of_ble_eq_true rfl, Nat.le_of_ble_eq_true rfl, hkc, hks, Nat.le_of_ble_eq_true rfl⟩ rfl rfl rfl sh_87 ?_
  refine hre _ (fun μ2 hμ2 => ?_)
  exact z_icmp_eq (M := mL_law nm) (tgt := 1357) (by decide +kernel : decode cL_law 1352 = .ok (.if_icmp .eq 5, 3)) (by decide) (fun _ => hN _ hμ2) (fun hn => absurd rfl hn)
end ZN98zw
