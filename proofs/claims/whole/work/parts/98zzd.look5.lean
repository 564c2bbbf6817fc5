/-! ===== LOOK: the law's case 4 (written by gen4.py) ===== -/
section ZN98zzd
variable {w : zP} {x y : Int32} {n len : Nat} {xs : Nat → Int32} {nm : String}
theorem yK39 : Cond.methodLink RL 39 yL_look ∈ zG := zt5 175 (by decide +kernel) rfl
theorem oIn_f (h : ¬ oIn x n = true) : x < 0 ∨ ¬ x < nI n := by
  by_cases a : x < 0
  · exact Or.inl a
  · right
    intro b
    apply h
    unfold oIn
    rw [decide_eq_false a, decide_eq_false (Int32.not_le.mpr b)]
    rfl
theorem oIn_y (h : ¬ oIn y 5 = true) : y.toInt < 0 ∨ 4 < y.toInt := by
  rcases oIn_f h with a | a
  · left
    rw [Int32.lt_iff_toInt_lt] at a
    exact a
  · right
    rw [Int32.lt_iff_toInt_lt, nI_toInt (by omega)] at a
    omega
set_option maxRecDepth 20000 in
theorem look_ok (hsc : zSc w len xs) (hL : len ≤ 3072) (hfl : zfl w = false) (hst : (zl w).stackTraces = false) (hTh : zTh w) : zLookOk w nm len xs := by
  intro Q kc ks i μ hi hkc hks hμ hN
  obtain ⟨I, K, p, s, r, rfl, hs, hps, P, V, d, t, kd, rt, u, bb, T, hm, X, f1, f2, h⟩ := hμ
  have hch : pCh P ≤ 40 := h.2.1.1.1
  have hI8 : I 10 8 = nI (pCh P) := h.1.2.2.2.2.1.1.2.1
  have fin : ∀ (k v : Int32) (μ2 : zMem), zInM μ2 → zX w (mL_law nm) room_1 Q (kc + 1) (ks + 6) 413 [(0, .float 50), (1, .ref 0), (2, .ref 87), (3, .ref 139), (4, .int (nI (6 * i))), (5, .int k), (6, .int v)] [] μ2 := by
    intro k v μ2 h2
    refine z_goto (M := mL_law nm) (tgt := 1357) (by decide +kernel : decode cL_law 413 = .ok (.goto 944, 3)) (by decide) ?_
    refine zX.sub (lv' := zLl i) (fun q hq => ?_) (hN (kc + 1) (ks + 6) μ2 (by omega) (by omega) h2)
    simp only [zLl, List.mem_cons, List.not_mem_nil, or_false] at hq ⊢
    rcases hq with rfl | rfl | rfl | rfl | rfl <;> simp
  have tail : ∀ (k v : Int32) (I2 : Nat → Nat → Int32) (K2 : Nat → Nat → Int64), I2 87 2 = k → (k = 0 → K2 139 0 = v.toInt64) → zInM (SH, I2, K2, RF p s r) → zX w (mL_law nm) room_1 Q (kc + 1) (ks + 6) 385 [(0, .float 50), (1, .ref 0), (2, .ref 87), (3, .ref 139), (4, .int (nI (6 * i))), (5, .int k), (6, .int v)] [] (SH, I2, K2, RF p s r) := by
    intro k v I2 K2 hk hv hz
    refine z_aload_n (M := mL_law nm) (i := 2) (x := 87) (by decide +kernel : decode cL_law 385 = .ok (.aload_n 2, 1)) rfl ?_
    refine z_cV0 (M := mL_law nm) (M' := mX10_thrown) (R' := rX10_thrown) (i := 87) [] [] eX10_thrown k11_45 (by decide +kernel : decode cL_law 386 = .ok (.invokevirtual 45, 3)) (Nat.le_of_ble_eq_true rfl) ⟨Nat.le_of_ble_eq_true rfl, Nat.le_of_ble_eq_true rfl, by show kc + 1 ≤ 1166; omega, by show ks + 6 ≤ 14508; omega, Nat.le_of_ble_eq_true rfl⟩ rfl rfl rfl sh_87 ?_
    refine mo_thrown ?_
    rw [hk]
    refine z_iload (M := mL_law nm) (x := k) (by decide +kernel : decode cL_law 389 = .ok (.iload 5, 2)) rfl ?_
    refine z_icmp_eq (M := mL_law nm) (tgt := 396) (by decide +kernel : decode cL_law 391 = .ok (.if_icmp .eq 5, 3)) (by decide) (fun _ => ?_) (fun hn => absurd rfl hn)
    refine z_iload (M := mL_law nm) (x := k) (by decide +kernel : decode cL_law 396 = .ok (.iload 5, 2)) rfl ?_
    refine z_if_ne (M := mL_law nm) (tgt := 413) (by decide +kernel : decode cL_law 398 = .ok (.ifCond .ne 15, 3)) (by decide) (fun _ => fin k v _ hz) (fun h0 => ?_)
    refine z_aload_n (M := mL_law nm) (i := 3) (x := 139) (by decide +kernel : decode cL_law 401 = .ok (.aload_n 3, 1)) rfl ?_
    refine z_iconst (M := mL_law nm) (by decide +kernel : decode cL_law 402 = .ok (.iconst 0, 1)) ?_
    refine z_lald (M := mL_law nm) (i := 139) (n := 1) (by decide +kernel : decode cL_law 403 = .ok (.laload, 1)) sh_139 (zvn (j := 0) (by omega) (by omega)) ?_
    refine z_iload (M := mL_law nm) (x := v) (by decide +kernel : decode cL_law 404 = .ok (.iload 6, 2)) rfl ?_
    refine z_i2l (M := mL_law nm) (by decide +kernel : decode cL_law 406 = .ok (.i2l, 1)) ?_
    refine z_lcmp (M := mL_law nm) (by decide +kernel : decode cL_law 407 = .ok (.lcmp, 1)) ?_
    exact z_if_eq (M := mL_law nm) (tgt := 413) (by decide +kernel : decode cL_law 408 = .ok (.ifCond .eq 5, 3)) (by decide) (fun _ => fin k v _ hz) (fun hn => absurd (by rw [lc_eq]; exact hv h0) hn)
  have mid : ∀ (k : Int32) (K1 : Nat → Nat → Int64), (∀ a b, ¬ sC a → K1 a b = K a b) → ((k = 1 ∧ oIn (xs (6 * i + 1)) (pCh P) = false) ∨ (k = 2 ∧ oIn (xs (6 * i + 1)) (pCh P) = true ∧ oIn (xs (6 * i + 2)) 5 = false) ∨ (k = 0 ∧ ∃ c j, xs (6 * i + 1) = nI c ∧ c < pCh P ∧ xs (6 * i + 2) = nI j ∧ j < 5 ∧ K1 139 0 = (V (j + 1) c).toInt64)) → zX w (mL_law nm) room_1 Q (kc + 1) (ks + 6) 365 (zLl i) [.int k] (SH, I, K1, RF p s r) := by
    intro k K1 hK1 hk
    have h1 := zIw_c (J := I) (K := K1) (fun _ _ _ => rfl) hK1 h
    have hin : ∀ v, zInM (SH, zu I 87 2 v, K1, RF p s r) := fun v => zIw_inv hs hps (zIw_r (J := zu I 87 2 v) (K := K1) (fun a b hn => by rw [zu_at, if_neg (by unfold sR at hn; omega)]) (fun _ _ _ => rfl) h1)
    refine z_istore (M := mL_law nm) (i := 5) (by decide +kernel : decode cL_law 365 = .ok (.istore 5, 2)) (Nat.le_of_ble_eq_true rfl) ?_
    show zX _ _ _ _ _ _ 367 [(0, .float 50), (1, .ref 0), (2, .ref 87), (3, .ref 139), (4, .int (nI (6 * i))), (5, .int k)] [] _
    refine z_aload_n (M := mL_law nm) (i := 2) (x := 87) (by decide +kernel : decode cL_law 367 = .ok (.aload_n 2, 1)) rfl ?_
    refine z_argG (j := 1) hsc hL hi (by omega) (by decide +kernel) rfl rfl ?_
    refine z_argG (j := 2) hsc hL hi (by omega) (by decide +kernel) rfl rfl ?_
    refine z_cV0 (M := mL_law nm) (M' := mX10_look) (R' := rX10_look) (i := 87) [.int (xs (6 * i + 1)), .int (xs (6 * i + 2))] [] eX10_look k11_44 (by decide +kernel : decode cL_law 380 = .ok (.invokevirtual 44, 3)) (Nat.le_of_ble_eq_true rfl) ⟨Nat.le_of_ble_eq_true rfl, Nat.le_of_ble_eq_true rfl, by show kc + 1 ≤ 1166; omega, by show ks + 6 ≤ 14508; omega, Nat.le_of_ble_eq_true rfl⟩ rfl rfl rfl sh_87 ?_
    refine mo_look h1.2.1 (fun hb => ?_) (fun hb hb2 => ?_) (fun c j ex hc ey hj => ?_)
    · refine z_istore (M := mL_law nm) (i := 6) (by decide +kernel : decode cL_law 383 = .ok (.istore 6, 2)) (Nat.le_of_ble_eq_true rfl) ?_
      refine tail k 0 (zu I 87 2 1) K1 ?_ ?_ (hin 1)
      · rcases hk with ⟨e, -⟩ | ⟨-, e, -⟩ | ⟨-, c, j, ex, hc, -⟩
        · rw [e]; simp [zu_at]
        · rw [hb] at e; cases e
        · rw [ex, oIn_q hc (by omega)] at hb; cases hb
      · intro e0
        rcases hk with ⟨e, -⟩ | ⟨-, e, -⟩ | ⟨-, c, j, ex, hc, -⟩
        · rw [e] at e0; exact absurd e0 (by decide)
        · rw [hb] at e; cases e
        · rw [ex, oIn_q hc (by omega)] at hb; cases hb
    · refine z_istore (M := mL_law nm) (i := 6) (by decide +kernel : decode cL_law 383 = .ok (.istore 6, 2)) (Nat.le_of_ble_eq_true rfl) ?_
      refine tail k 0 (zu I 87 2 2) K1 ?_ ?_ (hin 2)
      · rcases hk with ⟨-, e⟩ | ⟨e, -⟩ | ⟨-, c, j, -, -, ey, hj, -⟩
        · rw [hb] at e; cases e
        · rw [e]; simp [zu_at]
        · rw [ey, oIn_q hj (by omega)] at hb2; cases hb2
      · intro e0
        rcases hk with ⟨-, e⟩ | ⟨e, -⟩ | ⟨-, c, j, -, -, ey, hj, -⟩
        · rw [hb] at e; cases e
        · rw [e] at e0; exact absurd e0 (by decide)
        · rw [ey, oIn_q hj (by omega)] at hb2; cases hb2
    · refine z_istore (M := mL_law nm) (i := 6) (by decide +kernel : decode cL_law 383 = .ok (.istore 6, 2)) (Nat.le_of_ble_eq_true rfl) ?_
      refine tail k (V (j + 1) c) (zu I 87 2 0) K1 ?_ ?_ (hin 0)
      · rcases hk with ⟨-, e⟩ | ⟨-, -, e⟩ | ⟨e, -⟩
        · rw [ex, oIn_q hc (by omega)] at e; cases e
        · rw [ey, oIn_q hj (by omega)] at e; cases e
        · rw [e]; simp [zu_at]
      · intro _
        rcases hk with ⟨-, e⟩ | ⟨-, -, e⟩ | ⟨-, c2, j2, ex2, hc2, ey2, hj2, e⟩
        · rw [ex, oIn_q hc (by omega)] at e; cases e
        · rw [ey, oIn_q hj (by omega)] at e; cases e
        · have e1 : c = c2 := (nI_eq (by omega) (by omega)).mp (ex.symm.trans ex2)
          have e2 : j = j2 := (nI_eq (by omega) (by omega)).mp (ey.symm.trans ey2)
          rw [e1, e2]; exact e
  refine z_aload_n (M := mL_law nm) (i := 1) (x := 0) (by decide +kernel : decode cL_law 348 = .ok (.aload_n 1, 1)) rfl ?_
  refine z_arg (j := 1) hsc hL hi (by omega) (by decide +kernel) ?_
  refine z_arg (j := 2) hsc hL hi (by omega) (by decide +kernel) ?_
  refine z_aload_n (M := mL_law nm) (i := 3) (x := 139) (by decide +kernel : decode cL_law 361 = .ok (.aload_n 3, 1)) rfl ?_
  by_cases hxo : oIn (xs (6 * i + 1)) (pCh P) = true
  · obtain ⟨c, hc, ex⟩ := oIn_t hxo (by omega)
    by_cases hyo : oIn (xs (6 * i + 2)) 5 = true
    · obtain ⟨j, hj, ey⟩ := oIn_t hyo (by omega)
      refine z_cSW (M := mL_law nm) (Q' := fun v μ' => v = some (.int 0) ∧ μ' = (SH, I, zu K 139 0 (V (j + 1) c).toInt64, RF p s r)) (As := [.ref 0, .int (xs (6 * i + 1)), .int (xs (6 * i + 2)), .ref 139]) (rest := []) (by decide +kernel : decode cL_law 362 = .ok (.invokestatic 39, 3)) (fun hKp => by rw [ex, ey]; exact yLook_good h.1 hc hj hKp ⟨rfl, rfl⟩) (fun v μ' hq => ?_) rfl yK39 ⟨Nat.le_of_ble_eq_true rfl, Nat.le_of_ble_eq_true rfl, by show kc + 1 ≤ 1166; omega, by show ks + 6 ≤ 14508; omega, Nat.le_of_ble_eq_true rfl⟩ rfl
      obtain ⟨rfl, rfl⟩ := hq
      exact mid 0 _ (fun a b hn => by rw [zu_at, if_neg (by unfold sC at hn; omega)]) (Or.inr (Or.inr ⟨rfl, c, j, ex, hc, ey, hj, by simp [zu_at]⟩))
    · refine z_cSW (M := mL_law nm) (Q' := fun v μ' => v = some (.int 2) ∧ μ' = (SH, I, K, RF p s r)) (As := [.ref 0, .int (xs (6 * i + 1)), .int (xs (6 * i + 2)), .ref 139]) (rest := []) (by decide +kernel : decode cL_law 362 = .ok (.invokestatic 39, 3)) (fun hKp => yLook_bad (E0 := yNo) hfl hst hTh hKp hI8 (Or.inr ⟨rfl, by rw [ex]; exact nI_nn (by omega), by rw [ex, zlt_nat (by omega) (by omega)]; exact hc, oIn_y hyo⟩) (fun z => absurd z (by decide)) (fun _ => ⟨rfl, rfl⟩)) (fun v μ' hq => ?_) rfl yK39 ⟨Nat.le_of_ble_eq_true rfl, Nat.le_of_ble_eq_true rfl, by show kc + 1 ≤ 1166; omega, by show ks + 6 ≤ 14508; omega, Nat.le_of_ble_eq_true rfl⟩ rfl
      obtain ⟨rfl, rfl⟩ := hq
      exact mid 2 _ (fun _ _ _ => rfl) (Or.inr (Or.inl ⟨rfl, hxo, by simpa using hyo⟩))
  · refine z_cSW (M := mL_law nm) (Q' := fun v μ' => v = some (.int 1) ∧ μ' = (SH, I, K, RF p s r)) (As := [.ref 0, .int (xs (6 * i + 1)), .int (xs (6 * i + 2)), .ref 139]) (rest := []) (by decide +kernel : decode cL_law 362 = .ok (.invokestatic 39, 3)) (fun hKp => yLook_bad (E0 := yIo) hfl hst hTh hKp hI8 (Or.inl ⟨rfl, oIn_f hxo⟩) (fun _ => ⟨rfl, rfl⟩) (fun z => absurd z (by decide))) (fun v μ' hq => ?_) rfl yK39 ⟨Nat.le_of_ble_eq_true rfl, Nat.le_of_ble_eq_true rfl, by show kc + 1 ≤ 1166; omega, by show ks + 6 ≤ 14508; omega, Nat.le_of_ble_eq_true rfl⟩ rfl
    obtain ⟨rfl, rfl⟩ := hq
    exact mid 1 _ (fun _ _ _ => rfl) (Or.inl ⟨rfl, by simpa using hxo⟩)
end ZN98zzd
