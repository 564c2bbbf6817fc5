/-! ===== FROM THE LAW's ENTRY TO ITS LOOP ===== -/
set_option maxRecDepth 100000 in
set_option maxHeartbeats 4000000 in
theorem lw_pre {p : Program} {e : Env} {s : State} {m : MethodId} {below : List Frame} {meth : Method} {c : Code} (l : Launch) {b L : Nat} {xs : Nat → Int32} (C0 : lw_At p s m meth c b L xs) {D : va_G} {g : Nat → ClassId} {tb : Nat → Nat} (hKn : va_K D vwCl (zTys g) s) (hEx : zEx s.heap.size tb s s.heap)
    (kk : ∀ (J : Nat → Nat → Int32) (H : Heap) (locs : List Loc) (ls : Array Slot), zModel0 zI1 J → zHas (zWd l D g s.heap.size tb true) (zMem0 J) H → va_S (fun q => s.heap.size ≤ q) s.heap H locs → lv_has ls 7 [(0, .ref b), (1, .ref s.heap.size), (2, .ref (s.heap.size + 87)), (3, .ref (s.heap.size + 139)), (4, .int 0)] → W p l e room_1 s m #[Value.ref b] below meth c H locs 140 6304 (lw_Z below #[Value.ref b] s) (F0 m 23 ls [])) : W p l e room_1 s m #[Value.ref b] below meth c s.heap [] 0 0 (lw_Z below #[Value.ref b] s) (entryFrame m ([Value.ref b] : List Value).toArray 7) := by
  obtain ⟨hx, hb, hr, hml, hown, hts0, hX, hbl, hlocks, hgv⟩ := id C0
  have hts : ∀ q ∈ zG, q.before #[Value.ref b] s = true := fun q hq => hts0 q (List.mem_filter.mp hq).1
  have hl := lv_entry ([.ref b]) (n := 7) (Nat.le_of_ble_eq_true rfl)
  rw [lg_entry_eq]
  generalize (lg_sl ([.ref b]) ++ List.replicate (7 - (lg_sl ([.ref b])).length) Slot.unset).toArray = ls at hl ⊢
  have hl : lv_has ls 7 [(0, .ref b)] := hl
  have hS : va_S (zA (zWd l D g s.heap.size tb true)) s.heap s.heap [] := va_S.rf
  have hH : zHas (zWd l D g s.heap.size tb true) (SH.take 0, fun _ _ => 0, fun _ _ => 0, fun _ _ => none) s.heap := ⟨fun k q h => by simp [zW] at h, fun _ => by simp [zWd]⟩
  refine w_new (w := zWd l D g s.heap.size tb true) (ci := 9) hx hb hown hts hKn rfl (by decide +kernel : decode cL_law 0 = .ok (.new 8, 3)) (by decide) (zt1 25 (by decide +kernel) rfl) (zt1 26 (by decide +kernel) rfl) (zt1 1 (by decide +kernel) rfl) (Nat.le_of_ble_eq_true rfl) (Nat.le_of_ble_eq_true rfl) hH hS (fun H hH hS => ?_)
  rw [zNew_take (n := 0) sh_0 (fun _ => rfl) (fun _ => rfl) (fun _ => rfl)] at hH
  refine lv_dup hx hb (by decide +kernel : decode cL_law 3 = .ok (.dup, 1)) rfl ?_
  have hM1 := zMet (w := zWd l D g s.heap.size tb true) (M := mX9_init) (R := rcX9_init) (args := [.ref 0]) (μ := (SH.take 1, fun _ _ => 0, fun _ _ => 0, fun _ _ => none)) (Q := fun v μ' => v = none ∧ ∃ Rf : Nat → Nat → Option Nat, (∀ a, a < 87 → ∀ k, k < 20 → Rf a k = RF 55 71 none a k) ∧ (∀ a, 87 ≤ a → ∀ b, Rf a b = none) ∧ μ' = (SH.take 87, zI1, zL1, Rf)) eX9_init.1 eX9_init.2.1 (Nat.le_of_ble_eq_true rfl) zWd_kp (c_SkyChairs zWd_ok rfl (fun Rf h1 h2 => ⟨rfl, Rf, h1, h2, rfl⟩))
  refine zBack (w := zWd l D g s.heap.size tb true) (R' := rcX9_init) (rest := [.ref s.heap.size]) (va_runI (As := []) (b := s.heap.size) ⟨hx, hb, hml, hown, hts⟩ hM1 (cwI 0 hts (zG_in eX9_init.1) rfl rfl rfl (hts _ eX9_init.2.2.2.1) (hts _ k11_17) (hts _ eX9_init.2.2.1) rfl eX9_init.2.2.2.2.2.2 ⟨Nat.le_of_ble_eq_true rfl, Nat.le_of_ble_eq_true rfl⟩) ⟨zPre_blind zWd_kp, fun U hU hW => zPre_at (w := zWd l D g s.heap.size tb true) (args := [.ref 0]) zWd_kp hKn hEx (Nat.le_refl _) hH hS hU hW⟩ rfl rfl hl.1 rfl (lv_room (Nat.le_of_ble_eq_true rfl)) (by decide +kernel : decode cL_law 4 = .ok (.invokespecial 17, 3)) ⟨Nat.le_of_ble_eq_true rfl, Nat.le_of_ble_eq_true rfl⟩) hS (fun v μ1 H1 locs1 hq hH1 hS1 => ?_)
  obtain ⟨rfl, Rf, hR1, hR2, rfl⟩ := hq
  refine lv_astore_n (lv' := [(1, .ref s.heap.size), (0, .ref b)]) hx hb (by decide +kernel : decode cL_law 7 = .ok (.astore_n 1, 1)) rfl hl (by decide) rfl (fun ls hl => ?_)
  refine w_new (w := zWd l D g s.heap.size tb true) (ci := 10) hx hb hown hts hKn rfl (by decide +kernel : decode cL_law 8 = .ok (.new 18, 3)) (by decide) (zt6 26 (by decide +kernel) rfl) (zt6 27 (by decide +kernel) rfl) (zt1 17 (by decide +kernel) rfl) (Nat.le_of_ble_eq_true rfl) (Nat.le_of_ble_eq_true rfl) hH1 hS1 (fun H2 hH2 hS2 => ?_)
  rw [zNew_take (n := 87) sh_87 (zI1_hi 87 (by decide)) (zL1_hi 87 (by decide)) (hR2 87 (by decide))] at hH2
  refine lv_dup hx hb (by decide +kernel : decode cL_law 11 = .ok (.dup, 1)) rfl ?_
  have hM2 := zMet (w := zWd l D g s.heap.size tb true) (M := mX10_init) (R := rcX10_init) (args := [.ref 87]) (μ := (SH.take 88, zI1, zL1, Rf)) (Q := fun v μ' => v = none ∧ ∃ (J : Nat → Nat → Int32) (R2 : Nat → Nat → Option Nat), zModel0 zI1 J ∧ (∀ k, k < 103 → R2 87 k = RF 0 0 none 87 k) ∧ (∀ a, a ≠ 87 → R2 a = Rf a) ∧ μ' = (SH.take 139, zBegM (zKeepR (zPlainM J)), zu zL1 120 0 (zKeepR (zPlainM J) 102 10).toInt64, R2)) eX10_init.1 eX10_init.2.1 (Nat.le_of_ble_eq_true rfl) zWd_kp (c_Model rfl zI1_hi zL1_hi hR2 (fun J R2 h1 h2 h3 => ⟨rfl, J, R2, h1, h2, h3, rfl⟩))
  have e87 : s.heap.size + (SH.take 87).length = s.heap.size + 87 := by rw [zTk_len (n := 87) sh_87]
  refine zBack (w := zWd l D g s.heap.size tb true) (R' := rcX10_init) (rest := [.ref (s.heap.size + 87)]) (va_runI (As := []) (b := s.heap.size + 87) ⟨hx, hb, hml, hown, hts⟩ hM2 (cwI 0 hts (zG_in eX10_init.1) rfl rfl rfl (hts _ eX10_init.2.2.2.1) (hts _ k11_20) (hts _ eX10_init.2.2.1) rfl eX10_init.2.2.2.2.2.2 ⟨Nat.le_of_ble_eq_true rfl, Nat.le_of_ble_eq_true rfl⟩) ⟨zPre_blind zWd_kp, fun U hU hW => zPre_at (w := zWd l D g s.heap.size tb true) (args := [.ref 87]) zWd_kp hKn hEx (Nat.le_refl _) hH2 hS2 hU hW⟩ rfl rfl hl.1 (by show _ = _; exact congrArg (fun q => [Value.ref q, Value.ref q]) e87) (lv_room (Nat.le_of_ble_eq_true rfl)) (by decide +kernel : decode cL_law 12 = .ok (.invokespecial 20, 3)) ⟨Nat.le_of_ble_eq_true rfl, Nat.le_of_ble_eq_true rfl⟩) hS2 (fun v μ3 H3 locs3 hq3 hH3 hS3 => ?_)
  obtain ⟨rfl, J, R2, hJ, hR3, hR4, rfl⟩ := hq3
  refine lv_astore_n (lv' := [(2, .ref (s.heap.size + 87)), (1, .ref s.heap.size), (0, .ref b)]) hx hb (by decide +kernel : decode cL_law 15 = .ok (.astore_n 2, 1)) rfl hl (by decide) rfl (fun ls hl => ?_)
  refine lv_iconst (v := 1) hx hb (by decide +kernel : decode cL_law 16 = .ok (.iconst 1, 1)) (by decide) ?_
  refine w_newL (w := zWd l D g s.heap.size tb true) hx hb hts hKn rfl (by decide +kernel : decode cL_law 17 = .ok (.newarray .long, 2)) (zt2 86 (by decide +kernel) rfl) (Nat.le_of_ble_eq_true rfl) (Nat.le_of_ble_eq_true rfl) hH3 hS3 (fun H4 hH4 hS4 => ?_)
  have hJ139 : ∀ q, zBegM (zKeepR (zPlainM J)) 139 q = 0 := by
    intro q
    have e1 : zBegM (zKeepR (zPlainM J)) 139 q = J 139 q := by
      simp [zBegM, zBegR, zKeepR, zKeepL, zKeepE, zKeepF, zPlainM, zPlainF, zu_at, zRow_at]
    rw [e1, hJ.1 139 (by decide) (by decide)]
    exact zI1_hi 139 (by decide) q
  rw [zNew_take (n := 139) sh_139 hJ139 (fun q => by rw [zu_at, if_neg (by simp)]; exact zL1_hi 139 (by decide) q) (fun q => by rw [hR4 139 (by decide)]; exact hR2 139 (by decide) q)] at hH4
  have hfull : SH.take 140 = SH := rfl
  rw [hfull] at hH4
  have hcg : zW (zWd l D g s.heap.size tb true) (SH, zBegM (zKeepR (zPlainM J)), zu zL1 120 0 (zKeepR (zPlainM J) 102 10).toInt64, R2) = zW (zWd l D g s.heap.size tb true) (zMem0 J) := by
    refine zW_congR (fun i ci hi k hk => ?_)
    have hi140 : i < 140 := (List.getElem?_eq_some_iff.mp hi).1
    by_cases h1 : i < 87
    · rw [hR4 i (by omega)]
      exact hR1 i h1 k (Nat.lt_of_lt_of_le hk (zSH_small i h1 ci hi))
    · by_cases h2 : i = 87
      · subst h2
        have hc : ci = 10 := by have := hi.symm.trans sh_87; simpa using this
        subst hc
        rw [hR3 k hk]
        rfl
      · exact absurd hi (zSH_obj i (by omega) hi140 ci)
  have hH5 : zHas (zWd l D g s.heap.size tb true) (zMem0 J) H4 := ⟨by rw [← hcg]; exact hH4.1, hH4.2⟩
  have e139 : s.heap.size + (SH.take 139).length = s.heap.size + 139 := by rw [zTk_len (n := 139) sh_139]
  have go : W p l e room_1 s m #[Value.ref b] below meth c H4 locs3 140 6304 (lw_Z below #[Value.ref b] s) (F0 m 19 ls [.ref (s.heap.size + 139)]) := by
    refine lv_astore_n (lv' := [(3, .ref (s.heap.size + 139)), (2, .ref (s.heap.size + 87)), (1, .ref s.heap.size), (0, .ref b)]) hx hb (by decide +kernel : decode cL_law 19 = .ok (.astore_n 3, 1)) rfl hl (by decide) rfl (fun ls hl => ?_)
    refine lv_iconst (v := 0) hx hb (by decide +kernel : decode cL_law 20 = .ok (.iconst 0, 1)) (by decide) ?_
    refine lv_istore (lv' := [(4, .int 0), (3, .ref (s.heap.size + 139)), (2, .ref (s.heap.size + 87)), (1, .ref s.heap.size), (0, .ref b)]) hx hb (by decide +kernel : decode cL_law 21 = .ok (.istore 4, 2)) hl (by decide) rfl (fun ls hl => ?_)
    exact kk J H4 locs3 ls hJ hH5 hS4 (lv_sub hl [4, 3, 2, 1, 0] rfl)
  rw [← e139] at go
  exact go
