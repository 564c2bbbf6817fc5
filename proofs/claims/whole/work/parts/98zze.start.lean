/-! ===== THE START: the loop's world, which knows what throws need ===== -/
def zWm (l : Launch) (D : va_G) (g : Nat → ClassId) (b : Nat) (tb : Nat → Nat) (L : Nat) (xs : Nat → Int32) : zP := (l, D, g, b, tb, false, fun U H => (zEx b tb U H ∧ tb 50 < b ∧ va_X (tb 50) L xs U H) ∧ yTh b U H)
section ZN98zze
variable {l : Launch} {D : va_G} {g : Nat → ClassId} {b : Nat} {tb : Nat → Nat} {L : Nat} {xs : Nat → Int32}
theorem zWm_ok : zOk (zWm l D g b tb L xs) := fun _ _ h => h.1.1
theorem zWm_sc : zSc (zWm l D g b tb L xs) L xs := fun _ _ h => h.1.2
theorem zWm_th : zTh (zWm l D g b tb L xs) := fun _ _ h => h.2
theorem zWm_kp : zKp (zWm l D g b tb L xs) := by
  have h0 := zWl_kp (l := l) (D := D) (g := g) (b := b) (tb := tb) (L := L) (xs := xs)
  exact ⟨fun u U H hv h => ⟨h0.1 u U H hv h.1, yTh_same hv h.2⟩, fun u U H hW h => ⟨h0.2.1 u U H hW h.1, yTh_warm hW h.2⟩, fun U H H1 hq h => ⟨h0.2.2 U H H1 hq h.1, yTh_kept hq h.2⟩⟩
set_option maxRecDepth 100000 in
theorem yBad_in : ∀ q ∈ yBad, q ∈ lw_tbl := by decide +kernel
set_option maxRecDepth 100000 in
set_option maxHeartbeats 4000000 in
theorem yTh_given {p : Program} {s : State} {m : MethodId} {meth : Method} {c : Code} {b L : Nat} {xs : Nat → Int32} (C0 : lw_At p s m meth c b L xs) : yTh s.heap.size s s.heap := by
  obtain ⟨hx, hb, hr, hml, hown, hts, hX, hbl, hlocks, hgv⟩ := id C0
  have hs := flat_of_before _ hgv
  have hA2 : ∀ a : Nat, a < s.heap.size → ¬ s.heap.size ≤ a := fun a h => Nat.not_le.mpr h
  have e1 : (Cond.exactly (.string "SkyChairs" 131) "java/lang/String").before #[Value.ref b] s = true := hs _ (by decide +kernel)
  have e2 : (Cond.exactly (.string "SkyChairs" 154) "java/lang/String").before #[Value.ref b] s = true := hs _ (by decide +kernel)
  obtain ⟨a1, _, _, _, v1, -⟩ := Cond.exactly_spec e1
  obtain ⟨a2, _, _, _, v2, -⟩ := Cond.exactly_spec e2
  refine ⟨fun q hq => va_Nw.of (yBad_on hq) (hts q (yBad_in q hq)), ?_, ?_, ⟨a1, vk_R.of (A := #[Value.ref b]) (hts _ (by decide +kernel)) v1⟩, ⟨a2, vk_R.of (A := #[Value.ref b]) (hts _ (by decide +kernel)) v2⟩, va_Nc.of (hs (.not (.castable yNo yIo)) (by decide +kernel))⟩
  · exact vx_Zqof (hts (.laysStatic Bundle.tN "UNASSIGNED_STACK" Bundle.steD) (by decide +kernel)) (hts (.initialized Bundle.tN) (by decide +kernel)) (hs (.isRef (.static Bundle.tN "UNASSIGNED_STACK" Bundle.steD)) (by decide +kernel)) hA2
  · exact vx_Zqof (hts (.laysStatic Bundle.tN "SUPPRESSED_SENTINEL" Bundle.listD) (by decide +kernel)) (hts (.initialized Bundle.tN) (by decide +kernel)) (hs (.isRef (.static Bundle.tN "SUPPRESSED_SENTINEL" Bundle.listD)) (by decide +kernel)) hA2
theorem whole_start {p : Program} {e : Env} {s : State} {m : MethodId} {below : List Frame} {meth : Method} {c : Code} (l : Launch) (hst : l.stackTraces = false) {b L : Nat} {xs : Nat → Int32} (hL : L ≤ 3072) (C0 : lw_At p s m meth c b L xs) : W p l e room_1 s m #[Value.ref b] below meth c s.heap [] 0 0 (lw_Z below #[Value.ref b] s) (entryFrame m ([Value.ref b] : List Value).toArray 7) := by
  obtain ⟨D, g, tb, hKn, hEx, htb⟩ := lw_given C0
  have hTh := yTh_given C0
  refine lw_pre l C0 hKn hEx (fun J H locs ls hJ hH hS hl => ?_)
  obtain ⟨hx, hb, hr, hml, hown, hts0, hX, hbl, hlocks, hgv⟩ := id C0
  have hts : ∀ q ∈ zG, q.before #[Value.ref b] s = true := fun q hq => hts0 q (List.mem_filter.mp hq).1
  have C : zCx (zWm l D g s.heap.size tb L xs) (mL_law meth.name) p s m #[Value.ref b] meth c := ⟨hx, hb, hml, hown, hts, hKn, ⟨⟨hEx, by rw [htb]; exact hbl, by rw [htb]; exact hX⟩, hTh⟩, Nat.le_refl _, hlocks, hr, rfl⟩
  have hloop := lw_loop (w := zWm l D g s.heap.size tb L xs) (nm := meth.name) zWm_ok zWm_sc hL (look_ok zWm_sc hL rfl hst zWm_th) 512 0 140 6304 (zMem0 J) (by omega) (by omega) (by omega) (inv_0 hJ)
  refine hloop p e s m #[Value.ref b] below meth c (lw_Z below #[Value.ref b] s) C zWm_kp ?_ H locs ls ⟨hH.1, fun h => by cases h⟩ hS ?_
  · intro v μ' H' locs' kc' ks' pc' ls' hq hok hH' hS' hkc hks hd
    subst hq
    refine W.widen (k := 1166) (n := 14508) hkc hks ?_
    refine va_forget (fun q hq => hS'.2.2 q hq) ?_
    exact lw_ret hx hb hr hlocks hd
  · rw [← htb] at hl
    exact hl
end ZN98zze
