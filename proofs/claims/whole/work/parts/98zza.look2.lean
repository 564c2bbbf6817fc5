/-! ===== LOOK: what a throw rests on; the class's look throws ===== -/
def yTh (b : Nat) (U : State) (H : Heap) : Prop :=
  (∀ q ∈ yBad, va_Nw q U) ∧ vx_Zq Bundle.tN "UNASSIGNED_STACK" Bundle.steD (fun q => b ≤ q) U H ∧ vx_Zq Bundle.tN "SUPPRESSED_SENTINEL" Bundle.listD (fun q => b ≤ q) U H ∧ (∃ a : Nat, vk_R "SkyChairs" 131 "no such chair" a U) ∧ (∃ a : Nat, vk_R "SkyChairs" 154 "no such what" a U) ∧ va_Nc yNo yIo U
theorem yBad_on {q : Cond} (hq : q ∈ yBad) : q.onTables = true := by
  simp only [yBad, List.mem_cons, List.not_mem_nil, or_false] at hq
  rcases hq with rfl | rfl | rfl | rfl | rfl <;> rfl
theorem yBad_warm {s U : State} (hW : s.WarmedH U.vm) (h : ∀ q ∈ yBad, va_Nw q s) : ∀ q ∈ yBad, va_Nw q U := by
  intro q hq
  have h1 := h q hq
  simp only [yBad, List.mem_cons, List.not_mem_nil, or_false] at hq
  rcases hq with rfl | rfl | rfl | rfl | rfl <;> first | exact va_Nw.warmC hW h1 | exact va_Nw.warmD hW h1
theorem yTh_same {b : Nat} {u U : State} {H : Heap} (hv : u.vm = U.vm) (h : yTh b u H) : yTh b U H := by
  have ha : u.vm.Alike U.vm := by rw [hv]; exact Vm.Alike.refl _
  obtain ⟨h1, h2, h3, ⟨a, h4⟩, ⟨a2, h5⟩, h6⟩ := h
  exact ⟨fun q hq => va_Nw.same (yBad_on hq) hv (h1 q hq), h2.moved ha, h3.moved ha, ⟨a, h4.same hv.symm⟩, ⟨a2, h5.same hv.symm⟩, h6.moved ha⟩
theorem yTh_warm {b : Nat} {u U : State} {H : Heap} (hW : u.WarmedH U.vm) (h : yTh b u H) : yTh b U H := by
  have ha : u.vm.Alike U.vm := hW.alike
  obtain ⟨h1, h2, h3, ⟨a, h4⟩, ⟨a2, h5⟩, h6⟩ := h
  exact ⟨yBad_warm hW h1, h2.moved ha, h3.moved ha, ⟨a, h4.warm hW⟩, ⟨a2, h5.warm hW⟩, h6.moved ha⟩
theorem yTh_kept {b : Nat} {U : State} {H H1 : Heap} (hq : ∀ a : Nat, a < H.size → ¬ b ≤ a → H1[a]? = H[a]?) (h : yTh b U H) : yTh b U H1 := by
  obtain ⟨h1, h2, h3, h4, h5, h6⟩ := h
  exact ⟨h1, h2.kept hq, h3.kept hq, h4, h5, h6⟩
/-- a world that knows what throws need -/
def zTh (w : zP) : Prop := ∀ (U : State) (H : Heap), zex w U H → yTh (zb w) U H
theorem yHat {ws : List Cond} {args : Array Value} {s : State} (hW : ws.all (fun w => decide (w ∈ yBad) || (goodWord w && decide (w ∈ lw_tbl))) = true) (hts : ∀ q ∈ zG, q.before args s = true) (hB : ∀ q ∈ yBad, va_Nw q s) : ∀ w ∈ ws, w.before args s = true ∧ vx_ot w = true := by
  intro w hw
  have h := List.all_eq_true.mp hW w hw
  simp only [Bool.or_eq_true, Bool.and_eq_true, decide_eq_true_eq] at h
  rcases h with h | ⟨h1, h2⟩
  · exact ⟨va_Nw.use (yBad_on h) (hB w h), by unfold vx_ot; rw [yBad_on h]; rfl⟩
  · exact ⟨hts w (List.mem_filter.mpr ⟨h2, h1⟩), by unfold vx_ot; rw [h1]; simp⟩
def yR9 : Room := { frames := 6, cells := 1, slots := 6, locals := 82 }
def yXC (w : zP) (E0 : String) (μ : zMem) : String → State → State → Prop := fun E st t => E = E0 ∧ zHas w μ t.heap ∧ va_F (zA w) st t
section ZN98zza
variable {w : zP} {I : Nat → Nat → Int32} {L : Nat → Nat → Int64} {pp ss : Nat} {rr : Option Nat} {x y : Int32} {n : Nat} {E0 : String}
set_option maxRecDepth 20000 in
set_option maxHeartbeats 1000000 in
theorem yMet (hfl : zfl w = false) (hst : (zl w).stackTraces = false) (hTh : zTh w) (hI : I 10 8 = nI n) (hE : (E0 = yIo ∧ (x < 0 ∨ ¬ x < nI n)) ∨ (E0 = yNo ∧ ¬ x < 0 ∧ x < nI n ∧ (y.toInt < 0 ∨ 4 < y.toInt))) : vx_Met (zl w) mX9_look.2.1 (zCode mX9_look :: zG) yR9 (zPre w [.ref 0, .int x, .int y] (SH, I, L, RF pp ss rr)) (fun _ _ _ _ => False) (yXC w E0 (SH, I, L, RF pp ss rr)) 1 6 (zA w) := by
  refine vx_ofW (cc := cX9_look) (maxL := 3) (ret := some .int) (by decide +kernel) rfl ?_
  intro p e s m args' below meth c s₁ B hml hno hv
  obtain ⟨rfl, hH, hKn, hex, hb0⟩ := hv
  have hx := B.exec
  have hb := B.bytes
  have hr := B.returns
  have hts0 := atoms_spec (ws := zCode mX9_look :: zG) B.pre
  have hts : ∀ q ∈ zG, q.before _ s = true := fun q hq => hts0 q (List.mem_cons_of_mem _ hq)
  have hown : s.vm.findClass mX9_look.2.1.cls = some m.cls := findClass_of_methodNamed B.named
  have hlocks := B.notSynchronized
  have hl := lv_entry (([.ref 0, .int x, .int y] : List Value).map (zCv w)) (n := 3) (by rw [zSlots]; exact Nat.le_of_ble_eq_true rfl)
  rw [lg_entry_eq]
  generalize (lg_sl (([.ref 0, .int x, .int y] : List Value).map (zCv w)) ++ List.replicate (3 - (lg_sl (([.ref 0, .int x, .int y] : List Value).map (zCv w))).length) Slot.unset).toArray = ls at hl ⊢
  rw [zArgs] at hl
  obtain ⟨t1, t2, t3, ⟨sa1, t4⟩, ⟨sa2, t5⟩, t6⟩ := hTh s s.heap hex
  have hF : ∀ t : State, s.vm.Alike t.vm → s.heap.size ≤ t.heap.size → (∀ q : Nat, q < s.heap.size → t.heap[q]? = s.heap[q]?) → zHas w (SH, I, L, RF pp ss rr) t.heap ∧ va_F (zA w) s t := fun t _ h1 h2 => ⟨⟨hH.1.kept (fun k z hz => h2 z.1 ((hH.1 k z hz).lt)), fun h => by rw [hfl] at h; cases h⟩, h1, fun q hq _ => h2 q hq⟩
  have hout : ∀ k, ∀ z ∈ c.exceptionTable.toList, covers z k = false := fun k z hz => (hno z hz).elim
  have thr1 : E0 = yIo → W p (zl w) e yR9 s m _ below meth c s.heap [] 0 0 (vx_MQ below (fun _ _ _ _ => False) (yXC w E0 (SH, I, L, RF pp ss rr)) _ s 1 6 (zA w)) (F0 m 15 ls []) := fun e0 => by
    have hat := yHat yW1 hts t1
    exact y_throwS (cc := cX9_look) hx hb hst (own := "SkyChairs") (cls := yIo) (nm := yRt) (text := "no such chair") (names := yNx) (ik := 129) (is := 131) (ic := 133) (ix := 7) (rx := yB7) (A := zA w) (sa := sa1) (by decide +kernel) (by decide +kernel) (by decide +kernel) (by decide +kernel) hown (by decide +kernel) (by decide +kernel) (by decide +kernel) (hat _ List.mem_cons_self).1 (hat _ (List.mem_cons_of_mem _ List.mem_cons_self)).1 t4 (fun z hz => (hat z (List.mem_cons_of_mem _ (List.mem_cons_of_mem _ hz))).1) (fun z hz => (hat z hz).2) t2 t3 va_S.rf (hl.1.trans hml.symm) (by decide +kernel) (by decide +kernel) (by decide +kernel) (by decide +kernel) (by decide +kernel) (hout _) (Nat.le_of_ble_eq_true rfl) (Nat.le_of_ble_eq_true rfl) (Nat.le_of_ble_eq_true rfl) (Nat.le_of_ble_eq_true rfl) hlocks (fun t h1 h2 h3 => ⟨e0.symm, hF t h1 h2 h3⟩) (fun z hz => nomatch hz) (Nat.le_refl _) (Nat.le_refl _)
  have thr2 : E0 = yNo → W p (zl w) e yR9 s m _ below meth c s.heap [] 0 0 (vx_MQ below (fun _ _ _ _ => False) (yXC w E0 (SH, I, L, RF pp ss rr)) _ s 1 6 (zA w)) (F0 m 110 ls []) := fun e0 => by
    have hat := yHat yW2 hts t1
    exact y_throwS (cc := cX9_look) hx hb hst (own := "SkyChairs") (cls := yNo) (nm := yRt) (text := "no such what") (names := yNx) (ik := 152) (is := 154) (ic := 156) (ix := 13) (rx := yB13) (A := zA w) (sa := sa2) (by decide +kernel) (by decide +kernel) (by decide +kernel) (by decide +kernel) hown (by decide +kernel) (by decide +kernel) (by decide +kernel) (hat _ List.mem_cons_self).1 (hat _ (List.mem_cons_of_mem _ List.mem_cons_self)).1 t5 (fun z hz => (hat z (List.mem_cons_of_mem _ (List.mem_cons_of_mem _ hz))).1) (fun z hz => (hat z hz).2) t2 t3 va_S.rf (hl.1.trans hml.symm) (by decide +kernel) (by decide +kernel) (by decide +kernel) (by decide +kernel) (by decide +kernel) (hout _) (Nat.le_of_ble_eq_true rfl) (Nat.le_of_ble_eq_true rfl) (Nat.le_of_ble_eq_true rfl) (Nat.le_of_ble_eq_true rfl) hlocks (fun t h1 h2 h3 => ⟨e0.symm, hF t h1 h2 h3⟩) (fun z hz => nomatch hz) (Nat.le_refl _) (Nat.le_refl _)
  -- the walk to them
  have q0 : ls[((0 : Fin 4) : Nat)]? = some (.val (.ref (zb w + 0))) := zLk_at (v := .ref 0) hl rfl
  have q1 : ls[((1 : Fin 4) : Nat)]? = some (.val (.int x)) := zLk_at (v := .int x) hl rfl
  have q2 : ls[((2 : Fin 4) : Nat)]? = some (.val (.int y)) := zLk_at (v := .int y) hl rfl
  refine lv_iload_n hx hb (by decide +kernel : decode cX9_look 0 = .ok (.iload_n 1, 1)) rfl q1 ?_
  refine lv_if_lt hx hb (by decide +kernel : decode cX9_look 1 = .ok (.ifCond .lt 14, 3)) (tgt := 15) (by decide) (fun h0 => ?_) (fun h0 => ?_)
  · rcases hE with ⟨e0, -⟩ | ⟨-, h1, -⟩
    · exact thr1 e0
    · exact absurd h0 h1
  refine lv_iload_n hx hb (by decide +kernel : decode cX9_look 4 = .ok (.iload_n 1, 1)) rfl q1 ?_
  refine lv_aload_n hx hb (by decide +kernel : decode cX9_look 5 = .ok (.aload_n 0, 1)) rfl q0 ?_
  have w0 := zW_at (w := w) (show ((SH, I, L, RF pp ss rr) : zMem).1[0]? = some (.inr 9) from sh_0)
  have w1 := zW_at (w := w) (show ((SH, I, L, RF pp ss rr) : zMem).1[10]? = some (.inr 2) from sh_10)
  have g1 := zTF_ok (o := 9) (idx := 42) (ci := 9) (k := 4) (by decide)
  refine va_get hx hb hts (zLay_ok 9 g1.1) hown hKn hH.1 0 w0 (zCl g1.1) 4 g1.2.1 (hts _ g1.2.2) (fun _ h => h) (zFs_at (w := w) (μ := (SH, I, L, RF pp ss rr)) (i := 0) g1.2.1) (by decide +kernel : decode cX9_look 6 = .ok (.getfield 42, 3)) ?_
  have g2 := zTF_ok (o := 9) (idx := 126) (ci := 2) (k := 8) (by decide)
  refine va_get hx hb hts (zLay_ok 2 g2.1) hown hKn hH.1 10 w1 (zCl g2.1) 8 g2.2.1 (hts _ g2.2.2) (fun _ h => h) (zFs_at (w := w) (μ := (SH, I, L, RF pp ss rr)) (i := 10) g2.2.1) (by decide +kernel : decode cX9_look 9 = .ok (.getfield 126, 3)) ?_
  have e8 : zCv w (zFv (SH, I, L, RF pp ss rr) 10 2 8) = .int (nI n) := by rw [zFv_I (by rfl)]; show Value.int (I 10 8) = _; rw [hI]
  rw [e8]
  refine lv_icmp_lt hx hb (by decide +kernel : decode cX9_look 12 = .ok (.if_icmp .lt 13, 3)) (tgt := 25) (by decide) (fun h1 => ?_) (fun h1 => ?_)
  · rcases hE with ⟨e0, h2⟩ | ⟨e0, -, -, h2⟩
    · exact absurd h2 (by rintro (z | z); exact h0 z; exact z h1)
    · refine lv_iload_n hx hb (by decide +kernel : decode cX9_look 25 = .ok (.iload_n 2, 1)) rfl q2 ?_
      exact lv_tableOut hx hb (by decide +kernel : decode cX9_look 26 = .ok (.tableswitch 84 0 4 #[34, 44, 54, 64, 74], 34)) (tgt := 110) h2 (by decide) (thr2 e0)
  · rcases hE with ⟨e0, -⟩ | ⟨-, -, h2, -⟩
    · exact thr1 e0
    · exact absurd h2 h1
end ZN98zza
