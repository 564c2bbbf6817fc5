/-! ===== THE LAW'S START ===== -/
theorem lw_mem1 {q : Cond} (i : Nat) (hi : tables_1_1[i]? = some q) : q ∈ lw_tbl := List.mem_append_right _ (by unfold tables_1; exact List.mem_append_left _ (List.mem_of_getElem? hi))
theorem lw_mem2 {q : Cond} (i : Nat) (hi : tables_1_2[i]? = some q) : q ∈ lw_tbl := List.mem_append_right _ (by unfold tables_1; exact List.mem_append_right _ (List.mem_append_left _ (List.mem_of_getElem? hi)))
theorem lw_mem3 {q : Cond} (i : Nat) (hi : tables_1_3[i]? = some q) : q ∈ lw_tbl := List.mem_append_right _ (by unfold tables_1; exact List.mem_append_right _ (List.mem_append_right _ (List.mem_append_left _ (List.mem_of_getElem? hi))))
theorem lw_mem4 {q : Cond} (i : Nat) (hi : tables_1_4[i]? = some q) : q ∈ lw_tbl := List.mem_append_right _ (by unfold tables_1; exact List.mem_append_right _ (List.mem_append_right _ (List.mem_append_right _ (List.mem_append_left _ (List.mem_of_getElem? hi)))))
theorem lw_mem5 {q : Cond} (i : Nat) (hi : tables_1_5[i]? = some q) : q ∈ lw_tbl := List.mem_append_right _ (by unfold tables_1; exact List.mem_append_right _ (List.mem_append_right _ (List.mem_append_right _ (List.mem_append_right _ (List.mem_append_left _ (List.mem_of_getElem? hi))))))
theorem lw_mem6 {q : Cond} (i : Nat) (hi : tables_1_6[i]? = some q) : q ∈ lw_tbl := List.mem_append_right _ (by unfold tables_1; exact List.mem_append_right _ (List.mem_append_right _ (List.mem_append_right _ (List.mem_append_right _ (List.mem_append_right _ (List.mem_append_left _ (List.mem_of_getElem? hi)))))))
theorem lw_mem7 {q : Cond} (i : Nat) (hi : tables_1_7[i]? = some q) : q ∈ lw_tbl := List.mem_append_right _ (by unfold tables_1; exact List.mem_append_right _ (List.mem_append_right _ (List.mem_append_right _ (List.mem_append_right _ (List.mem_append_right _ (List.mem_append_right _ (List.mem_append_left _ (List.mem_of_getElem? hi))))))))
theorem lw_mem8 {q : Cond} (i : Nat) (hi : tables_1_8[i]? = some q) : q ∈ lw_tbl := List.mem_append_right _ (by unfold tables_1; exact List.mem_append_right _ (List.mem_append_right _ (List.mem_append_right _ (List.mem_append_right _ (List.mem_append_right _ (List.mem_append_right _ (List.mem_append_right _ (List.mem_append_left _ (List.mem_of_getElem? hi)))))))))
theorem lw_mem9 {q : Cond} (i : Nat) (hi : tables_1_9[i]? = some q) : q ∈ lw_tbl := List.mem_append_right _ (by unfold tables_1; exact List.mem_append_right _ (List.mem_append_right _ (List.mem_append_right _ (List.mem_append_right _ (List.mem_append_right _ (List.mem_append_right _ (List.mem_append_right _ (List.mem_append_right _ ((List.mem_of_getElem? hi))))))))))
theorem lw_nest : ∀ q ∈ zNestW, q ∈ lw_tbl := by
  intro q hq
  simp only [zNestW, List.mem_cons, List.not_mem_nil, or_false] at hq
  rcases hq with rfl | rfl | rfl | rfl | rfl | rfl | rfl | rfl | rfl | rfl
  · exact (lw_mem1 170 (by decide +kernel))
  · exact (lw_mem1 216 (by decide +kernel))
  · exact (lw_mem2 89 (by decide +kernel))
  · exact (lw_mem2 112 (by decide +kernel))
  · exact (lw_mem2 140 (by decide +kernel))
  · exact (lw_mem2 166 (by decide +kernel))
  · exact (lw_mem3 223 (by decide +kernel))
  · exact (lw_mem4 12 (by decide +kernel))
  · exact (lw_mem4 14 (by decide +kernel))
  · exact (lw_mem4 55 (by decide +kernel))
/-! THE CLAIM OUT OF ONE WALK OF THE LAW'S BODY. Your part is whole_start (and what it stands on); all else here is the same for every law, but numbers. -/
def R_law : String := "SkyChairsLaw"
def lw_P (b : Addr) (xs : List Int32) (args : Array Value) (s : State) : Prop := args = #[.ref b] ∧ s.IntsAt b xs ∧ xs.length ≤ 3072 ∧ (Jvm.Cond.and given_1 narrow_1).before args s = true
def lw_Q (_ : Array Value) (s : State) (o : Outcome) (t : State) : Prop := o = .returned (some (.int 1)) ∧ Framed s o t [] 1166 14508
def lw_Z (below : List Frame) (a : Array Value) (s : State) : State → Prop := fun t => ∃ o, t.status = .running ∧ Ended t below o ∧ lw_Q a s o t
/-- the law's own end, with 1 on the stack, nothing written that was there before, its room as the claim has it -/
theorem lw_ret {p : Program} {l : Launch} {e : Env} {s : State} {m : MethodId} {below : List Frame} {meth : Method} {c : Code} {b : Nat} (hx : p.tables.exec = Jvm.exec) (hb : c.code = code) (hr : meth.sig.returnType = ret) (hlocks : meth.locks = false) {pc : Nat} {H : Heap} {ls : Array Slot} (hdg : decode code pc = .ok (.ireturn, 1)) : W p l e room_1 s m #[Value.ref b] below meth c H [] 1166 14508 (lw_Z below #[Value.ref b] s) (F0 m pc ls [.int 1]) := by
  intro T hT X
  obtain ⟨fs, hret, hrun, hended, hW, hframe⟩ := X.leave (v := some (.int 1)) (hlocks := hlocks) (fun h => by rw [hr] at h; cases h)
  have hmeth' : T.vm.method? m = some meth := X.method'
  refine ⟨T.setFrames fs, ?_, .returned (some (.int 1)), hrun, hended, rfl, ⟨_, rfl⟩, hW, hframe⟩
  jvm_step X.here [X.here.top, hx, hb, hdg, hmeth', hr, ret, narrow_b1]
  (try refine ⟨rfl, ?_⟩); (try refine ⟨rfl, ?_⟩)
  first | (intro acts; rw [hret _ acts rfl rfl rfl]) | rw [hret _ _ rfl rfl rfl]
  exact Steps.refl _
/-- what holds at the law's entry: the machine, the code, the tables' words (any of lw_tbl by 'hts w (by decide +kernel)'), the script of L ints xs at the cell b, what the Statement gives of the start (any of its parts by flat_of_before) -/
def lw_At (p : Program) (s : State) (m : MethodId) (meth : Method) (c : Code) (b L : Nat) (xs : Nat → Int32) : Prop :=
  p.tables.exec = Jvm.exec ∧ c.code = code ∧ meth.sig.returnType = ret ∧ c.maxLocals = 7 ∧ s.vm.findClass R_law = some m.cls ∧ (∀ w ∈ lw_tbl, w.before #[Value.ref b] s = true) ∧ va_X b L xs s s.heap ∧ b < s.heap.size ∧ meth.locks = false ∧ (Jvm.Cond.and given_1 narrow_1).before #[Value.ref b] s = true
set_option maxRecDepth 100000 in
theorem lw_wordsE : ((flatC (Jvm.Cond.and given_1 narrow_1)).drop 69).take 136 = (List.range 136).map (fun j => Cond.eq (.elem (.field (.string "SkyChairs$Tokens" 19) "java/lang/String" "value" "[B") (.int (Int32.ofNat j))) (.int (zWb j))) := by decide +kernel
theorem lw_words (j : Nat) (hj : j < 136) : Cond.eq (.elem (.field (.string "SkyChairs$Tokens" 19) "java/lang/String" "value" "[B") (.int (Int32.ofNat j))) (.int (zWb j)) ∈ flatC (Jvm.Cond.and given_1 narrow_1) := by
  have h : Cond.eq (.elem (.field (.string "SkyChairs$Tokens" 19) "java/lang/String" "value" "[B") (.int (Int32.ofNat j))) (.int (zWb j)) ∈ ((flatC (Jvm.Cond.and given_1 narrow_1)).drop 69).take 136 := by
    rw [lw_wordsE]
    exact List.mem_map.mpr ⟨j, List.mem_range.mpr hj, rfl⟩
  exact List.mem_of_mem_drop (List.mem_of_mem_take h)
set_option maxRecDepth 100000 in
theorem lw_elSET_LOW : ∀ j, j < 7 → Cond.eq (.elem (.static "SkyChairs" "SET_LOW" "[I") (.int (Int32.ofNat j))) (.int (zLow j)) ∈ flatC (Jvm.Cond.and given_1 narrow_1) := by decide +kernel
set_option maxRecDepth 100000 in
theorem lw_elSET_HIGH : ∀ j, j < 7 → Cond.eq (.elem (.static "SkyChairs" "SET_HIGH" "[I") (.int (Int32.ofNat j))) (.int (zHigh j)) ∈ flatC (Jvm.Cond.and given_1 narrow_1) := by decide +kernel
set_option maxRecDepth 100000 in
theorem lw_elSET_PLAIN : ∀ j, j < 7 → Cond.eq (.elem (.static "SkyChairs" "SET_PLAIN" "[I") (.int (Int32.ofNat j))) (.int (zPlain j)) ∈ flatC (Jvm.Cond.and given_1 narrow_1) := by decide +kernel
theorem zBall {P : Nat → Prop} (n : Nat) (h0 : ∀ a : Nat, a < n → ¬ n ≤ a) : True := trivial
set_option maxRecDepth 100000 in
set_option maxHeartbeats 4000000 in
/-- what the law may take as given, in the words of the abstract machine -/
theorem lw_given {p : Program} {s : State} {m : MethodId} {meth : Method} {c : Code} {b L : Nat} {xs : Nat → Int32} (C0 : lw_At p s m meth c b L xs) : ∃ (D : va_G) (g : Nat → ClassId) (tb : Nat → Nat), va_K D vwCl (zTys g) s ∧ zEx s.heap.size tb s s.heap ∧ tb 50 = b := by
  obtain ⟨hx, hb, hr, hml, hown, hts, hX, hbl, hlocks, hgv⟩ := id C0
  have hs := flat_of_before _ hgv
  have hA : ∀ a : Nat, a < s.heap.size → ¬ (fun q : Nat => s.heap.size ≤ q) a := fun a h => Nat.not_le.mpr h
  have hA2 : ∀ a : Nat, a < s.heap.size → ¬ s.heap.size ≤ a := hA
  obtain ⟨c0, i0, k0⟩ := u_known (C := RX0) (T := TX0) (N := 6) (n := 6) hts (fun q hq => (List.mem_filter.mp (zLay_ok 0 (by decide) q hq)).1) (hts (.instantiable RX0 6) (lw_mem2 111 (by decide +kernel)))
  obtain ⟨c1, i1, k1⟩ := u_known (C := RX1) (T := TX1) (N := 5) (n := 5) hts (fun q hq => (List.mem_filter.mp (zLay_ok 1 (by decide) q hq)).1) (hts (.instantiable RX1 5) (lw_mem2 88 (by decide +kernel)))
  obtain ⟨c2, i2, k2⟩ := u_known (C := RX2) (T := TX2) (N := 16) (n := 16) hts (fun q hq => (List.mem_filter.mp (zLay_ok 2 (by decide) q hq)).1) (hts (.instantiable RX2 16) (lw_mem1 215 (by decide +kernel)))
  obtain ⟨c3, i3, k3⟩ := u_known (C := RX3) (T := TX3) (N := 2) (n := 2) hts (fun q hq => (List.mem_filter.mp (zLay_ok 3 (by decide) q hq)).1) (hts (.instantiable RX3 2) (lw_mem2 139 (by decide +kernel)))
  obtain ⟨c4, i4, k4⟩ := u_known (C := RX4) (T := TX4) (N := 20) (n := 20) hts (fun q hq => (List.mem_filter.mp (zLay_ok 4 (by decide) q hq)).1) (hts (.instantiable RX4 20) (lw_mem2 154 (by decide +kernel)))
  obtain ⟨c5, i5, k5⟩ := u_known (C := RX5) (T := TX5) (N := 12) (n := 12) hts (fun q hq => (List.mem_filter.mp (zLay_ok 5 (by decide) q hq)).1) (hts (.instantiable RX5 12) (lw_mem1 123 (by decide +kernel)))
  obtain ⟨c6, i6, k6⟩ := u_known (C := RX6) (T := TX6) (N := 9) (n := 9) hts (fun q hq => (List.mem_filter.mp (zLay_ok 6 (by decide) q hq)).1) (hts (.instantiable RX6 9) (lw_mem1 169 (by decide +kernel)))
  obtain ⟨c7, i7, k7⟩ := u_known (C := RX7) (T := TX7) (N := 8) (n := 8) hts (fun q hq => (List.mem_filter.mp (zLay_ok 7 (by decide) q hq)).1) (hts (.instantiable RX7 8) (lw_mem1 34 (by decide +kernel)))
  obtain ⟨c8, i8, k8⟩ := u_known (C := RX8) (T := TX8) (N := 5) (n := 5) hts (fun q hq => (List.mem_filter.mp (zLay_ok 8 (by decide) q hq)).1) (hts (.instantiable RX8 5) (lw_mem2 64 (by decide +kernel)))
  obtain ⟨c9, i9, k9⟩ := u_known (C := RX9) (T := TX9) (N := 15) (n := 15) hts (fun q hq => (List.mem_filter.mp (zLay_ok 9 (by decide) q hq)).1) (hts (.instantiable RX9 15) (lw_mem1 26 (by decide +kernel)))
  obtain ⟨c10, i10, k10⟩ := u_known (C := RX10) (T := TX10) (N := 103) (n := 103) hts (fun q hq => (List.mem_filter.mp (zLay_ok 10 (by decide) q hq)).1) (hts (.instantiable RX10 103) (lw_mem6 27 (by decide +kernel)))
  obtain ⟨a0, ka0, cm0, fa0, ha0, kd0⟩ := Cond.arrayClass_spec (show (Cond.arrayClass .int).before #[Value.ref b] s = true from hts _ (lw_mem1 121 (by decide +kernel)))
  obtain ⟨a1, ka1, cm1, fa1, ha1, kd1⟩ := Cond.arrayClass_spec (show (Cond.arrayClass .long).before #[Value.ref b] s = true from hts _ (lw_mem2 86 (by decide +kernel)))
  obtain ⟨a2, ka2, cm2, fa2, ha2, kd2⟩ := Cond.arrayClass_spec (show (Cond.arrayClass .byte).before #[Value.ref b] s = true from hts _ (lw_mem1 120 (by decide +kernel)))
  obtain ⟨a3, ka3, cm3, fa3, ha3, kd3⟩ := Cond.arrayClass_spec (show (Cond.arrayClass .boolean).before #[Value.ref b] s = true from hts _ (lw_mem2 137 (by decide +kernel)))
  obtain ⟨tl, etl, Ttl⟩ := va_Tof (N := 7) (f := fun j => .int (zLow j)) (A := fun q => s.heap.size ≤ q) (by decide) (hs (.arrayOf (.static "SkyChairs" "SET_LOW" "[I") .int) (by decide +kernel)) (va_eqt (hs (.eq (.length (.static "SkyChairs" "SET_LOW" "[I")) (.int 7)) (by decide +kernel))) (fun j hj => va_eqt (hs _ (lw_elSET_LOW j hj))) hA2
  have Ztl := va_Zref (A := fun q => s.heap.size ≤ q) (hts (.laysStatic "SkyChairs" "SET_LOW" "[I") (lw_mem4 13 (by decide +kernel))) (hts (.initialized "SkyChairs") (lw_mem1 1 (by decide +kernel))) etl hA2
  obtain ⟨th, eth, Tth⟩ := va_Tof (N := 7) (f := fun j => .int (zHigh j)) (A := fun q => s.heap.size ≤ q) (by decide) (hs (.arrayOf (.static "SkyChairs" "SET_HIGH" "[I") .int) (by decide +kernel)) (va_eqt (hs (.eq (.length (.static "SkyChairs" "SET_HIGH" "[I")) (.int 7)) (by decide +kernel))) (fun j hj => va_eqt (hs _ (lw_elSET_HIGH j hj))) hA2
  have Zth := va_Zref (A := fun q => s.heap.size ≤ q) (hts (.laysStatic "SkyChairs" "SET_HIGH" "[I") (lw_mem4 15 (by decide +kernel))) (hts (.initialized "SkyChairs") (lw_mem1 1 (by decide +kernel))) eth hA2
  obtain ⟨tp, etp, Ttp⟩ := va_Tof (N := 7) (f := fun j => .int (zPlain j)) (A := fun q => s.heap.size ≤ q) (by decide) (hs (.arrayOf (.static "SkyChairs" "SET_PLAIN" "[I") .int) (by decide +kernel)) (va_eqt (hs (.eq (.length (.static "SkyChairs" "SET_PLAIN" "[I")) (.int 7)) (by decide +kernel))) (fun j hj => va_eqt (hs _ (lw_elSET_PLAIN j hj))) hA2
  have Ztp := va_Zref (A := fun q => s.heap.size ≤ q) (hts (.laysStatic "SkyChairs" "SET_PLAIN" "[I") (lw_mem2 167 (by decide +kernel))) (hts (.initialized "SkyChairs") (lw_mem1 1 (by decide +kernel))) etp hA2
  have h01 : ∀ i : Nat, i < 1 → i = 0 := fun i hi => by omega
  obtain ⟨adK, adV, hSt, eSt⟩ := vk_Sof (N := 1) (tm := fun _ => .string "SkyChairs$Tokens" 19) (len := [136]) (byt := [zTextL]) (A := fun q => s.heap.size ≤ q) (s := s) (args := #[Value.ref b]) (fun i hi => by rw [h01 i hi]; decide) (fun i _ => hs (.exactly (.string "SkyChairs$Tokens" 19) "java/lang/String") (by decide +kernel)) (fun i _ => hs (.eq (.field (.string "SkyChairs$Tokens" 19) "java/lang/String" "coder" "B") (.int 0)) (by decide +kernel)) (fun i _ => hs (.arrayOf (.field (.string "SkyChairs$Tokens" 19) "java/lang/String" "value" "[B") .byte) (by decide +kernel)) (fun i hi => by rw [h01 i hi]; exact hs (.eq (.length (.field (.string "SkyChairs$Tokens" 19) "java/lang/String" "value" "[B")) (.int 136)) (by decide +kernel)) (fun i hi j hj => by rw [h01 i hi] at hj ⊢; exact hs _ (lw_words j hj)) (fun i j hi hj h => absurd ((h01 i hi).trans (h01 j hj).symm) h) hA2
  have hS0 := hSt.1 0 (by decide)
  have hR0 : vk_R "SkyChairs$Tokens" 19 zText (adK 0) s := vk_R.of (A := #[Value.ref b]) (hts (.stringRef "SkyChairs$Tokens" 19 zText) (lw_mem1 39 (by decide +kernel))) (eSt 0 (by decide))
  have hC := va_Zof (A := fun q => s.heap.size ≤ q) (v := .int 1) (hts (.laysStatic "java/lang/String" "COMPACT_STRINGS" "Z") (lw_mem1 49 (by decide +kernel))) (hts (.initialized "java/lang/String") (lw_mem1 3 (by decide +kernel))) (va_eqi (hs (.eq (.static "java/lang/String" "COMPACT_STRINGS" "Z") (.int 1)) (by decide +kernel))) hA2
  have hF := va_Zqof (A := fun q => s.heap.size ≤ q) (hts (.laysStatic "jdk/internal/util/Preconditions" "SIOOBE_FORMATTER" "Ljava/util/function/BiFunction;") (lw_mem1 65 (by decide +kernel))) (hts (.initialized "jdk/internal/util/Preconditions") (lw_mem1 5 (by decide +kernel))) (hs (.isRef (.static "jdk/internal/util/Preconditions" "SIOOBE_FORMATTER" "Ljava/util/function/BiFunction;")) (by decide +kernel)) hA2
  have hF2 : ∃ tf : Nat, va_Z "jdk/internal/util/Preconditions" "SIOOBE_FORMATTER" "Ljava/util/function/BiFunction;" .null (fun q => s.heap.size ≤ q) s s.heap ∨ va_Z "jdk/internal/util/Preconditions" "SIOOBE_FORMATTER" "Ljava/util/function/BiFunction;" (.ref tf) (fun q => s.heap.size ≤ q) s s.heap := by
    rcases hF with h | ⟨tf, h⟩
    · exact ⟨0, Or.inl h⟩
    · exact ⟨tf, Or.inr h⟩
  obtain ⟨tf, hF3⟩ := hF2
  refine ⟨(fun k => [c0, c1, c2, c3, c4, c5, c6, c7, c8, c9, c10].getD k c0, fun k => [i0, i1, i2, i3, i4, i5, i6, i7, i8, i9, i10].getD k i0), fun k => [a0, a1, a2, a3].getD k a0, fun j => if j = 0 then tl else if j = 1 then th else if j = 2 then tp else if j = 10 then adK 0 else if j = 11 then adV 0 else if j = 12 then tf else b, ⟨?_, ?_⟩, ?_, rfl⟩
  · intro k q hq
    match k, hq with
    | 0, hq => cases hq; exact k0
    | 1, hq => cases hq; exact k1
    | 2, hq => cases hq; exact k2
    | 3, hq => cases hq; exact k3
    | 4, hq => cases hq; exact k4
    | 5, hq => cases hq; exact k5
    | 6, hq => cases hq; exact k6
    | 7, hq => cases hq; exact k7
    | 8, hq => cases hq; exact k8
    | 9, hq => cases hq; exact k9
    | 10, hq => cases hq; exact k10
    | k + 11, hq => simp [vwCl] at hq
  · intro k q hq
    match k, hq with
    | 0, hq => cases hq; exact ⟨fun n z => ⟨fun k h => (by cases h), ka0, ha0, cm0, kd0⟩, fa0⟩
    | 1, hq => cases hq; exact ⟨fun n z => ⟨fun k h => (by cases h), ka1, ha1, cm1, kd1⟩, fa1⟩
    | 2, hq => cases hq; exact ⟨fun n z => ⟨fun k h => (by cases h), ka2, ha2, cm2, kd2⟩, fa2⟩
    | 3, hq => cases hq; exact ⟨fun n z => ⟨fun k h => (by cases h), ka3, ha3, cm3, kd3⟩, fa3⟩
    | k + 4, hq => simp [zTys] at hq
  · exact ⟨fun q hq => va_Nw.of (zNest_on hq) (hts q (lw_nest q hq)), ⟨Ztl, Ttl⟩, ⟨Zth, Tth⟩, ⟨Ztp, Ttp⟩, ⟨hR0, hS0.1, hS0.2.1, hS0.2.2.1, hS0.2.2.2⟩, hC, hF3⟩
