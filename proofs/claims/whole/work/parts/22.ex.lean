/-! ===== WHAT ELSE IS KNOWN: nest words, static tables, the text of words ===== -/
def zNestW : List Cond := [(Cond.methodLinkNest "SkyChairs" (31 : Nat) ({ cls := "SkyChairs$Terms", name := "<init>", desc := "()V" } : MethodName) "SkyChairs"), (Cond.methodLinkNest "SkyChairs" (41 : Nat) ({ cls := "SkyChairs$Front", name := "<init>", desc := "()V" } : MethodName) "SkyChairs"), (Cond.methodLinkNest "SkyChairs" (66 : Nat) ({ cls := "SkyChairs$Deeds", name := "<init>", desc := "()V" } : MethodName) "SkyChairs"), (Cond.methodLinkNest "SkyChairs" (73 : Nat) ({ cls := "SkyChairs$Book", name := "<init>", desc := "()V" } : MethodName) "SkyChairs"), (Cond.methodLinkNest "SkyChairs" (80 : Nat) ({ cls := "SkyChairs$Order", name := "<init>", desc := "()V" } : MethodName) "SkyChairs"), (Cond.fieldLinkNest "SkyChairs$Plan" (85 : Nat) "SkyChairs" "SET_PLAIN" "[I" "SkyChairs"), (Cond.methodLinkNest "SkyChairs$Reader" (210 : Nat) ({ cls := "SkyChairs", name := "isNameOfLaw", desc := "(I)Z" } : MethodName) "SkyChairs"), (Cond.fieldLinkNest "SkyChairs$Reader" (171 : Nat) "SkyChairs" "SET_LOW" "[I" "SkyChairs"), (Cond.fieldLinkNest "SkyChairs$Reader" (174 : Nat) "SkyChairs" "SET_HIGH" "[I" "SkyChairs"), (Cond.methodLinkNest "SkyChairs$Walk" (226 : Nat) ({ cls := "SkyChairs", name := "isNameOfLaw", desc := "(I)Z" } : MethodName) "SkyChairs")]
def zLow : Nat → Int32 := fun i => ([0, 0, 0, 1, 1, 0, 0] : List Int32).getD i 0
def zHigh : Nat → Int32 := fun i => ([99, 40, 99, 40, 9, 99, 99999] : List Int32).getD i 0
def zPlain : Nat → Int32 := fun i => ([2, 0, 0, 10, 3, 5, 0] : List Int32).getD i 0
def zText : String := "view far sun music taken free tick price chairs wage carry wets canvas seed place tide come sky band sign law sit stay dodge or and not "
def zTextL : List Int32 := [118, 105, 101, 119, 32, 102, 97, 114, 32, 115, 117, 110, 32, 109, 117, 115, 105, 99, 32, 116, 97, 107, 101, 110, 32, 102, 114, 101, 101, 32, 116, 105, 99, 107, 32, 112, 114, 105, 99, 101, 32, 99, 104, 97, 105, 114, 115, 32, 119, 97, 103, 101, 32, 99, 97, 114, 114, 121, 32, 119, 101, 116, 115, 32, 99, 97, 110, 118, 97, 115, 32, 115, 101, 101, 100, 32, 112, 108, 97, 99, 101, 32, 116, 105, 100, 101, 32, 99, 111, 109, 101, 32, 115, 107, 121, 32, 98, 97, 110, 100, 32, 115, 105, 103, 110, 32, 108, 97, 119, 32, 115, 105, 116, 32, 115, 116, 97, 121, 32, 100, 111, 100, 103, 101, 32, 111, 114, 32, 97, 110, 100, 32, 110, 111, 116, 32]
def zWb : Nat → Int32 := fun i => zTextL.getD i 0
def zEx (b : Nat) (tb : Nat → Nat) (U : State) (H : Heap) : Prop :=
  (∀ q ∈ zNestW, va_Nw q U) ∧
  (va_Z "SkyChairs" "SET_LOW" "[I" (.ref (tb 0)) (fun q => b ≤ q) U H ∧ va_T .int (tb 0) 7 (fun i => .int (zLow i)) (fun q => b ≤ q) U H) ∧
  (va_Z "SkyChairs" "SET_HIGH" "[I" (.ref (tb 1)) (fun q => b ≤ q) U H ∧ va_T .int (tb 1) 7 (fun i => .int (zHigh i)) (fun q => b ≤ q) U H) ∧
  (va_Z "SkyChairs" "SET_PLAIN" "[I" (.ref (tb 2)) (fun q => b ≤ q) U H ∧ va_T .int (tb 2) 7 (fun i => .int (zPlain i)) (fun q => b ≤ q) U H) ∧
  (vk_R "SkyChairs$Tokens" 19 zText (tb 10) U ∧ va_O "java/lang/String" (tb 10) (fun q => b ≤ q) U H ∧ va_OF "java/lang/String" "coder" "B" (.int 0) (tb 10) (fun q => b ≤ q) U H ∧ va_OF "java/lang/String" "value" "[B" (.ref (tb 11)) (tb 10) (fun q => b ≤ q) U H ∧ va_T .byte (tb 11) 136 (fun i => .int (zWb i)) (fun q => b ≤ q) U H) ∧
  va_Z "java/lang/String" "COMPACT_STRINGS" "Z" (.int 1) (fun q => b ≤ q) U H ∧
  (va_Z "jdk/internal/util/Preconditions" "SIOOBE_FORMATTER" "Ljava/util/function/BiFunction;" .null (fun q => b ≤ q) U H ∨ va_Z "jdk/internal/util/Preconditions" "SIOOBE_FORMATTER" "Ljava/util/function/BiFunction;" (.ref (tb 12)) (fun q => b ≤ q) U H)
theorem zNest_warm {s U : State} (hW : s.WarmedH U.vm) (h : ∀ q ∈ zNestW, va_Nw q s) : ∀ q ∈ zNestW, va_Nw q U := by
  intro q hq
  have h1 := h q hq
  simp only [zNestW, List.mem_cons, List.not_mem_nil, or_false] at hq
  rcases hq with rfl | rfl | rfl | rfl | rfl | rfl | rfl | rfl | rfl | rfl <;> first | exact va_Nw.warmM hW h1 | exact va_Nw.warmF hW h1
theorem zNest_on {q : Cond} (hq : q ∈ zNestW) : q.onTables = true := by
  simp only [zNestW, List.mem_cons, List.not_mem_nil, or_false] at hq
  rcases hq with rfl | rfl | rfl | rfl | rfl | rfl | rfl | rfl | rfl | rfl <;> rfl
theorem zEx_same {b : Nat} {tb : Nat → Nat} {u U : State} {H : Heap} (hv : u.vm = U.vm) (h : zEx b tb u H) : zEx b tb U H := by
  have ha : u.vm.Alike U.vm := by rw [hv]; exact Vm.Alike.refl _
  obtain ⟨h0, h1, h2, h3, ⟨h4, h5, h6, h7, h8⟩, h9, h10⟩ := h
  exact ⟨fun q hq => va_Nw.same (zNest_on hq) hv (h0 q hq), ⟨h1.1.moved ha, h1.2.moved ha⟩, ⟨h2.1.moved ha, h2.2.moved ha⟩, ⟨h3.1.moved ha, h3.2.moved ha⟩, ⟨h4.same hv.symm, h5.moved ha, h6.moved ha, h7.moved ha, h8.moved ha⟩, h9.moved ha, h10.imp (fun h => h.moved ha) (fun h => h.moved ha)⟩
theorem zEx_warm {b : Nat} {tb : Nat → Nat} {u U : State} {H : Heap} (hW : u.WarmedH U.vm) (h : zEx b tb u H) : zEx b tb U H := by
  have ha : u.vm.Alike U.vm := hW.alike
  obtain ⟨h0, h1, h2, h3, ⟨h4, h5, h6, h7, h8⟩, h9, h10⟩ := h
  exact ⟨zNest_warm hW h0, ⟨h1.1.moved ha, h1.2.moved ha⟩, ⟨h2.1.moved ha, h2.2.moved ha⟩, ⟨h3.1.moved ha, h3.2.moved ha⟩, ⟨h4.warm hW, h5.moved ha, h6.moved ha, h7.moved ha, h8.moved ha⟩, h9.moved ha, h10.imp (fun h => h.moved ha) (fun h => h.moved ha)⟩
theorem zEx_kept {b : Nat} {tb : Nat → Nat} {U : State} {H H1 : Heap} (hq : ∀ a : Nat, a < H.size → ¬ b ≤ a → H1[a]? = H[a]?) (h : zEx b tb U H) : zEx b tb U H1 := by
  obtain ⟨h0, h1, h2, h3, ⟨h4, h5, h6, h7, h8⟩, h9, h10⟩ := h
  exact ⟨h0, ⟨h1.1.kept hq, h1.2.kept hq⟩, ⟨h2.1.kept hq, h2.2.kept hq⟩, ⟨h3.1.kept hq, h3.2.kept hq⟩, ⟨h4, h5.kept hq, h6.kept hq, h7.kept hq, h8.kept hq⟩, h9.kept hq, h10.imp (fun h => h.kept hq) (fun h => h.kept hq)⟩
/-- the world of this claim -/
def zWd (l : Launch) (D : va_G) (g : Nat → ClassId) (b : Nat) (tb : Nat → Nat) (fl : Bool) : zP := (l, D, g, b, tb, fl, zEx b tb)
theorem zWd_kp {l : Launch} {D : va_G} {g : Nat → ClassId} {b : Nat} {tb : Nat → Nat} {fl : Bool} : zKp (zWd l D g b tb fl) := ⟨fun _ _ _ hv h => zEx_same hv h, fun _ _ _ hW h => zEx_warm hW h, fun _ _ _ hq h => zEx_kept hq h⟩
/-- a world that knows these things -/
def zOk (w : zP) : Prop := ∀ (U : State) (H : Heap), zex w U H → zEx (zb w) (ztb w) U H
theorem zWd_ok {l : Launch} {D : va_G} {g : Nat → ClassId} {b : Nat} {tb : Nat → Nat} {fl : Bool} : zOk (zWd l D g b tb fl) := fun _ _ h => h
theorem zOk.nest {w : zP} (h : zOk w) {q : Cond} (hq : q ∈ zNestW) (U : State) (H : Heap) (hx : zex w U H) : va_Nw q U := (h U H hx).1 q hq
theorem zOk.low {w : zP} (h : zOk w) (U : State) (H : Heap) (hx : zex w U H) : zTab w "SkyChairs" "SET_LOW" 0 7 zLow U H := (h U H hx).2.1
theorem zOk.high {w : zP} (h : zOk w) (U : State) (H : Heap) (hx : zex w U H) : zTab w "SkyChairs" "SET_HIGH" 1 7 zHigh U H := (h U H hx).2.2.1
theorem zOk.plain {w : zP} (h : zOk w) (U : State) (H : Heap) (hx : zex w U H) : zTab w "SkyChairs" "SET_PLAIN" 2 7 zPlain U H := (h U H hx).2.2.2.1
section ZJ
variable {w : zP} {M : zMd} {R : Room} {Q : Option Value → zMem → Prop} {kc ks pc : Nat} {lv : zLoc} {st : List Value} {μ : zMem}
theorem z_getsQ {idx t : Nat} {u : UInt32} {ow nm ds : String} (hu : u.toNat = t) (hd : decode M.2.2.1 pc = .ok (.getstatic idx, 3)) (hl1 : Cond.fieldLink M.2.1.cls idx ow nm ds ∈ zG) (hw : ∀ (U : State) (H : Heap), zex w U H → va_Z ow nm ds .null (zA w) U H ∨ va_Z ow nm ds (.ref (ztb w t)) (zA w) U H) (k0 : zX w M R Q kc ks (pc + 3) lv (.null :: st) μ) (k1 : zX w M R Q kc ks (pc + 3) lv (.float u :: st) μ) : zX w M R Q kc ks pc lv st μ := by
  intro p e s m args below meth c Qm C hK hret H locs ls hH hS hl
  obtain ⟨hx, hb, hml, hown, hts, hKn, hex, hb0, hlk, hr, hnm⟩ := id C
  rcases hw s s.heap hex with h | h
  · exact va_gets hx hb h hS hown (hts _ hl1) (fun _ h => h) hd (k0 p e s m args below meth c Qm C hK hret H locs ls hH hS hl)
  · refine va_gets hx hb h hS hown (hts _ hl1) (fun _ h => h) hd ?_
    have k2 := k1 p e s m args below meth c Qm C hK hret H locs ls hH hS hl
    rw [← hu]
    exact k2
def mJ0_length_8abf5 : zMd := (13, yJ0_length_8abf5, cJ0_length_8abf5, 1, (Option.some .int))
def rJ0_length_8abf5 : Room := { frames := 1, cells := 0, slots := 0, locals := 20 }
theorem qJ0_length_8abf5 : zCode mJ0_length_8abf5 ∈ zG := zt1 43 (rfl) rfl
theorem nJ0_length_8abf5 : Cond.initialized mJ0_length_8abf5.2.1.cls ∈ zG := zt1 3 (by decide +kernel) rfl
theorem iJ0_length_8abf5 : Cond.instanceMethod mJ0_length_8abf5.2.1 ∈ zG := zt1 41 (by decide +kernel) rfl
theorem sJ0_length_8abf5 : Cond.selects mJ0_length_8abf5.2.1.cls mJ0_length_8abf5.2.1 mJ0_length_8abf5.2.1 ∈ zG := zt1 42 (by decide +kernel) rfl
theorem pJ0_length_8abf5 : plainFor mJ0_length_8abf5.2.1 = true := by decide +kernel
theorem gJ0_length_8abf5 : zDesc mJ0_length_8abf5 0 := ⟨by decide +kernel, by decide +kernel, by decide +kernel⟩
def mJ0_coder_7d493 : zMd := (13, yJ0_coder_7d493, cJ0_coder_7d493, 1, (Option.some .byte))
def rJ0_coder_7d493 : Room := { frames := 0, cells := 0, slots := 0, locals := 0 }
theorem qJ0_coder_7d493 : zCode mJ0_coder_7d493 ∈ zG := zt1 47 (rfl) rfl
theorem nJ0_coder_7d493 : Cond.initialized mJ0_coder_7d493.2.1.cls ∈ zG := zt1 3 (by decide +kernel) rfl
theorem iJ0_coder_7d493 : Cond.instanceMethod mJ0_coder_7d493.2.1 ∈ zG := zt1 45 (by decide +kernel) rfl
theorem sJ0_coder_7d493 : Cond.selects mJ0_coder_7d493.2.1.cls mJ0_coder_7d493.2.1 mJ0_coder_7d493.2.1 ∈ zG := zt1 46 (by decide +kernel) rfl
theorem pJ0_coder_7d493 : plainFor mJ0_coder_7d493.2.1 = true := by decide +kernel
theorem gJ0_coder_7d493 : zDesc mJ0_coder_7d493 0 := ⟨by decide +kernel, by decide +kernel, by decide +kernel⟩
def mJ0_charAt_5068e : zMd := (13, yJ0_charAt_5068e, cJ0_charAt_5068e, 2, (Option.some .char))
def rJ0_charAt_5068e : Room := { frames := 3, cells := 0, slots := 0, locals := 64 }
theorem qJ0_charAt_5068e : zCode mJ0_charAt_5068e ∈ zG := zt1 53 (rfl) rfl
theorem nJ0_charAt_5068e : Cond.initialized mJ0_charAt_5068e.2.1.cls ∈ zG := zt1 3 (by decide +kernel) rfl
theorem iJ0_charAt_5068e : Cond.instanceMethod mJ0_charAt_5068e.2.1 ∈ zG := zt1 51 (by decide +kernel) rfl
theorem sJ0_charAt_5068e : Cond.selects mJ0_charAt_5068e.2.1.cls mJ0_charAt_5068e.2.1 mJ0_charAt_5068e.2.1 ∈ zG := zt1 52 (by decide +kernel) rfl
theorem pJ0_charAt_5068e : plainFor mJ0_charAt_5068e.2.1 = true := by decide +kernel
theorem gJ0_charAt_5068e : zDesc mJ0_charAt_5068e 1 := ⟨by decide +kernel, by decide +kernel, by decide +kernel⟩
def mJ0_isLatin1_aae02 : zMd := (13, yJ0_isLatin1_aae02, cJ0_isLatin1_aae02, 1, (Option.some .boolean))
def rJ0_isLatin1_aae02 : Room := { frames := 0, cells := 0, slots := 0, locals := 0 }
theorem qJ0_isLatin1_aae02 : zCode mJ0_isLatin1_aae02 ∈ zG := zt1 57 (rfl) rfl
theorem nJ0_isLatin1_aae02 : Cond.initialized mJ0_isLatin1_aae02.2.1.cls ∈ zG := zt1 3 (by decide +kernel) rfl
theorem iJ0_isLatin1_aae02 : Cond.instanceMethod mJ0_isLatin1_aae02.2.1 ∈ zG := zt1 55 (by decide +kernel) rfl
theorem sJ0_isLatin1_aae02 : Cond.selects mJ0_isLatin1_aae02.2.1.cls mJ0_isLatin1_aae02.2.1 mJ0_isLatin1_aae02.2.1 ∈ zG := zt1 56 (by decide +kernel) rfl
theorem pJ0_isLatin1_aae02 : plainFor mJ0_isLatin1_aae02.2.1 = true := by decide +kernel
theorem gJ0_isLatin1_aae02 : zDesc mJ0_isLatin1_aae02 0 := ⟨by decide +kernel, by decide +kernel, by decide +kernel⟩
def mJ0_checkIndex_df160 : zMd := (13, yJ0_checkIndex_df160, cJ0_checkIndex_df160, 2, (Option.none : Option Jvm.ClassFile.FieldType))
def rJ0_checkIndex_df160 : Room := { frames := 1, cells := 0, slots := 0, locals := 22 }
theorem qJ0_checkIndex_df160 : zCode mJ0_checkIndex_df160 ∈ zG := zt1 63 (rfl) rfl
theorem nJ0_checkIndex_df160 : Cond.initialized mJ0_checkIndex_df160.2.1.cls ∈ zG := zt1 3 (by decide +kernel) rfl
theorem eJ0_checkIndex_df160 : zMeS mJ0_checkIndex_df160 2 := ⟨qJ0_checkIndex_df160, plainFor_of_name (by decide +kernel), zt1 62 (by decide +kernel) rfl, nJ0_checkIndex_df160, ⟨by decide +kernel, by decide +kernel, by decide +kernel⟩⟩
def mJ1_charAt_3b067 : zMd := (13, yJ1_charAt_3b067, cJ1_charAt_3b067, 2, (Option.some .char))
def rJ1_charAt_3b067 : Room := { frames := 2, cells := 0, slots := 0, locals := 43 }
theorem qJ1_charAt_3b067 : zCode mJ1_charAt_3b067 ∈ zG := zt1 60 (rfl) rfl
theorem nJ1_charAt_3b067 : Cond.initialized mJ1_charAt_3b067.2.1.cls ∈ zG := zt1 4 (by decide +kernel) rfl
theorem eJ1_charAt_3b067 : zMeS mJ1_charAt_3b067 2 := ⟨qJ1_charAt_3b067, plainFor_of_name (by decide +kernel), zt1 59 (by decide +kernel) rfl, nJ1_charAt_3b067, ⟨by decide +kernel, by decide +kernel, by decide +kernel⟩⟩
def mJ3_checkIndex_8e157 : zMd := (13, yJ3_checkIndex_8e157, cJ3_checkIndex_8e157, 3, (Option.some .int))
def rJ3_checkIndex_8e157 : Room := { frames := 0, cells := 0, slots := 0, locals := 0 }
theorem qJ3_checkIndex_8e157 : zCode mJ3_checkIndex_8e157 ∈ zG := zt1 68 (rfl) rfl
theorem nJ3_checkIndex_8e157 : Cond.initialized mJ3_checkIndex_8e157.2.1.cls ∈ zG := zt1 5 (by decide +kernel) rfl
theorem eJ3_checkIndex_8e157 : zMeS mJ3_checkIndex_8e157 3 := ⟨qJ3_checkIndex_8e157, plainFor_of_name (by decide +kernel), zt1 67 (by decide +kernel) rfl, nJ3_checkIndex_8e157, ⟨by decide +kernel, by decide +kernel, by decide +kernel⟩⟩
theorem zj_check {i n : Int32} {v : Value} (hv : v.category = 1) (h0 : ¬ i < 0) (h1 : i < n) (hQ : Q (some (.int i)) μ) : zXM w mJ3_checkIndex_8e157 rJ3_checkIndex_8e157 [.int i, .int n, v] μ Q := by
  unfold zXM
  simp only [lv_args, zCat1, hv]
  refine z_iload_n (by decide +kernel : decode cJ3_checkIndex_8e157 0 = .ok (.iload_n 0, 1)) rfl ?_
  refine z_if_lt (tgt := 9) (by decide +kernel : decode cJ3_checkIndex_8e157 1 = .ok (.ifCond .lt 8, 3)) (by decide) (fun h => absurd h h0) (fun _ => ?_)
  refine z_iload_n (by decide +kernel : decode cJ3_checkIndex_8e157 4 = .ok (.iload_n 0, 1)) rfl ?_
  refine z_iload_n (by decide +kernel : decode cJ3_checkIndex_8e157 5 = .ok (.iload_n 1, 1)) rfl ?_
  refine z_icmp_lt (tgt := 16) (by decide +kernel : decode cJ3_checkIndex_8e157 6 = .ok (.if_icmp .lt 10, 3)) (by decide) (fun _ => ?_) (fun h => absurd h1 h)
  refine z_iload_n (by decide +kernel : decode cJ3_checkIndex_8e157 16 = .ok (.iload_n 0, 1)) rfl ?_
  exact z_ret (v := some (.int i)) (by decide +kernel : decode cJ3_checkIndex_8e157 17 = .ok (.ireturn, 1)) ⟨_, rfl, rfl⟩ (Nat.le_of_ble_eq_true rfl) (Nat.le_of_ble_eq_true rfl) hQ
theorem zj_checkS (hok : zOk w) {i n : Int32} (h0 : ¬ i < 0) (h1 : i < n) (hQ : Q none μ) : zXM w mJ0_checkIndex_df160 rJ0_checkIndex_df160 [.int i, .int n] μ Q := by
  unfold zXM
  simp only [lv_args, zCat1]
  refine z_iload_n (by decide +kernel : decode cJ0_checkIndex_df160 0 = .ok (.iload_n 0, 1)) rfl ?_
  refine z_iload_n (by decide +kernel : decode cJ0_checkIndex_df160 1 = .ok (.iload_n 1, 1)) rfl ?_
  have go : ∀ v : Value, v.category = 1 → zX w mJ0_checkIndex_df160 rJ0_checkIndex_df160 Q 0 0 5 [(0, Value.int i), (1, Value.int n)] [v, .int n, .int i] μ := by
    intro v hv
    refine z_cS (M' := mJ3_checkIndex_8e157) (R' := rJ3_checkIndex_8e157) [.int i, .int n, v] [] eJ3_checkIndex_8e157 (zt1 66 (by decide +kernel) rfl) (by decide +kernel : decode cJ0_checkIndex_df160 5 = .ok (.invokestatic 1059, 3)) (by simp [lg_sl, zCat1, hv, mJ3_checkIndex_8e157]) ⟨Nat.le_of_ble_eq_true rfl, Nat.le_of_ble_eq_true rfl, Nat.le_of_ble_eq_true rfl, Nat.le_of_ble_eq_true rfl, Nat.le_of_ble_eq_true rfl⟩ rfl (zj_check hv h0 h1 ?_)
    refine z_pop (by decide +kernel : decode cJ0_checkIndex_df160 8 = .ok (.pop, 1)) rfl ?_
    exact z_ret (v := none) (by decide +kernel : decode cJ0_checkIndex_df160 9 = .ok (.return_, 1)) rfl (Nat.le_of_ble_eq_true rfl) (Nat.le_of_ble_eq_true rfl) hQ
  exact z_getsQ (u := 12) (t := 12) rfl (by decide +kernel : decode cJ0_checkIndex_df160 2 = .ok (.getstatic 1053, 3)) (zt1 64 (by decide +kernel) rfl) (fun U H hx => (hok U H hx).2.2.2.2.2.2) (go _ rfl) (go _ rfl)
theorem zj_charL (hok : zOk w) {i : Int32} (h0 : vp_in i 136) (hQ : Q (some (.int ((zWb i.toNatClampNeg &&& 255).toUInt32 % 65536).toInt32)) μ) : zXM w mJ1_charAt_3b067 rJ1_charAt_3b067 [.float 11, .int i] μ Q := by
  unfold zXM
  have hb := vp_in_iff.mp h0
  have c0 : ¬ i < 0 := fun h => by have := Int32.lt_iff_toInt_lt.mp h; simp at this; omega
  have c1 : i < Int32.ofNat 136 := Int32.lt_iff_toInt_lt.mpr (by have e : (Int32.ofNat 136).toInt = 136 := rfl; rw [e]; omega)
  refine z_iload_n (by decide +kernel : decode cJ1_charAt_3b067 0 = .ok (.iload_n 1, 1)) rfl ?_
  refine z_aload_nT (by decide +kernel : decode cJ1_charAt_3b067 1 = .ok (.aload_n 0, 1)) rfl ?_
  refine z_talen (t := 11) rfl (by decide +kernel : decode cJ1_charAt_3b067 2 = .ok (.arraylength, 1)) (fun U H hx => (hok U H hx).2.2.2.2.1.2.2.2.2) ?_
  refine z_cS (M' := mJ0_checkIndex_df160) (R' := rJ0_checkIndex_df160) [.int i, .int (Int32.ofNat 136)] [] eJ0_checkIndex_df160 (zt1 61 (by decide +kernel) rfl) (by decide +kernel : decode cJ1_charAt_3b067 3 = .ok (.invokestatic 9, 3)) (Nat.le_of_ble_eq_true rfl) ⟨Nat.le_of_ble_eq_true rfl, Nat.le_of_ble_eq_true rfl, Nat.le_of_ble_eq_true rfl, Nat.le_of_ble_eq_true rfl, Nat.le_of_ble_eq_true rfl⟩ rfl (zj_checkS hok c0 c1 ?_)
  refine z_aload_nT (by decide +kernel : decode cJ1_charAt_3b067 6 = .ok (.aload_n 0, 1)) rfl ?_
  refine z_iload_n (by decide +kernel : decode cJ1_charAt_3b067 7 = .ok (.iload_n 1, 1)) rfl ?_
  refine z_tbald (t := 11) rfl (by decide +kernel : decode cJ1_charAt_3b067 8 = .ok (.baload, 1)) (fun U H hx => (hok U H hx).2.2.2.2.1.2.2.2.2) h0 ?_
  refine z_sipush (by decide +kernel : decode cJ1_charAt_3b067 9 = .ok (.sipush 255, 3)) ?_
  refine z_iand (by decide +kernel : decode cJ1_charAt_3b067 12 = .ok (.iand, 1)) ?_
  refine z_i2c (by decide +kernel : decode cJ1_charAt_3b067 13 = .ok (.i2c, 1)) ?_
  exact z_ret (v := some (.int _)) (by decide +kernel : decode cJ1_charAt_3b067 14 = .ok (.ireturn, 1)) ⟨_, rfl, pk_nc _⟩ (Nat.le_of_ble_eq_true rfl) (Nat.le_of_ble_eq_true rfl) hQ
theorem zj_latin (hok : zOk w) (hQ : Q (some (.int 1)) μ) : zXM w mJ0_isLatin1_aae02 rJ0_isLatin1_aae02 [.float 10] μ Q := by
  unfold zXM
  refine z_getsI (by decide +kernel : decode cJ0_isLatin1_aae02 0 = .ok (.getstatic 38, 3)) (zt1 48 (by decide +kernel) rfl) (fun U H hx => (hok U H hx).2.2.2.2.2.1) ?_
  refine z_if_eq (tgt := 17) (by decide +kernel : decode cJ0_isLatin1_aae02 3 = .ok (.ifCond .eq 14, 3)) (by decide) (fun h => absurd h (by decide)) (fun _ => ?_)
  refine z_aload_nT (by decide +kernel : decode cJ0_isLatin1_aae02 6 = .ok (.aload_n 0, 1)) rfl ?_
  refine z_sgetI (t := 10) rfl (by decide +kernel : decode cJ0_isLatin1_aae02 7 = .ok (.getfield 15, 3)) (zt9 93 (by decide +kernel) rfl) (fun U H hx => (hok U H hx).2.2.2.2.1.2.2.1) ?_
  refine z_if_ne (tgt := 17) (by decide +kernel : decode cJ0_isLatin1_aae02 10 = .ok (.ifCond .ne 7, 3)) (by decide) (fun h => absurd rfl h) (fun _ => ?_)
  refine z_iconst (by decide +kernel : decode cJ0_isLatin1_aae02 13 = .ok (.iconst 1, 1)) ?_
  refine z_goto (tgt := 18) (by decide +kernel : decode cJ0_isLatin1_aae02 14 = .ok (.goto 4, 3)) (by decide) ?_
  exact z_ret (v := some (.int 1)) (by decide +kernel : decode cJ0_isLatin1_aae02 18 = .ok (.ireturn, 1)) ⟨_, rfl, rfl⟩ (Nat.le_of_ble_eq_true rfl) (Nat.le_of_ble_eq_true rfl) hQ
theorem zj_coder (hok : zOk w) (hQ : Q (some (.int 0)) μ) : zXM w mJ0_coder_7d493 rJ0_coder_7d493 [.float 10] μ Q := by
  unfold zXM
  refine z_getsI (by decide +kernel : decode cJ0_coder_7d493 0 = .ok (.getstatic 38, 3)) (zt1 48 (by decide +kernel) rfl) (fun U H hx => (hok U H hx).2.2.2.2.2.1) ?_
  refine z_if_eq (tgt := 13) (by decide +kernel : decode cJ0_coder_7d493 3 = .ok (.ifCond .eq 10, 3)) (by decide) (fun h => absurd h (by decide)) (fun _ => ?_)
  refine z_aload_nT (by decide +kernel : decode cJ0_coder_7d493 6 = .ok (.aload_n 0, 1)) rfl ?_
  refine z_sgetI (t := 10) rfl (by decide +kernel : decode cJ0_coder_7d493 7 = .ok (.getfield 15, 3)) (zt9 93 (by decide +kernel) rfl) (fun U H hx => (hok U H hx).2.2.2.2.1.2.2.1) ?_
  refine z_goto (tgt := 14) (by decide +kernel : decode cJ0_coder_7d493 10 = .ok (.goto 4, 3)) (by decide) ?_
  exact z_ret (v := some (.int 0)) (by decide +kernel : decode cJ0_coder_7d493 14 = .ok (.ireturn, 1)) ⟨_, rfl, rfl⟩ (Nat.le_of_ble_eq_true rfl) (Nat.le_of_ble_eq_true rfl) hQ
theorem zj_length (hok : zOk w) (hQ : Q (some (.int 136)) μ) : zXM w mJ0_length_8abf5 rJ0_length_8abf5 [.float 10] μ Q := by
  unfold zXM
  refine z_aload_nT (by decide +kernel : decode cJ0_length_8abf5 0 = .ok (.aload_n 0, 1)) rfl ?_
  refine z_sgetT (u2 := 11) (t := 10) (t2 := 11) rfl rfl (by decide +kernel : decode cJ0_length_8abf5 1 = .ok (.getfield 9, 3)) (zt9 92 (by decide +kernel) rfl) (fun U H hx => (hok U H hx).2.2.2.2.1.2.2.2.1) ?_
  refine z_talen (t := 11) rfl (by decide +kernel : decode cJ0_length_8abf5 4 = .ok (.arraylength, 1)) (fun U H hx => (hok U H hx).2.2.2.2.1.2.2.2.2) ?_
  refine z_aload_nT (by decide +kernel : decode cJ0_length_8abf5 5 = .ok (.aload_n 0, 1)) rfl ?_
  refine z_callVT (M' := mJ0_coder_7d493) (R' := rJ0_coder_7d493) (t := 10) [] [.int (Int32.ofNat 136)] rfl qJ0_coder_7d493 pJ0_coder_7d493 (zt1 44 (by decide +kernel) rfl) iJ0_coder_7d493 sJ0_coder_7d493 nJ0_coder_7d493 gJ0_coder_7d493 (by decide +kernel : decode cJ0_length_8abf5 6 = .ok (.invokevirtual 335, 3)) (Nat.le_of_ble_eq_true rfl) ⟨Nat.le_of_ble_eq_true rfl, Nat.le_of_ble_eq_true rfl, Nat.le_of_ble_eq_true rfl, Nat.le_of_ble_eq_true rfl, Nat.le_of_ble_eq_true rfl⟩ rfl (fun U H hx => (hok U H hx).2.2.2.2.1.2.1) (zj_coder hok ?_)
  refine z_ishr (by decide +kernel : decode cJ0_length_8abf5 9 = .ok (.ishr, 1)) ?_
  exact z_ret (v := some (.int 136)) (by decide +kernel : decode cJ0_length_8abf5 10 = .ok (.ireturn, 1)) ⟨_, rfl, rfl⟩ (Nat.le_of_ble_eq_true rfl) (Nat.le_of_ble_eq_true rfl) hQ
theorem zj_charAt (hok : zOk w) {i : Int32} (h0 : vp_in i 136) (hQ : Q (some (.int ((zWb i.toNatClampNeg &&& 255).toUInt32 % 65536).toInt32)) μ) : zXM w mJ0_charAt_5068e rJ0_charAt_5068e [.float 10, .int i] μ Q := by
  unfold zXM
  refine z_aload_nT (by decide +kernel : decode cJ0_charAt_5068e 0 = .ok (.aload_n 0, 1)) rfl ?_
  refine z_callVT (M' := mJ0_isLatin1_aae02) (R' := rJ0_isLatin1_aae02) (t := 10) [] [] rfl qJ0_isLatin1_aae02 pJ0_isLatin1_aae02 (zt1 54 (by decide +kernel) rfl) iJ0_isLatin1_aae02 sJ0_isLatin1_aae02 nJ0_isLatin1_aae02 gJ0_isLatin1_aae02 (by decide +kernel : decode cJ0_charAt_5068e 1 = .ok (.invokevirtual 492, 3)) (Nat.le_of_ble_eq_true rfl) ⟨Nat.le_of_ble_eq_true rfl, Nat.le_of_ble_eq_true rfl, Nat.le_of_ble_eq_true rfl, Nat.le_of_ble_eq_true rfl, Nat.le_of_ble_eq_true rfl⟩ rfl (fun U H hx => (hok U H hx).2.2.2.2.1.2.1) (zj_latin hok ?_)
  refine z_if_eq (tgt := 16) (by decide +kernel : decode cJ0_charAt_5068e 4 = .ok (.ifCond .eq 12, 3)) (by decide) (fun h => absurd h (by decide)) (fun _ => ?_)
  refine z_aload_nT (by decide +kernel : decode cJ0_charAt_5068e 7 = .ok (.aload_n 0, 1)) rfl ?_
  refine z_sgetT (u2 := 11) (t := 10) (t2 := 11) rfl rfl (by decide +kernel : decode cJ0_charAt_5068e 8 = .ok (.getfield 9, 3)) (zt9 92 (by decide +kernel) rfl) (fun U H hx => (hok U H hx).2.2.2.2.1.2.2.2.1) ?_
  refine z_iload_n (by decide +kernel : decode cJ0_charAt_5068e 11 = .ok (.iload_n 1, 1)) rfl ?_
  refine z_cS (M' := mJ1_charAt_3b067) (R' := rJ1_charAt_3b067) [.float 11, .int i] [] eJ1_charAt_3b067 (zt1 58 (by decide +kernel) rfl) (by decide +kernel : decode cJ0_charAt_5068e 12 = .ok (.invokestatic 495, 3)) (Nat.le_of_ble_eq_true rfl) ⟨Nat.le_of_ble_eq_true rfl, Nat.le_of_ble_eq_true rfl, Nat.le_of_ble_eq_true rfl, Nat.le_of_ble_eq_true rfl, Nat.le_of_ble_eq_true rfl⟩ rfl (zj_charL hok h0 ?_)
  exact z_ret (v := some (.int _)) (by decide +kernel : decode cJ0_charAt_5068e 15 = .ok (.ireturn, 1)) ⟨_, rfl, pk_nc _⟩ (Nat.le_of_ble_eq_true rfl) (Nat.le_of_ble_eq_true rfl) hQ
end ZJ
