/-! ===== System.arraycopy ===== -/
section ZY
variable {w : zP} {M : zMd} {R : Room} {Q : Option Value → zMem → Prop} {kc ks pc : Nat} {lv : zLoc} {st : List Value} {μ : zMem}
theorem z_nn (z : Int32) (hz : ¬ z < 0) : z.toInt = (z.toNatClampNeg : Int) := by
  have hz0 : (0 : Int) ≤ z.toInt := by
    have := Int32.not_lt.mp hz
    simpa using Int32.le_iff_toInt_le.mp this
  show z.toInt = ((z.toInt.toNat : Nat) : Int)
  omega
theorem zRow_same {α : Type} (f : Nat → Nat → α) (a : Nat) (r : Nat → α) : zRow f a r a = r := by simp [zRow]
theorem zRow_ne {α : Type} (f : Nat → Nat → α) {a x : Nat} (r : Nat → α) (h : x ≠ a) : zRow f a r x = f x := by simp [zRow, h]
/-- the words of arraycopy -/
def zCpW (own : String) (idx : Nat) : Prop := Cond.methodLink own idx arraycopyName ∈ zG ∧ Cond.native arraycopyName ∈ zG ∧ Cond.static arraycopyName ∈ zG ∧ Cond.initialized "java/lang/System" ∈ zG
theorem z_cpyIG {a0 j n0 n1 idx : Nat} {F : Nat → Int32} {sp dp n : Int32} {v0 : Value} (hv0 : zCv w v0 = .ref a0) (hd : decode M.2.2.1 pc = .ok (.invokestatic idx, 3)) (hw : zCpW M.2.1.cls idx)
    (hsrc : ∀ (s : State) (H : Heap) (locs : List Loc), va_K (zD w) vwCl (zTys (zg w)) s → zex w s s.heap → zHas w μ H → va_S (zA w) s.heap H locs → ∃ scr : Cell, H[a0]? = some scr ∧ s.isArrayOf scr (zAty 0) ∧ scr.vm ≠ .unknown ∧ n0 ≤ scr.slots.size ∧ ∀ i : Nat, i < n0 → scr.slots[i]? = some (.int (F i)))
    (hs1 : μ.1[j]? = some (.inl (0, n1))) (h1 : ¬ sp < 0) (h2 : ¬ dp < 0) (h3 : ¬ n < 0) (h4 : sp.toNatClampNeg + n.toNatClampNeg ≤ n0) (h5 : dp.toNatClampNeg + n.toNatClampNeg ≤ n1) (hf : 1 ≤ R.frames) (hlo : (st.map fun v => v.category).sum + 18 ≤ R.locals)
    (kk : zX w M R Q kc ks (pc + 3) lv st (μ.1, zRow μ.2.1 j (va_cpy F (μ.2.1 j) sp.toNatClampNeg dp.toNatClampNeg n.toNatClampNeg), μ.2.2.1, μ.2.2.2)) : zX w M R Q kc ks pc lv (.int n :: .int dp :: .ref j :: .int sp :: v0 :: st) μ := by
  intro p e s m args below meth c Qm C hK hret H locs ls hH hS hl
  obtain ⟨hx, hb, hml, hown, hts, hKn, hex, hb0, hlk, hr, hnm⟩ := id C
  obtain ⟨scr, hc0, hs2, hs3, hs4, hs5⟩ := hsrc s H locs hKn hex hH hS
  have he := zW_at (w := w) hs1
  rw [zE_I (by decide)] at he
  have hc1 : H[zb w + j]? = some (vp_cell (zg w 0) (n1, .inl (μ.2.1 j))) := hH.1 j _ he
  obtain ⟨hs6, k0, hk0, cm0, hkk0⟩ := hs2
  obtain ⟨-, k1, hk1, cm1, hkk1⟩ := (hKn.2 0 _ (zTys_at 0 (by decide) _)).1 n1 (fun b => .int (μ.2.1 j b))
  show W p (zl w) e R s m args below meth c H locs kc ks Qm (F0 m pc ls (.int n :: .int dp :: .ref (zb w + j) :: .int sp :: zCv w v0 :: st.map (zCv w)))
  rw [hv0]
  have hloc : 2 * (F0 m pc ls (.int n :: .int dp :: .ref (zb w + j) :: .int sp :: .ref a0 :: st.map (zCv w))).monitorRoom + ((st.map (zCv w)).map fun v => v.category).sum + (nativeFrameWords "java/lang/System" "arraycopy" 5 + 11) ≤ R.locals := by
    have e7 : nativeFrameWords "java/lang/System" "arraycopy" 5 = 7 := by decide
    have e0 : (F0 m pc ls (.int n :: .int dp :: .ref (zb w + j) :: .int sp :: .ref a0 :: st.map (zCv w))).monitorRoom = 0 := rfl
    rw [zCat, e7, e0]
    omega
  intro T hT X
  obtain ⟨vm', X', step⟩ := X.arraycopy hx hown (hts _ hw.1) (hts _ hw.2.1) (hts _ hw.2.2.1) (hts _ hw.2.2.2) (src := a0) (dst := zb w + j) (cs := scr) (cd := vp_cell (zg w 0) (n1, .inl (μ.2.1 j))) (srcPos := sp) (destPos := dp) (n := n) (by rw [hT]; exact hc0) (by rw [hT]; exact hc1)
    hs6 (fun _ h => by cases h) hs3 (fun h => by cases h) hk0 hk1 hkk0 hkk1 (by simp [refKind, zAty]) h1 h2 h3
    (by rw [z_nn sp h1, z_nn n h3]; omega)
    (by rw [z_nn dp h2, z_nn n h3]; show ¬ _ > ((arrV (zg w 0) n1 (fun b => .int (μ.2.1 j b))).slots.size : Int); rw [arrV_size]; omega)
    (fun vm₁ _ i hi => by
      have e1 : scr.slots.getD (sp.toNatClampNeg + i) .null = .int (F (sp.toNatClampNeg + i)) := by
        rw [Array.getD_eq_getD_getElem?, hs5 _ (by omega)]
        rfl
      refine ⟨?_, ?_⟩
      · rw [e1]
        rfl
      · rw [e1]
        exact trivial)
    (g := F0 m pc ls (.int n :: .int dp :: .ref (zb w + j) :: .int sp :: .ref a0 :: st.map (zCv w))) rfl (by rw [hml]; exact hl.1) (rest := st.map (zCv w)) rfl (by rw [hb]; exact hd) hf hloc
  have e1 : copied scr (vp_cell (zg w 0) (n1, .inl (μ.2.1 j))) sp dp n = vp_cell (zg w 0) (n1, .inl (va_cpy F (μ.2.1 j) sp.toNatClampNeg dp.toNatClampNeg n.toNatClampNeg)) := va_copiedX (fun z => .int z) scr (zg w 0) F (μ.2.1 j) hs5 h4
  rw [e1] at X' step
  have hlt : zb w + j < H.size := (Array.getElem?_eq_some_iff.mp hc1).1
  have hheap : ((T.setVm vm').setCell (zb w + j) (vp_cell (zg w 0) (n1, .inl (va_cpy F (μ.2.1 j) sp.toNatClampNeg dp.toNatClampNeg n.toNatClampNeg)))).heap = H.setIfInBounds (zb w + j) (vp_cell (zg w 0) (n1, .inl (va_cpy F (μ.2.1 j) sp.toNatClampNeg dp.toNatClampNeg n.toNatClampNeg))) := by rw [← hT]; rfl
  have oq : ∀ q : Nat, q ≠ zb w + j → (H.setIfInBounds (zb w + j) (vp_cell (zg w 0) (n1, .inl (va_cpy F (μ.2.1 j) sp.toNatClampNeg dp.toNatClampNeg n.toNatClampNeg))))[q]? = H[q]? := fun q hq => by simp [Array.getElem?_setIfInBounds, Ne.symm hq]
  have hP1 := hH.1.set (zW_D w μ) he (e := .inl (zg w 0, n1, .inl (va_cpy F (μ.2.1 j) sp.toNatClampNeg dp.toNatClampNeg n.toNatClampNeg))) (show (H.setIfInBounds (zb w + j) _)[zb w + j]? = some _ by simp [Array.getElem?_setIfInBounds, hlt]) oq
  have hsz : (H.setIfInBounds (zb w + j) (vp_cell (zg w 0) (n1, .inl (va_cpy F (μ.2.1 j) sp.toNatClampNeg dp.toNatClampNeg n.toNatClampNeg)))).size = H.size := by simp
  obtain ⟨t, a1, b1⟩ := kk p e s m args below meth c Qm C hK hret _ _ ls (zHas_set (μ' := (μ.1, zRow μ.2.1 j (va_cpy F (μ.2.1 j) sp.toNatClampNeg dp.toNatClampNeg n.toNatClampNeg), μ.2.2.1, μ.2.2.2)) (s := .inl (0, n1)) hH rfl hs1 (fun a ha => ⟨zRow_ne _ _ ha, rfl, rfl⟩) (by rw [zE_I (by decide)]; simp only [zRow_same]) hP1 hsz)
    ⟨by rw [hsz]; exact hS.1, fun q g1 g2 => by
      rw [oq q (fun e => g2 (by rw [e]; exact Nat.le_add_right _ _))]
      exact hS.2.1 q g1 g2, fun q hq => by
      rcases List.mem_append.mp hq with h | h
      · exact hS.2.2 q h
      · obtain ⟨z, -, hz⟩ := List.mem_map.mp h
        rw [← hz]
        exact Nat.le_add_right _ _⟩ hl _ hheap X'
  exact ⟨t, step t a1, b1⟩
theorem z_cpyI {i j n0 n1 idx : Nat} {sp dp n : Int32} (hd : decode M.2.2.1 pc = .ok (.invokestatic idx, 3)) (hw : zCpW M.2.1.cls idx) (hs0 : μ.1[i]? = some (.inl (0, n0))) (hs1 : μ.1[j]? = some (.inl (0, n1))) (h1 : ¬ sp < 0) (h2 : ¬ dp < 0) (h3 : ¬ n < 0) (h4 : sp.toNatClampNeg + n.toNatClampNeg ≤ n0) (h5 : dp.toNatClampNeg + n.toNatClampNeg ≤ n1) (hf : 1 ≤ R.frames) (hlo : (st.map fun v => v.category).sum + 18 ≤ R.locals)
    (kk : zX w M R Q kc ks (pc + 3) lv st (μ.1, zRow μ.2.1 j (va_cpy (μ.2.1 i) (μ.2.1 j) sp.toNatClampNeg dp.toNatClampNeg n.toNatClampNeg), μ.2.2.1, μ.2.2.2)) : zX w M R Q kc ks pc lv (.int n :: .int dp :: .ref j :: .int sp :: .ref i :: st) μ := by
  refine z_cpyIG (v0 := .ref i) rfl hd hw (fun s H locs hKn hex hH hS => ?_) hs1 h1 h2 h3 h4 h5 hf hlo kk
  have he := zW_at (w := w) hs0
  rw [zE_I (by decide)] at he
  refine ⟨_, hH.1 i _ he, (hKn.2 0 _ (zTys_at 0 (by decide) _)).1 n0 (fun b => .int (μ.2.1 i b)), (fun h => by cases h), ?_, fun b hb => ?_⟩
  · show n0 ≤ (arrV (zg w 0) n0 (fun b => .int (μ.2.1 i b))).slots.size
    rw [arrV_size]
    exact Nat.le_refl _
  · show (arrV (zg w 0) n0 (fun b => .int (μ.2.1 i b))).slots[b]? = _
    exact arrV_read _ _ hb
theorem z_cpyLG {a0 j n0 n1 idx : Nat} {F : Nat → Int64} {sp dp n : Int32} {v0 : Value} (hv0 : zCv w v0 = .ref a0) (hd : decode M.2.2.1 pc = .ok (.invokestatic idx, 3)) (hw : zCpW M.2.1.cls idx)
    (hsrc : ∀ (s : State) (H : Heap) (locs : List Loc), va_K (zD w) vwCl (zTys (zg w)) s → zex w s s.heap → zHas w μ H → va_S (zA w) s.heap H locs → ∃ scr : Cell, H[a0]? = some scr ∧ s.isArrayOf scr (zAty 1) ∧ scr.vm ≠ .unknown ∧ n0 ≤ scr.slots.size ∧ ∀ i : Nat, i < n0 → scr.slots[i]? = some (.long (F i)))
    (hs1 : μ.1[j]? = some (.inl (1, n1))) (h1 : ¬ sp < 0) (h2 : ¬ dp < 0) (h3 : ¬ n < 0) (h4 : sp.toNatClampNeg + n.toNatClampNeg ≤ n0) (h5 : dp.toNatClampNeg + n.toNatClampNeg ≤ n1) (hf : 1 ≤ R.frames) (hlo : (st.map fun v => v.category).sum + 18 ≤ R.locals)
    (kk : zX w M R Q kc ks (pc + 3) lv st (μ.1, μ.2.1, zRow μ.2.2.1 j (va_cpy F (μ.2.2.1 j) sp.toNatClampNeg dp.toNatClampNeg n.toNatClampNeg), μ.2.2.2)) : zX w M R Q kc ks pc lv (.int n :: .int dp :: .ref j :: .int sp :: v0 :: st) μ := by
  intro p e s m args below meth c Qm C hK hret H locs ls hH hS hl
  obtain ⟨hx, hb, hml, hown, hts, hKn, hex, hb0, hlk, hr, hnm⟩ := id C
  obtain ⟨scr, hc0, hs2, hs3, hs4, hs5⟩ := hsrc s H locs hKn hex hH hS
  have he := zW_at (w := w) hs1
  rw [zE_L] at he
  have hc1 : H[zb w + j]? = some (vp_cell (zg w 1) (n1, .inr (.inl (μ.2.2.1 j)))) := hH.1 j _ he
  obtain ⟨hs6, k0, hk0, cm0, hkk0⟩ := hs2
  obtain ⟨-, k1, hk1, cm1, hkk1⟩ := (hKn.2 1 _ (zTys_at 1 (by decide) _)).1 n1 (fun b => .long (μ.2.2.1 j b))
  show W p (zl w) e R s m args below meth c H locs kc ks Qm (F0 m pc ls (.int n :: .int dp :: .ref (zb w + j) :: .int sp :: zCv w v0 :: st.map (zCv w)))
  rw [hv0]
  have hloc : 2 * (F0 m pc ls (.int n :: .int dp :: .ref (zb w + j) :: .int sp :: .ref a0 :: st.map (zCv w))).monitorRoom + ((st.map (zCv w)).map fun v => v.category).sum + (nativeFrameWords "java/lang/System" "arraycopy" 5 + 11) ≤ R.locals := by
    have e7 : nativeFrameWords "java/lang/System" "arraycopy" 5 = 7 := by decide
    have e0 : (F0 m pc ls (.int n :: .int dp :: .ref (zb w + j) :: .int sp :: .ref a0 :: st.map (zCv w))).monitorRoom = 0 := rfl
    rw [zCat, e7, e0]
    omega
  intro T hT X
  obtain ⟨vm', X', step⟩ := X.arraycopy hx hown (hts _ hw.1) (hts _ hw.2.1) (hts _ hw.2.2.1) (hts _ hw.2.2.2) (src := a0) (dst := zb w + j) (cs := scr) (cd := vp_cell (zg w 1) (n1, .inr (.inl (μ.2.2.1 j)))) (srcPos := sp) (destPos := dp) (n := n) (by rw [hT]; exact hc0) (by rw [hT]; exact hc1)
    hs6 (fun _ h => by cases h) hs3 (fun h => by cases h) hk0 hk1 hkk0 hkk1 (by simp [refKind, zAty]) h1 h2 h3
    (by rw [z_nn sp h1, z_nn n h3]; omega)
    (by rw [z_nn dp h2, z_nn n h3]; show ¬ _ > ((arrV (zg w 1) n1 (fun b => .long (μ.2.2.1 j b))).slots.size : Int); rw [arrV_size]; omega)
    (fun vm₁ _ i hi => by
      have e1 : scr.slots.getD (sp.toNatClampNeg + i) .null = .long (F (sp.toNatClampNeg + i)) := by
        rw [Array.getD_eq_getD_getElem?, hs5 _ (by omega)]
        rfl
      refine ⟨?_, ?_⟩
      · rw [e1]
        rfl
      · rw [e1]
        exact trivial)
    (g := F0 m pc ls (.int n :: .int dp :: .ref (zb w + j) :: .int sp :: .ref a0 :: st.map (zCv w))) rfl (by rw [hml]; exact hl.1) (rest := st.map (zCv w)) rfl (by rw [hb]; exact hd) hf hloc
  have e1 : copied scr (vp_cell (zg w 1) (n1, .inr (.inl (μ.2.2.1 j)))) sp dp n = vp_cell (zg w 1) (n1, .inr (.inl (va_cpy F (μ.2.2.1 j) sp.toNatClampNeg dp.toNatClampNeg n.toNatClampNeg))) := va_copiedX (fun z => .long z) scr (zg w 1) F (μ.2.2.1 j) hs5 h4
  rw [e1] at X' step
  have hlt : zb w + j < H.size := (Array.getElem?_eq_some_iff.mp hc1).1
  have hheap : ((T.setVm vm').setCell (zb w + j) (vp_cell (zg w 1) (n1, .inr (.inl (va_cpy F (μ.2.2.1 j) sp.toNatClampNeg dp.toNatClampNeg n.toNatClampNeg))))).heap = H.setIfInBounds (zb w + j) (vp_cell (zg w 1) (n1, .inr (.inl (va_cpy F (μ.2.2.1 j) sp.toNatClampNeg dp.toNatClampNeg n.toNatClampNeg)))) := by rw [← hT]; rfl
  have oq : ∀ q : Nat, q ≠ zb w + j → (H.setIfInBounds (zb w + j) (vp_cell (zg w 1) (n1, .inr (.inl (va_cpy F (μ.2.2.1 j) sp.toNatClampNeg dp.toNatClampNeg n.toNatClampNeg)))))[q]? = H[q]? := fun q hq => by simp [Array.getElem?_setIfInBounds, Ne.symm hq]
  have hP1 := hH.1.set (zW_D w μ) he (e := .inl (zg w 1, n1, .inr (.inl (va_cpy F (μ.2.2.1 j) sp.toNatClampNeg dp.toNatClampNeg n.toNatClampNeg)))) (show (H.setIfInBounds (zb w + j) _)[zb w + j]? = some _ by simp [Array.getElem?_setIfInBounds, hlt]) oq
  have hsz : (H.setIfInBounds (zb w + j) (vp_cell (zg w 1) (n1, .inr (.inl (va_cpy F (μ.2.2.1 j) sp.toNatClampNeg dp.toNatClampNeg n.toNatClampNeg))))).size = H.size := by simp
  obtain ⟨t, a1, b1⟩ := kk p e s m args below meth c Qm C hK hret _ _ ls (zHas_set (μ' := (μ.1, μ.2.1, zRow μ.2.2.1 j (va_cpy F (μ.2.2.1 j) sp.toNatClampNeg dp.toNatClampNeg n.toNatClampNeg), μ.2.2.2)) (s := .inl (1, n1)) hH rfl hs1 (fun a ha => ⟨rfl, zRow_ne _ _ ha, rfl⟩) (by rw [zE_L]; simp only [zRow_same]) hP1 hsz)
    ⟨by rw [hsz]; exact hS.1, fun q g1 g2 => by
      rw [oq q (fun e => g2 (by rw [e]; exact Nat.le_add_right _ _))]
      exact hS.2.1 q g1 g2, fun q hq => by
      rcases List.mem_append.mp hq with h | h
      · exact hS.2.2 q h
      · obtain ⟨z, -, hz⟩ := List.mem_map.mp h
        rw [← hz]
        exact Nat.le_add_right _ _⟩ hl _ hheap X'
  exact ⟨t, step t a1, b1⟩
theorem z_cpyL {i j n0 n1 idx : Nat} {sp dp n : Int32} (hd : decode M.2.2.1 pc = .ok (.invokestatic idx, 3)) (hw : zCpW M.2.1.cls idx) (hs0 : μ.1[i]? = some (.inl (1, n0))) (hs1 : μ.1[j]? = some (.inl (1, n1))) (h1 : ¬ sp < 0) (h2 : ¬ dp < 0) (h3 : ¬ n < 0) (h4 : sp.toNatClampNeg + n.toNatClampNeg ≤ n0) (h5 : dp.toNatClampNeg + n.toNatClampNeg ≤ n1) (hf : 1 ≤ R.frames) (hlo : (st.map fun v => v.category).sum + 18 ≤ R.locals)
    (kk : zX w M R Q kc ks (pc + 3) lv st (μ.1, μ.2.1, zRow μ.2.2.1 j (va_cpy (μ.2.2.1 i) (μ.2.2.1 j) sp.toNatClampNeg dp.toNatClampNeg n.toNatClampNeg), μ.2.2.2)) : zX w M R Q kc ks pc lv (.int n :: .int dp :: .ref j :: .int sp :: .ref i :: st) μ := by
  refine z_cpyLG (v0 := .ref i) rfl hd hw (fun s H locs hKn hex hH hS => ?_) hs1 h1 h2 h3 h4 h5 hf hlo kk
  have he := zW_at (w := w) hs0
  rw [zE_L] at he
  refine ⟨_, hH.1 i _ he, (hKn.2 1 _ (zTys_at 1 (by decide) _)).1 n0 (fun b => .long (μ.2.2.1 i b)), (fun h => by cases h), ?_, fun b hb => ?_⟩
  · show n0 ≤ (arrV (zg w 1) n0 (fun b => .long (μ.2.2.1 i b))).slots.size
    rw [arrV_size]
    exact Nat.le_refl _
  · show (arrV (zg w 1) n0 (fun b => .long (μ.2.2.1 i b))).slots[b]? = _
    exact arrV_read _ _ hb
/-- a static table of ints -/
def zTab (w : zP) (C nm : String) (j N : Nat) (f : Nat → Int32) (U : State) (H : Heap) : Prop := va_Z C nm "[I" (.ref (ztb w j)) (zA w) U H ∧ va_T .int (ztb w j) N (fun i => .int (f i)) (zA w) U H
theorem z_cpyT {t j n0 n1 idx : Nat} {u : UInt32} {C nm : String} {f : Nat → Int32} {sp dp n : Int32} (hu : u.toNat = t) (hd : decode M.2.2.1 pc = .ok (.invokestatic idx, 3)) (hw : zCpW M.2.1.cls idx) (hT : ∀ (U : State) (H : Heap), zex w U H → zTab w C nm t n0 f U H) (hs1 : μ.1[j]? = some (.inl (0, n1))) (h1 : ¬ sp < 0) (h2 : ¬ dp < 0) (h3 : ¬ n < 0) (h4 : sp.toNatClampNeg + n.toNatClampNeg ≤ n0) (h5 : dp.toNatClampNeg + n.toNatClampNeg ≤ n1) (hf : 1 ≤ R.frames) (hlo : (st.map fun v => v.category).sum + 18 ≤ R.locals)
    (kk : zX w M R Q kc ks (pc + 3) lv st (μ.1, zRow μ.2.1 j (va_cpy f (μ.2.1 j) sp.toNatClampNeg dp.toNatClampNeg n.toNatClampNeg), μ.2.2.1, μ.2.2.2)) : zX w M R Q kc ks pc lv (.int n :: .int dp :: .ref j :: .int sp :: .float u :: st) μ := by
  refine z_cpyIG (a0 := ztb w t) (v0 := .float u) (by rw [← hu]; rfl) hd hw (fun s H locs hKn hex hH hS => ?_) hs1 h1 h2 h3 h4 h5 hf hlo kk
  obtain ⟨cell, g1, g2, g3, g4, -, g6, g7⟩ := (hT s s.heap hex).2
  exact ⟨cell, by rw [hS.2.1 _ (Array.getElem?_eq_some_iff.mp g1).1 g7]; exact g1, g2, g3, g4, g6⟩
theorem z_tald {t N : Nat} {u : UInt32} {C nm : String} {f : Nat → Int32} {i : Int32} (hu : u.toNat = t) (hd : decode M.2.2.1 pc = .ok (.iaload, 1)) (hT : ∀ (U : State) (H : Heap), zex w U H → zTab w C nm t N f U H) (hin : vp_in i N) (kk : zX w M R Q kc ks (pc + 1) lv (.int (f i.toNatClampNeg) :: st) μ) : zX w M R Q kc ks pc lv (.int i :: .float u :: st) μ := by
  intro p e s m args below meth c Qm C hK hret H locs ls hH hS hl
  obtain ⟨hx, hb, hml, hown, hts, hKn, hex, hb0, hlk, hr, hnm⟩ := id C
  show W p (zl w) e R s m args below meth c H locs kc ks Qm (F0 m pc ls (.int i :: .ref (ztb w u.toNat) :: st.map (zCv w)))
  rw [hu]
  exact va_ti hx hb (hT s s.heap hex).2 hS hin rfl hd (kk p e s m args below meth c Qm C hK hret H locs ls hH hS hl)
theorem z_getsT {t N idx : Nat} {u : UInt32} {host C nm : String} {f : Nat → Int32} (hu : u.toNat = t) (hd : decode M.2.2.1 pc = .ok (.getstatic idx, 3)) (hw : ∀ (U : State) (H : Heap), zex w U H → va_Nw (.fieldLinkNest M.2.1.cls idx C nm "[I" host) U) (hT : ∀ (U : State) (H : Heap), zex w U H → zTab w C nm t N f U H) (kk : zX w M R Q kc ks (pc + 3) lv (.float u :: st) μ) : zX w M R Q kc ks pc lv st μ := by
  intro p e s m args below meth c Qm C0 hK hret H locs ls hH hS hl
  obtain ⟨hx, hb, hml, hown, hts, hKn, hex, hb0, hlk, hr, hnm⟩ := id C0
  refine va_getsN (v := .ref (ztb w t)) hx hb (hT s s.heap hex).1 hS hown (va_Nw.use rfl (hw s s.heap hex)) (fun _ h => h) hd ?_
  have k2 := kk p e s m args below meth c Qm C0 hK hret H locs ls hH hS hl
  rw [← hu]
  exact k2
end ZY
