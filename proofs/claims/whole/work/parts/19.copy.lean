/-! ===== System.arraycopy ===== -/
section ZY
variable {w : zP} {M : zMd} {R : Room} {Q : Option Value → zMem → Prop} {kc ks pc : Nat} {lv : zLoc} {st : List Value} {μ : zMem}
theorem z_nn (z : Int32) (hz : ¬ z < 0) : z.toInt = (z.toNatClampNeg : Int) := by
  have hz0 : (0 : Int) ≤ z.toInt := by
    have := Int32.not_lt.mp hz
    simpa using Int32.le_iff_toInt_le.mp this
  show z.toInt = ((z.toInt.toNat : Nat) : Int)
  omega
theorem zRow_same {α : Type} (f : Nat → Nat → α) (a : Nat) (r : Nat → α) : zRow f a r a = r := by simp [zRow]
theorem zRow_ne {α : Type} (f : Nat → Nat → α) {a x : Nat} (r : Nat → α) (h : x ≠ a) : zRow f a r x = f x := by simp [zRow, h]
/-- the words of arraycopy -/
def zCpW (own : String) (idx : Nat) : Prop := Cond.methodLink own idx arraycopyName ∈ zG ∧ Cond.native arraycopyName ∈ zG ∧ Cond.static arraycopyName ∈ zG ∧ Cond.initialized "java/lang/System" ∈ zG
/-- a stretch of one array into another of its kind; the values are of one shape -/
theorem z_cpyW {α : Type} (mk : α → Value) {p : Program} {e : Env} {s : State} {m : MethodId} {args : Array Value} {below : List Frame} {meth : Method} {c : Code} {Qm : State → Prop} {H : Heap} {locs : List Loc} {ls : Array Slot} {rest : List Value} {cc : ByteArray} {own : String} {kd a0 d n0 n1 idx : Nat} {scr : Cell} {F G : Nat → α} {sp dp n : Int32}
    (hkd : kd < 4) (hprim : refKind (zAty kd) = false) (hft : ∀ x, fits (zAty kd) (mk x) = true) (htk : ∀ (U : State) (cm : ClassId) (x : α), U.takes cm (mk x)) (hx : p.tables.exec = Jvm.exec) (hb : c.code = cc) (hsz : ls.size = c.maxLocals) (hown : s.vm.findClass own = some m.cls) (hts : ∀ q ∈ zG, q.before args s = true) (hKn : va_K (zD w) vwCl (zTys (zg w)) s) (hS : va_S (zA w) s.heap H locs) (hw : zCpW own idx)
    (src : H[a0]? = some scr) (isa : s.isArrayOf scr (zAty kd)) (kn : scr.vm ≠ .unknown) (lg : n0 ≤ scr.slots.size) (val : ∀ i : Nat, i < n0 → scr.slots[i]? = some (mk (F i))) (dst : H[zb w + d]? = some (arrV (zg w kd) n1 (fun b => mk (G b)))) (h1 : ¬ sp < 0) (h2 : ¬ dp < 0) (h3 : ¬ n < 0) (h4 : sp.toNatClampNeg + n.toNatClampNeg ≤ n0) (h5 : dp.toNatClampNeg + n.toNatClampNeg ≤ n1) (hf : 1 ≤ R.frames) (hlo : (rest.map fun v => v.category).sum + 18 ≤ R.locals) (hd : decode cc pc = .ok (.invokestatic idx, 3))
    (kk : ∀ (H1 : Heap) (locs1 : List Loc), H1[zb w + d]? = some (arrV (zg w kd) n1 (fun b => mk (va_cpy F G sp.toNatClampNeg dp.toNatClampNeg n.toNatClampNeg b))) → H1.size = H.size → (∀ q, q ≠ zb w + d → H1[q]? = H[q]?) → va_S (zA w) s.heap H1 locs1 → W p (zl w) e R s m args below meth c H1 locs1 kc ks Qm (F0 m (pc + 3) ls rest)) :
    W p (zl w) e R s m args below meth c H locs kc ks Qm (F0 m pc ls (.int n :: .int dp :: .ref (zb w + d) :: .int sp :: .ref a0 :: rest)) := by
  intro T hT X
  subst hT
  rcases isa with ⟨no, k0, hk0, cm0, kind0⟩
  rcases (hKn.2 kd _ (zTys_at kd hkd _)).1 n1 (fun b => mk (G b)) with ⟨no1, k1, hk1, cm1, kind1⟩
  have rd : ∀ i, i < n.toNatClampNeg → scr.slots.getD (sp.toNatClampNeg + i) .null = mk (F (sp.toNatClampNeg + i)) := fun i hi => by simp [Array.getD_eq_getD_getElem?, val (sp.toNatClampNeg + i) (by omega)]
  have room : 2 * (F0 m pc ls (.int n :: .int dp :: .ref (zb w + d) :: .int sp :: .ref a0 :: rest)).monitorRoom + (rest.map fun v => v.category).sum + (nativeFrameWords "java/lang/System" "arraycopy" 5 + 11) ≤ R.locals := by
    rw [show nativeFrameWords "java/lang/System" "arraycopy" 5 = 7 by decide]
    simpa using hlo
  have lim : ∀ (z : Int32) (N : Nat), ¬ z < 0 → z.toNatClampNeg + n.toNatClampNeg ≤ N → ¬ z.toInt + n.toInt > (N : Int) := fun z N hz hN => by
    rw [z_nn z hz, z_nn n h3]
    omega
  rcases X.arraycopy hx hown (hts _ hw.1) (hts _ hw.2.1) (hts _ hw.2.2.1) (hts _ hw.2.2.2) src dst no no1 kn nofun hk0 hk1 kind0 kind1 (by simp [hprim]) h1 h2 h3 (lim sp _ h1 (Nat.le_trans h4 lg)) (lim dp _ h2 (by rw [arrV_size]; exact h5)) (fun v1 _ i hi => by rw [rd i hi]; exact ⟨hft _, htk _ _ _⟩) (g := F0 m pc ls (.int n :: .int dp :: .ref (zb w + d) :: .int sp :: .ref a0 :: rest)) rfl hsz rfl (hb.symm ▸ hd) hf room with ⟨v1, X1, go⟩
  have new := heapAt_setCell_self (s := T.setVm v1) (copied scr (arrV (zg w kd) n1 (fun b => mk (G b))) sp dp n) (Array.getElem?_eq_some_iff.mp dst).1
  have oth : ∀ q, q ≠ zb w + d → ((T.setVm v1).setCell (zb w + d) (copied scr (arrV (zg w kd) n1 (fun b => mk (G b))) sp dp n)).heap[q]? = T.heap[q]? := fun q hq => heapAt_setCell_ne (s := T.setVm v1) _ (Ne.symm hq)
  have siz : ((T.setVm v1).setCell (zb w + d) (copied scr (arrV (zg w kd) n1 (fun b => mk (G b))) sp dp n)).heap.size = T.heap.size := Array.size_setIfInBounds
  rcases kk _ _ (new.trans (congrArg some (va_copiedX mk scr (zg w kd) F G val h4))) siz oth ⟨Nat.le_trans hS.1 (Nat.le_of_eq siz.symm), fun q a b => (oth q (fun z => b (z ▸ Nat.le_add_right _ _))).trans (hS.2.1 q a b), fun y hy => (List.mem_append.mp hy).elim (hS.2.2 y) (fun z => by
    rcases List.mem_map.mp z with ⟨u, _, hu⟩
    exact hu ▸ Nat.le_add_right _ _)⟩ _ rfl X1 with ⟨t, st, qt⟩
  exact ⟨t, go t st, qt⟩
theorem z_cpyIG {a0 j n0 n1 idx : Nat} {F : Nat → Int32} {sp dp n : Int32} {v0 : Value} (hv0 : zCv w v0 = .ref a0) (hd : decode M.2.2.1 pc = .ok (.invokestatic idx, 3)) (hw : zCpW M.2.1.cls idx)
    (hsrc : ∀ (s : State) (H : Heap) (locs : List Loc), va_K (zD w) vwCl (zTys (zg w)) s → zex w s s.heap → zHas w μ H → va_S (zA w) s.heap H locs → ∃ scr : Cell, H[a0]? = some scr ∧ s.isArrayOf scr (zAty 0) ∧ scr.vm ≠ .unknown ∧ n0 ≤ scr.slots.size ∧ ∀ i : Nat, i < n0 → scr.slots[i]? = some (.int (F i)))
    (hs1 : μ.1[j]? = some (.inl (0, n1))) (h1 : ¬ sp < 0) (h2 : ¬ dp < 0) (h3 : ¬ n < 0) (h4 : sp.toNatClampNeg + n.toNatClampNeg ≤ n0) (h5 : dp.toNatClampNeg + n.toNatClampNeg ≤ n1) (hf : 1 ≤ R.frames) (hlo : (st.map fun v => v.category).sum + 18 ≤ R.locals)
    (kk : zX w M R Q kc ks (pc + 3) lv st (μ.1, zRow μ.2.1 j (va_cpy F (μ.2.1 j) sp.toNatClampNeg dp.toNatClampNeg n.toNatClampNeg), μ.2.2.1, μ.2.2.2)) : zX w M R Q kc ks pc lv (.int n :: .int dp :: .ref j :: .int sp :: v0 :: st) μ := by
  intro p e s m args below meth c Qm C hK hret H locs ls hH hS hl
  obtain ⟨hx, hb, hml, hown, hts, hKn, hex, hb0, hlk, hr, hnm⟩ := id C
  rcases hsrc s H locs hKn hex hH hS with ⟨scr, s1, s2, s3, s4, s5⟩
  show W p (zl w) e R s m args below meth c H locs kc ks Qm (F0 m pc ls (.int n :: .int dp :: .ref (zb w + j) :: .int sp :: zCv w v0 :: st.map (zCv w)))
  rw [hv0]
  exact z_cpyW Value.int (kd := 0) (by decide) rfl (fun _ => rfl) (fun _ _ _ => trivial) hx hb (by rw [hml]; exact hl.1) hown hts hKn hS hw s1 s2 s3 s4 s5 (z_arrI hH (by decide) hs1) h1 h2 h3 h4 h5 hf (by rw [zCat]; exact hlo) hd
    (fun H1 locs1 e1 e2 e3 e4 => kk p e s m args below meth c Qm C hK hret H1 locs1 ls (z_arrSetI hH (by decide) hs1 rfl (fun a ha => ⟨zRow_ne _ _ ha, rfl, rfl⟩) (by rw [e1]; simp only [zRow_same]) e2 e3) e4 hl)
theorem z_cpyI {i j n0 n1 idx : Nat} {sp dp n : Int32} (hd : decode M.2.2.1 pc = .ok (.invokestatic idx, 3)) (hw : zCpW M.2.1.cls idx) (hs0 : μ.1[i]? = some (.inl (0, n0))) (hs1 : μ.1[j]? = some (.inl (0, n1))) (h1 : ¬ sp < 0) (h2 : ¬ dp < 0) (h3 : ¬ n < 0) (h4 : sp.toNatClampNeg + n.toNatClampNeg ≤ n0) (h5 : dp.toNatClampNeg + n.toNatClampNeg ≤ n1) (hf : 1 ≤ R.frames) (hlo : (st.map fun v => v.category).sum + 18 ≤ R.locals)
    (kk : zX w M R Q kc ks (pc + 3) lv st (μ.1, zRow μ.2.1 j (va_cpy (μ.2.1 i) (μ.2.1 j) sp.toNatClampNeg dp.toNatClampNeg n.toNatClampNeg), μ.2.2.1, μ.2.2.2)) : zX w M R Q kc ks pc lv (.int n :: .int dp :: .ref j :: .int sp :: .ref i :: st) μ := by
  refine z_cpyIG (v0 := .ref i) rfl hd hw (fun s H locs hKn hex hH hS => ?_) hs1 h1 h2 h3 h4 h5 hf hlo kk
  have he := zW_at (w := w) hs0
  rw [zE_I (by decide)] at he
  refine ⟨_, hH.1 i _ he, (hKn.2 0 _ (zTys_at 0 (by decide) _)).1 n0 (fun b => .int (μ.2.1 i b)), (fun h => by cases h), ?_, fun b hb => ?_⟩
  · show n0 ≤ (arrV (zg w 0) n0 (fun b => .int (μ.2.1 i b))).slots.size
    rw [arrV_size]
    exact Nat.le_refl _
  · show (arrV (zg w 0) n0 (fun b => .int (μ.2.1 i b))).slots[b]? = _
    exact arrV_read _ _ hb
theorem z_cpyLG {a0 j n0 n1 idx : Nat} {F : Nat → Int64} {sp dp n : Int32} {v0 : Value} (hv0 : zCv w v0 = .ref a0) (hd : decode M.2.2.1 pc = .ok (.invokestatic idx, 3)) (hw : zCpW M.2.1.cls idx)
    (hsrc : ∀ (s : State) (H : Heap) (locs : List Loc), va_K (zD w) vwCl (zTys (zg w)) s → zex w s s.heap → zHas w μ H → va_S (zA w) s.heap H locs → ∃ scr : Cell, H[a0]? = some scr ∧ s.isArrayOf scr (zAty 1) ∧ scr.vm ≠ .unknown ∧ n0 ≤ scr.slots.size ∧ ∀ i : Nat, i < n0 → scr.slots[i]? = some (.long (F i)))
    (hs1 : μ.1[j]? = some (.inl (1, n1))) (h1 : ¬ sp < 0) (h2 : ¬ dp < 0) (h3 : ¬ n < 0) (h4 : sp.toNatClampNeg + n.toNatClampNeg ≤ n0) (h5 : dp.toNatClampNeg + n.toNatClampNeg ≤ n1) (hf : 1 ≤ R.frames) (hlo : (st.map fun v => v.category).sum + 18 ≤ R.locals)
    (kk : zX w M R Q kc ks (pc + 3) lv st (μ.1, μ.2.1, zRow μ.2.2.1 j (va_cpy F (μ.2.2.1 j) sp.toNatClampNeg dp.toNatClampNeg n.toNatClampNeg), μ.2.2.2)) : zX w M R Q kc ks pc lv (.int n :: .int dp :: .ref j :: .int sp :: v0 :: st) μ := by
  intro p e s m args below meth c Qm C hK hret H locs ls hH hS hl
  obtain ⟨hx, hb, hml, hown, hts, hKn, hex, hb0, hlk, hr, hnm⟩ := id C
  rcases hsrc s H locs hKn hex hH hS with ⟨scr, s1, s2, s3, s4, s5⟩
  show W p (zl w) e R s m args below meth c H locs kc ks Qm (F0 m pc ls (.int n :: .int dp :: .ref (zb w + j) :: .int sp :: zCv w v0 :: st.map (zCv w)))
  rw [hv0]
  exact z_cpyW Value.long (kd := 1) (by decide) rfl (fun _ => rfl) (fun _ _ _ => trivial) hx hb (by rw [hml]; exact hl.1) hown hts hKn hS hw s1 s2 s3 s4 s5 (z_arrL hH hs1) h1 h2 h3 h4 h5 hf (by rw [zCat]; exact hlo) hd
    (fun H1 locs1 e1 e2 e3 e4 => kk p e s m args below meth c Qm C hK hret H1 locs1 ls (z_arrSetL hH hs1 rfl (fun a ha => ⟨rfl, zRow_ne _ _ ha, rfl⟩) (by rw [e1]; simp only [zRow_same]) e2 e3) e4 hl)
theorem z_cpyL {i j n0 n1 idx : Nat} {sp dp n : Int32} (hd : decode M.2.2.1 pc = .ok (.invokestatic idx, 3)) (hw : zCpW M.2.1.cls idx) (hs0 : μ.1[i]? = some (.inl (1, n0))) (hs1 : μ.1[j]? = some (.inl (1, n1))) (h1 : ¬ sp < 0) (h2 : ¬ dp < 0) (h3 : ¬ n < 0) (h4 : sp.toNatClampNeg + n.toNatClampNeg ≤ n0) (h5 : dp.toNatClampNeg + n.toNatClampNeg ≤ n1) (hf : 1 ≤ R.frames) (hlo : (st.map fun v => v.category).sum + 18 ≤ R.locals)
    (kk : zX w M R Q kc ks (pc + 3) lv st (μ.1, μ.2.1, zRow μ.2.2.1 j (va_cpy (μ.2.2.1 i) (μ.2.2.1 j) sp.toNatClampNeg dp.toNatClampNeg n.toNatClampNeg), μ.2.2.2)) : zX w M R Q kc ks pc lv (.int n :: .int dp :: .ref j :: .int sp :: .ref i :: st) μ := by
  refine z_cpyLG (v0 := .ref i) rfl hd hw (fun s H locs hKn hex hH hS => ?_) hs1 h1 h2 h3 h4 h5 hf hlo kk
  have he := zW_at (w := w) hs0
  rw [zE_L] at he
  refine ⟨_, hH.1 i _ he, (hKn.2 1 _ (zTys_at 1 (by decide) _)).1 n0 (fun b => .long (μ.2.2.1 i b)), (fun h => by cases h), ?_, fun b hb => ?_⟩
  · show n0 ≤ (arrV (zg w 1) n0 (fun b => .long (μ.2.2.1 i b))).slots.size
    rw [arrV_size]
    exact Nat.le_refl _
  · show (arrV (zg w 1) n0 (fun b => .long (μ.2.2.1 i b))).slots[b]? = _
    exact arrV_read _ _ hb
/-- a static table of ints -/
def zTab (w : zP) (C nm : String) (j N : Nat) (f : Nat → Int32) (U : State) (H : Heap) : Prop := va_Z C nm "[I" (.ref (ztb w j)) (zA w) U H ∧ va_T .int (ztb w j) N (fun i => .int (f i)) (zA w) U H
theorem z_cpyT {t j n0 n1 idx : Nat} {u : UInt32} {C nm : String} {f : Nat → Int32} {sp dp n : Int32} (hu : u.toNat = t) (hd : decode M.2.2.1 pc = .ok (.invokestatic idx, 3)) (hw : zCpW M.2.1.cls idx) (hT : ∀ (U : State) (H : Heap), zex w U H → zTab w C nm t n0 f U H) (hs1 : μ.1[j]? = some (.inl (0, n1))) (h1 : ¬ sp < 0) (h2 : ¬ dp < 0) (h3 : ¬ n < 0) (h4 : sp.toNatClampNeg + n.toNatClampNeg ≤ n0) (h5 : dp.toNatClampNeg + n.toNatClampNeg ≤ n1) (hf : 1 ≤ R.frames) (hlo : (st.map fun v => v.category).sum + 18 ≤ R.locals)
    (kk : zX w M R Q kc ks (pc + 3) lv st (μ.1, zRow μ.2.1 j (va_cpy f (μ.2.1 j) sp.toNatClampNeg dp.toNatClampNeg n.toNatClampNeg), μ.2.2.1, μ.2.2.2)) : zX w M R Q kc ks pc lv (.int n :: .int dp :: .ref j :: .int sp :: .float u :: st) μ := by
  refine z_cpyIG (a0 := ztb w t) (v0 := .float u) (by rw [← hu]; rfl) hd hw (fun s H locs hKn hex hH hS => ?_) hs1 h1 h2 h3 h4 h5 hf hlo kk
  obtain ⟨cell, g1, g2, g3, g4, -, g6, g7⟩ := (hT s s.heap hex).2
  exact ⟨cell, by rw [hS.2.1 _ (Array.getElem?_eq_some_iff.mp g1).1 g7]; exact g1, g2, g3, g4, g6⟩
theorem z_tald {t N : Nat} {u : UInt32} {C nm : String} {f : Nat → Int32} {i : Int32} (hu : u.toNat = t) (hd : decode M.2.2.1 pc = .ok (.iaload, 1)) (hT : ∀ (U : State) (H : Heap), zex w U H → zTab w C nm t N f U H) (hin : vp_in i N) (kk : zX w M R Q kc ks (pc + 1) lv (.int (f i.toNatClampNeg) :: st) μ) : zX w M R Q kc ks pc lv (.int i :: .float u :: st) μ := by
  intro p e s m args below meth c Qm C hK hret H locs ls hH hS hl
  obtain ⟨hx, hb, hml, hown, hts, hKn, hex, hb0, hlk, hr, hnm⟩ := id C
  show W p (zl w) e R s m args below meth c H locs kc ks Qm (F0 m pc ls (.int i :: .ref (ztb w u.toNat) :: st.map (zCv w)))
  rw [hu]
  exact va_ti hx hb (hT s s.heap hex).2 hS hin rfl hd (kk p e s m args below meth c Qm C hK hret H locs ls hH hS hl)
theorem z_getsT {t N idx : Nat} {u : UInt32} {host C nm : String} {f : Nat → Int32} (hu : u.toNat = t) (hd : decode M.2.2.1 pc = .ok (.getstatic idx, 3)) (hw : ∀ (U : State) (H : Heap), zex w U H → va_Nw (.fieldLinkNest M.2.1.cls idx C nm "[I" host) U) (hT : ∀ (U : State) (H : Heap), zex w U H → zTab w C nm t N f U H) (kk : zX w M R Q kc ks (pc + 3) lv (.float u :: st) μ) : zX w M R Q kc ks pc lv st μ := by
  intro p e s m args below meth c Qm C0 hK hret H locs ls hH hS hl
  obtain ⟨hx, hb, hml, hown, hts, hKn, hex, hb0, hlk, hr, hnm⟩ := id C0
  refine va_getsN (v := .ref (ztb w t)) hx hb (hT s s.heap hex).1 hS hown (va_Nw.use rfl (hw s s.heap hex)) (fun _ h => h) hd ?_
  have k2 := kk p e s m args below meth c Qm C0 hK hret H locs ls hH hS hl
  rw [← hu]
  exact k2
end ZY
