/-! ===== an exception of the JDK, made with a text and thrown, whose constructor calls the one above it by any entry of its pool ===== -/
/-- the fields that Throwable's constructor meets in the new object -/
def yFields : List (String × String) := [("detailMessage", "Ljava/lang/String;"), ("backtrace", "Ljava/lang/Object;"), ("suppressedExceptions", Bundle.listD), ("stackTrace", Bundle.steD), ("cause", "Ljava/lang/Throwable;")]
/-- the words on the class itself -/
def yWords (X : String) : List Cond := .instantiable X 6 :: ([Bundle.tFill, Bundle.tFill0].map (fun z => Cond.selects X z z) ++ yFields.map (fun z => Cond.lays X Bundle.tN z.1 z.2))
def yAtoms (own : String) (ic : Nat) (X Y : String) (ix : Nat) (rx : ByteArray) (names : List String) : List Cond :=
  .methodLink own ic (Bundle.initS X) :: .fieldLink Bundle.tN 198 Bundle.tN "backtrace" "Ljava/lang/Object;" :: .lays Bundle.tN Bundle.tN "backtrace" "Ljava/lang/Object;" ::
  .isRef (.static Bundle.tN "UNASSIGNED_STACK" Bundle.steD) :: .isRef (.static Bundle.tN "SUPPRESSED_SENTINEL" Bundle.listD) ::
  (yWords X ++ (Bundle.passSAtoms X Y ix rx ++ (Bundle.chainSAtoms Y names ++ (Bundle.throwableSAtoms ++ Bundle.throwableAtoms))))
/-- the class's constructor and all above it, as one list -/
theorem yUp {args : Array Value} {s : State} {pl : Platform} (hpl : pl.magicAccessors = ({} : Platform).magicAccessors) {top : MethodId} (ht : s.methodNamed? (Bundle.initS Bundle.tN) = some top) {X Y : String} {ix : Nat} {rx : ByteArray} {names : List String}
    (x0 : decode rx 0 = .ok (.aload_n 0, 1)) (x1 : decode rx 1 = .ok (.aload_n 1, 1)) (x2 : decode rx 2 = .ok (.invokespecial ix, 3)) (x5 : decode rx 5 = .ok (.return_, 1)) (fX : Bundle.fit X = true) (fY : Bundle.fit Y = true) (fn : ∀ n ∈ names, Bundle.fit n = true)
    (hp : ∀ w ∈ Bundle.passSAtoms X Y ix rx, w.before args s = true) (hc : ∀ w ∈ Bundle.chainSAtoms Y names, w.before args s = true) :
    ∃ Ps : List PassC, Ps.length = names.length + 2 ∧ (∀ P ∈ Ps, P.LinksS pl s) ∧ PassesOn top (Ps.map (·.toPassT)) ∧ s.methodNamed? (Bundle.initS X) = some (firstOf top (Ps.map (·.toPassT))) := by
  have up := Bundle.chainS (args := args) hpl ht names Y fY fn hc
  have me := PassC.ofS_atoms (args := args) (s := s) hpl (X := X) (Y := Y) (Bundle.fit_spec fX).1 (Bundle.fit_spec fY).2 x0 x1 x2 x5 hp
  rcases up with ⟨B, As, n1, lB, lAs, mB, sB, oAs⟩
  rcases me with ⟨A, lA, mA, sA⟩
  have hs : A.sup = B.m := by
    rw [mB] at sA
    exact (Option.some.inj sA).symm
  exact ⟨A :: B :: As, by simp [n1], by simpa [lA, lB] using lAs, ⟨hs, sB, oAs⟩, mA⟩
/-- a field of Throwable in a new object of X -/
theorem yFl {args : Array Value} {s : State} {X n d : String} {cX cT i : Nat} {kX kT : Class} {f : Field} (hX : s.vm.findClass X = some cX) (hk : s.vm.classes[cX]? = some kX) (ho : kX.kind = .ordinary) (hf : s.fieldFound? Bundle.tN n d = some (cT, kT, i, f)) (w : (Cond.lays X Bundle.tN n d).before args s = true) :
    (∀ v, fits f.type v = true → Takes s (freshCell cX kX) f v) ∧ (freshCell cX kX).slots[f.slot]? = some (defaultValue f.type) ∧ ∃ z : Class × Field, Jmm.declares? s.vm f.slot (cX + 1) cX = some z ∧ z.2.name = f.name := by
  have q := Cond.laysAt hX hk hf w
  exact ⟨fun v hv => Takes.of_laid hk ho q.1 hv, fresh_default q.1, q.2⟩
theorem ySel {l : Launch} {e : Env} {args : Array Value} {s : State} {X : String} {cX : ClassId} {z : MethodName} {q : MethodId} (hadm : l.admits e) (hX : s.vm.findClass X = some cX) (hz : s.methodNamed? z = some q) (hn : z.cls ≠ "java/lang/invoke/MethodHandle" ∧ z.cls ≠ "java/lang/invoke/VarHandle") (w : (Cond.selects X z z).before args s = true) :
    selectMethod e.platform s.vm cX q = .method q := by
  have hr := State.methodFound?_of_named hz hn
  have sp := Cond.selects_spec w
  rw [hX, hr, hz] at sp
  rcases sp with ⟨c, r, t, j1, j2, j3, j4, -⟩
  simp only [Option.some.injEq] at j1 j2 j3
  subst j1 j2 j3
  exact (Launch.admits_selectMethod hadm s.vm cX q).trans j4
theorem yOther (x : Cell) {i j : Nat} (v : Value) (hne : j ≠ i) : (x.setSlot j v).slots[i]? = x.slots[i]? := Array.getElem?_setIfInBounds_ne hne
/-- what Throwable's constructor asks of the new object -/
def yReady (e : Env) (s : State) (T : ThrowableC) (x : Cell) : Prop :=
  selectMethod e.platform s.vm x.cls T.fill0 = .method T.fill0 ∧ selectMethod e.platform s.vm x.cls T.fill = .method T.fill ∧ (∀ a : Addr, Takes s x T.fCause (.ref a)) ∧ (∀ u : RefV, Takes s x T.fStack u.v) ∧ (∀ u : RefV, Takes s x T.fSupp u.v) ∧ (∀ u : RefV, Takes s x T.fMsg u.v) ∧
    ∀ (a : Addr) (u r : RefV) (t : ThreadId), SkipFacts T e.platform s (fun z => z) u ((preparedCellV T.toThrowableT x a u r).withEntry t)
theorem yReady_of {l : Launch} {e : Env} {args : Array Value} {s : State} {T : ThrowableC} {Z : Init0T} {X : String} {cX : ClassId} {kX : Class} (hadm : l.admits e) (L : T.Links e.platform s) (Y : Bundle.Ties T Z s) (hX : s.vm.findClass X = some cX) (hk : s.vm.classes[cX]? = some kX) (w : ∀ z ∈ yWords X, z.before args s = true)
    (b1 : (Cond.fieldLink Bundle.tN 198 Bundle.tN "backtrace" "Ljava/lang/Object;").before args s = true) (b2 : (Cond.lays Bundle.tN Bundle.tN "backtrace" "Ljava/lang/Object;").before args s = true) : yReady e s T (freshCell cX kX) := by
  have hpl : e.platform.magicAccessors = ({} : Platform).magicAccessors := by rw [hadm.platform]
  have ho : kX.kind = .ordinary := by
    rcases Cond.instantiable_spec (w (.instantiable X 6) (by simp [yWords])) with ⟨c, k, j1, j2, j3, -⟩
    rw [hX] at j1
    simp only [Option.some.injEq] at j1
    subst j1
    rw [hk] at j2
    simp only [Option.some.injEq] at j2
    subst j2
    exact j3
  have ly : ∀ z ∈ yFields, (Cond.lays X Bundle.tN z.1 z.2).before args s = true := fun z hz => w _ (by simp only [yWords, List.mem_cons, List.mem_append, List.mem_map]; exact Or.inr (Or.inr ⟨z, hz, rfl⟩))
  rcases Y.msg with ⟨iM, hM⟩
  rcases Cond.ownField (t := .object "java/lang/Object") Y.found L.cls (by decide +kernel) b1 b2 e.platform hpl with ⟨cb, ib, fb, g1, g2, g3, g4, -, g6, g7, g8⟩
  have kC := yFl hX hk ho Y.cause (ly ("cause", "Ljava/lang/Throwable;") (by simp [yFields]))
  have kS := yFl hX hk ho Y.stack (ly ("stackTrace", Bundle.steD) (by simp [yFields]))
  have kP := yFl hX hk ho Y.supp (ly ("suppressedExceptions", Bundle.listD) (by simp [yFields]))
  have kM := yFl hX hk ho hM (ly ("detailMessage", "Ljava/lang/String;") (by simp [yFields]))
  have kB := yFl hX hk ho g8 (ly ("backtrace", "Ljava/lang/Object;") (by simp [yFields]))
  refine ⟨ySel hadm hX Y.fill0 (by decide) (w _ (by simp [yWords])), ySel hadm hX Y.fill (by decide) (w _ (by simp [yWords])), fun a => kC.1 _ (by rw [Y.causeType]; rfl), fun u => kS.1 _ (by rw [Y.stackType]; exact fits_refV_array _ u),
    fun u => kP.1 _ (by rw [Y.suppType]; exact fits_refV_object _ u), fun u => kM.1 _ (by rw [Y.msgType]; exact fits_refV_object _ u), fun a u r t => ⟨⟨cb, ib, fb⟩, ⟨g1, g2, g3, g4⟩, ?_, fun _ _ => rfl⟩⟩
  rcases kB.2.2 with ⟨zB, oB, nB⟩
  have far : ∀ (f : Field) (z : Class × Field), Jmm.declares? s.vm f.slot (cX + 1) cX = some z → z.2.name = f.name → f.name ≠ "backtrace" → f.slot ≠ fb.slot := fun f z oz nz hne => Cond.laysApart oz oB nz nB (by rw [g6]; exact hne)
  rcases kC.2.2 with ⟨zC, oC, nC⟩
  rcases kS.2.2 with ⟨zS, oS, nS⟩
  rcases kP.2.2 with ⟨zP, oP, nP⟩
  show (preparedCellV T.toThrowableT (freshCell cX kX) a u r).slots[fb.slot]? = some .null
  rw [preparedCellV, yOther _ _ (far _ _ oP nP (by rw [Y.suppName]; decide)), yOther _ _ (far _ _ oS nS (by rw [Y.stackName]; decide)), yOther _ _ (far _ _ oC nC (by rw [Y.causeName]; decide)), kB.2.1, g7]
  rfl
section ZN98zyv
variable {p : Program} {l : Launch} {e : Env} {R : Room} {s : State} {m : MethodId} {args : Array Value} {below : List Frame} {meth : Method} {c : Code} {V : State} {cells slots : Nat}
/-- Throwable's two static references, where no old cell has changed -/
theorem yStat {T : ThrowableC} {Z : Init0T} (X : Stand p l e R s m args below meth c V [] cells slots) (L : T.Links e.platform s) (Y : Bundle.Ties T Z s) (b1 : (Cond.isRef (.static Bundle.tN "UNASSIGNED_STACK" Bundle.steD)).before args s = true) (b2 : (Cond.isRef (.static Bundle.tN "SUPPRESSED_SENTINEL" Bundle.listD)).before args s = true) :
    ∃ (x : Cell) (u r : RefV), T.aS < s.heap.size ∧ V.heap[T.aS]? = some x ∧ x.vm ≠ .unknown ∧ x.slots[T.fUnassigned.slot]? = some u.v ∧ x.slots[T.fSentinel.slot]? = some r.v := by
  rcases Y.statics with ⟨x, hx, sx⟩
  rcases Cond.staticRefV Y.unassigned L.unassignedStatic L.statics hx sx b1 with ⟨u, hu⟩
  rcases Cond.staticRefV Y.sentinel L.sentinelStatic L.statics hx sx b2 with ⟨r, hr⟩
  rcases X.same.2.2.2.2.2 T.aS x hx with ⟨x', g1, g2, -, g4⟩
  have g5 : ∀ i, x'.slots[i]? = x.slots[i]? := fun i => g4 i List.not_mem_nil
  have g6 : x'.vm = x.vm := by rw [g2]
  refine ⟨x', u, r, (Array.getElem?_eq_some_iff.mp hx).1, g1, ?_, by rw [g5, hu], by rw [g5, hr]⟩
  rw [g6]
  intro z
  rw [z] at sx
  exact absurd sx (by decide)
theorem y_ctorS (X : Stand p l e R s m args below meth c V [] cells slots) (hexec : p.tables.exec = Jvm.exec) (htr : e.platform.stackTraces = false) {own cls nm : String} {names : List String} {ic ix : Nat} {rx : ByteArray}
    (x0 : decode rx 0 = .ok (.aload_n 0, 1)) (x1 : decode rx 1 = .ok (.aload_n 1, 1)) (x2 : decode rx 2 = .ok (.invokespecial ix, 3)) (x5 : decode rx 5 = .ok (.return_, 1))
    (hown : s.vm.findClass own = some m.cls) (fX : Bundle.fit cls = true) (fY : Bundle.fit nm = true) (fn : ∀ n ∈ names, Bundle.fit n = true) (h : ∀ w ∈ yAtoms own ic cls nm ix rx names, w.before args s = true)
    {a sa : Addr} {cX : ClassId} {kX : Class} (hX : s.vm.findClass cls = some cX) (hk : s.vm.classes[cX]? = some kX) (hcell : V.heap[a]? = some (freshCell cX kX)) (hnew : s.heap.size ≤ a)
    {pc : Nat} {ls : Array Slot} {rest : List Value} (hsize : ls.size = c.maxLocals) (d6 : decode c.code pc = .ok (.invokespecial ic, 3)) (d9 : decode c.code (pc + 3) = .ok (.athrow, 1)) (hout : ∀ x ∈ c.exceptionTable.toList, covers x (pc + 3) = false)
    (hRf : names.length + 4 < R.frames) (hRl : (rest.map fun v => v.category).sum + (13 * (names.length + 2) + 43) ≤ R.locals) (hlocks : meth.locks = false) :
    ∃ U : State, Steps p.tables e below (V.setTop (F0 m pc ls (.ref sa :: .ref a :: .ref a :: rest))) U ∧ U.status = .running ∧ Ended U below (.threw a) ∧ s.WarmedH U.vm ∧ s.sameButNew ({ U with vm := s.vm } : State) [] cells slots ∧
      ∃ ce, U.heap[a]? = some ce ∧ ce.cls = cX ∧ ce.vm = .none := by
  have pf := X.admits.platform
  have hpl : e.platform.magicAccessors = ({} : Platform).magicAccessors := by rw [pf]
  have hp : ∀ w ∈ Bundle.passSAtoms cls nm ix rx, w.before args s = true := fun w hw => h w (by simp [yAtoms, hw])
  rcases ThrowableC.of_atoms (args := args) (s := s) (pl := e.platform) (by rw [pf]) (by rw [pf]) hpl (fun w hw => h w (by simp [yAtoms, hw])) with ⟨T, Z0, L, -, Y⟩
  rcases Init0T.ofS_atoms (args := args) hpl L Y (fun w hw => h w (by simp [yAtoms, hw])) with ⟨Z, M, LZ, LM, top⟩
  rcases yUp (args := args) hpl top x0 x1 x2 x5 fX fY fn hp (fun w hw => h w (by simp [yAtoms, hw])) with ⟨Ps, n1, lks, pss, hme⟩
  rcases yReady_of (args := args) X.admits L Y hX hk (fun w hw => h w (by simp [yAtoms, hw])) (h _ (by simp [yAtoms])) (h _ (by simp [yAtoms])) with ⟨r1, r2, r3, r4, r5, r6, r7⟩
  rcases yStat X L Y (h _ (by simp [yAtoms])) (h _ (by simp [yAtoms])) with ⟨x, u, r, hlt, hx, hkn, hu, hr⟩
  rcases Steps.initColdS (tb := p.tables) (e := e) (below := below) (s := s) (U := V) X.here hexec X.warmed hpl hown (idx := ic) (t := Bundle.initS cls) rfl rfl (Bundle.fit_spec fX).2 (args := args) (bytes := rx) (maxL := 2) (h _ (by simp [yAtoms])) (hp _ (by simp [Bundle.passSAtoms])) (hp _ (by simp [Bundle.passSAtoms]))
    (f := F0 m pc ls (.ref sa :: .ref a :: .ref a :: rest)) rfl (a := a) (msg := .ref sa) (rest := .ref a :: rest) rfl d6 with ⟨tm, -, -, -, vm1, q1, -, -, -, -, -, -, -, q2, q3⟩
  have q4 : tm = firstOf (Z.m T.toThrowableT) (Ps.map (·.toPassT)) := Option.some.inj (q1.symm.trans hme)
  subst q4
  have hR2 : 2 * (F0 m pc ls (.ref a :: rest)).monitorRoom + ((F0 m pc ls (.ref a :: rest)).stack.map fun v => v.category).sum + (13 * Ps.length + 42) ≤ R.locals := by
    have c1 : (Value.ref a).category = 1 := rfl
    simp only [List.map_cons, List.sum_cons, c1, n1]
    omega
  rcases (X.noted q2).ctorMessageOffV hexec (g := F0 m pc ls (.ref a :: rest)) rfl hsize T L Z LZ M LM Ps lks pss (u0 := u) (sen := r) (self := a) (msg := .ref sa) rfl (cell := freshCell cX kX) (cellS := x) hcell (fun _ => by simp) (by simp) rfl rfl r1 r2 hx
    (fun z => absurd hlt (by rw [z]; exact Nat.not_lt.mpr hnew)) hkn hu hr (r3 a) (r4 u) (r5 r) (r6 ⟨.ref sa, rfl⟩) Y.objLocals (r7 a u r _) htr [] d6 (by rw [n1]; exact hRf) hR2 with ⟨vm2, X2, q5⟩
  have X3 := Stand.forget X2 (fun y hy => by
    simp only [List.mem_cons, List.not_mem_nil, or_false] at hy
    have hb : y.base = a := by rcases hy with z | z | z | z | z <;> rw [z]
    rw [hb]
    exact hnew)
  rcases X3.athrowLeaves hexec (g := F0 m (pc + 3) ls (.ref a :: rest)) rfl rfl rfl hout (a := a) (rest := rest) rfl d9 hlocks with ⟨w1, w2, w3, w4, w5⟩
  exact ⟨_, q3 _ (fun acts => by rw [doInvoke_state]; exact q5 _ w1), w2, w3, w4, w5, _, heapAt_setCell_self (s := (V.setVm vm1).setVm vm2) _ (Array.getElem?_eq_some_iff.mp hcell).1, rfl, rfl⟩
end ZN98zyv
