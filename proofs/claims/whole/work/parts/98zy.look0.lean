/-! ===== LOOK: a throw that one of this method's rows takes, by names not yet looked up ===== -/
section ZN98zy
variable {p : Program} {l : Launch} {e : Env} {R : Room} {s : State} {m : MethodId} {args : Array Value} {below : List Frame} {meth : Method} {c : Code} {H : Heap} {locs : List Loc} {cells slots : Nat} {Q : State → Prop} {ls : Array Slot} {rest : List Value} {pc : Nat}
/-- the search ends at k, and leaves these tables -/
def yFd (e : Env) (f : JFrame) (a : Addr) (t : List ExceptionTableEntry) (S : State) (k : Nat) (v : Vm) : Prop :=
  ∀ (Q : Handler → Pre) (E : CtlPost) (d : Bool) (acts : List Action), wp (findHandler.go f a t) Q E e d acts S ↔ Q (.found k) d acts (S.setVm v)
/-- one row that names a class -/
theorem yRow {f : JFrame} {a : Addr} {x : ExceptionTableEntry} {t : List ExceptionTableEntry} {k : ClassId} {cell : Cell} {S : State} (hx : covers x f.pc = true) (h0 : x.catchType ≠ 0) (hl : S.vm.ClassLinks e.platform f.method.cls x.catchType k) (hcell : S.heap[a]? = some cell) (hobj : ∀ k, cell.vm ≠ .statics k) (hk : ∃ k, S.vm.classes[cell.cls]? = some k) (hc : ∃ k', S.vm.classes[k]? = some k') :
    (S.vm.assignable cell.cls k = true → yFd e f a (x :: t) S x.handlerPc (S.vm.noted f.method.cls x.catchType (.cls k))) ∧
    (S.vm.assignable cell.cls k = false → ∀ (j : Nat) (v : Vm), yFd e f a t (S.setVm (S.vm.noted f.method.cls x.catchType (.cls k))) j v → yFd e f a (x :: t) S j v) := by
  have hx' := hx
  simp only [covers] at hx'
  obtain ⟨ha, ht⟩ := (resolveClass_links e.toSetting hl).op (op := VmOp.resolveClass f.method.cls x.catchType) rfl
  have hal : S.vm.Alike (S.vm.noted f.method.cls x.catchType (.cls k)) := (Vm.Alike.refl S.vm).noted _ _ _
  obtain ⟨k1, hk1⟩ := hk
  obtain ⟨k2, hk2⟩ := hc
  obtain ⟨k1', hk1', -⟩ := hal.2.2 _ _ hk1
  obtain ⟨k2', hk2', -⟩ := hal.2.2 _ _ hk2
  constructor
  · intro hf Q E d acts
    have hf' : (S.vm.noted f.method.cls x.catchType (.cls k)).assignable cell.cls k = true := by rw [hal.assignable]; exact hf
    simp [findHandler.go, hx', h0, ha, ht, hcell, hobj, hk1', hk2', hf', VmOp.dirties, VmOp.acts]
  · intro hf j v hj Q E d acts
    have hf' : (S.vm.noted f.method.cls x.catchType (.cls k)).assignable cell.cls k = false := by rw [hal.assignable]; exact hf
    have h2 := hj Q E d acts
    simp [findHandler.go, hx', h0, ha, ht, hcell, hobj, hk1', hk2', hf', VmOp.dirties, VmOp.acts]
    exact h2
theorem yStep {S : State} {a : Addr} {f : JFrame} {r : List Frame} {k : Nat} {v : Vm} {mt : Method} {cd : Code} (hm : S.vm.method? f.method = some mt) (hc : mt.code = some cd) (hfd : yFd e f a cd.exceptionTable.toList S k v) :
    (stepThrowing e S a (.java f :: r)).Is ((S.setVm v).setFrames (.java { f with pc := k, stack := [.ref a] } :: r)) [] := by
  have hfind : ∀ (Q : Handler → Pre) (E : CtlPost) (d : Bool) (acts : List Action), wp (findHandler f a) Q E e d acts S ↔ Q (.found k) d acts (S.setVm v) := fun Q E d acts => (W.findHandler_eq hm hc).trans (hfd Q E d acts)
  simp only [stepThrowing, searchFrame, vmDo]
  generalize hr : Sem.go _ e false [] S = res
  obtain ⟨as, rfl, ha⟩ := Sem.eq_ok_of hr (a := Handler.found k) (s' := S.setVm v) (acts' := []) (by simp [hfind _ _ _ _])
  exact ⟨rfl, ha⟩
theorem yGo {tb : Tables} {T target : State} {g : JFrame} {a : Addr} {k : Nat} {v : Vm} {mt : Method} {cd : Code} (h : At T g.method c below) (hm : T.vm.method? g.method = some mt) (hc : mt.code = some cd) (hfd : yFd e g a cd.exceptionTable.toList ((T.setTop g).pushFrame (.throwing a)) k v) (hrest : Steps tb e below ((T.setVm v).setTop { g with pc := k, stack := [.ref a] }) target) : Steps tb e below ((T.setTop g).pushFrame (.throwing a)) target := by
  obtain ⟨hgo, hw⟩ := h.throwing a
  refine Steps.head hgo hw ?_
  rw [stepThread_throwing (frames_entered h.top _), (yStep (S := (T.setTop g).pushFrame (.throwing a)) (by simpa [State.pushFrame, State.setFrames] using hm) hc hfd).1]
  obtain ⟨g₀, hg⟩ := Option.isSome_iff_exists.mp h.top
  obtain ⟨r, hr⟩ := State.topJava?_eq_some.mp hg
  have hr' : (T.setVm v).frames = .java g₀ :: r := hr
  rw [State.setTop_of_frames _ hr'] at hrest
  have hset : ∀ (u : State) (F G : List Frame), ((u.setFrames F).setVm v).setFrames G = (u.setVm v).setFrames G := fun u F G => by
    rw [show (u.setFrames F).setVm v = (u.setVm v).setFrames F from rfl, State.setFrames_setFrames]
  rw [hr, List.tail_cons, State.pushFrame, hset, State.setTop_of_frames _ hr, hset]
  exact hrest
theorem yOne {S : State} {f : JFrame} {q : Addr} {x : ExceptionTableEntry} {t : List ExceptionTableEntry} {k : ClassId} {k9 : Class} {ce : Cell} (hW : s.WarmedH S.vm) (hL : s.vm.ClassLinks e.platform f.method.cls x.catchType k) (hx : covers x f.pc = true) (h0 : x.catchType ≠ 0) (hcell : S.heap[q]? = some ce) (hv : ce.vm = .none) (hk9 : s.vm.classes[ce.cls]? = some k9) :
    s.WarmedH (S.vm.noted f.method.cls x.catchType (.cls k)) ∧ (s.vm.assignable ce.cls k = true → yFd e f q (x :: t) S x.handlerPc (S.vm.noted f.method.cls x.catchType (.cls k))) ∧ (s.vm.assignable ce.cls k = false → ∀ (j : Nat) (v : Vm), yFd e f q t (S.setVm (S.vm.noted f.method.cls x.catchType (.cls k))) j v → yFd e f q (x :: t) S j v) := by
  obtain ⟨dk, _, _, kt, hd, _, _, _, _, hkt, _, hopen⟩ := hL.here
  obtain ⟨kt', hkt', -⟩ := hW.alike.2.2 _ _ hkt
  obtain ⟨k9', hk9', -⟩ := hW.alike.2.2 _ _ hk9
  have hr := yRow (e := e) (t := t) hx h0 (hW.classLinks hL) hcell (by intro z hz; rw [hv] at hz; cases hz) ⟨k9', hk9'⟩ ⟨kt', hkt'⟩
  rw [hW.alike.assignable] at hr
  exact ⟨hW.noted hd hopen (State.rightAt_cls hL), hr⟩
/-- two rows over this place, each naming a class -/
theorem y_catch {own n1 n2 E : String} {ce : Cell} {q : Addr} {x1 x2 : ExceptionTableEntry} (hown : s.vm.findClass own = some m.cls) (htab : c.exceptionTable.toList = [x1, x2]) (h1 : covers x1 pc = true) (h2 : covers x2 pc = true) (z1 : x1.catchType ≠ 0) (z2 : x2.catchType ≠ 0) (l1 : (Cond.classLink own x1.catchType n1).before args s = true) (l2 : (Cond.classLink own x2.catchType n2).before args s = true) (hcell : H[q]? = some ce) (hv : ce.vm = .none) (hcl : s.vm.findClass E = some ce.cls)
    (hA : ((Cond.castable E n1).before args s = true ∧ W p l e R s m args below meth c H locs cells slots Q (F0 m x1.handlerPc ls [.ref q])) ∨ (va_Nc E n1 s ∧ (Cond.castable E n2).before args s = true ∧ W p l e R s m args below meth c H locs cells slots Q (F0 m x2.handlerPc ls [.ref q]))) : vx_W p l e R s m args below meth c H locs cells slots Q (F0 m pc ls rest) q := by
  intro T hT X
  have hpl : e.platform.magicAccessors = ({} : Platform).magicAccessors := by rw [X.admits.platform]
  obtain ⟨c1, hc1, L1⟩ := Cond.classLink_spec hown l1 e.platform hpl
  obtain ⟨c2, hc2, L2⟩ := Cond.classLink_spec hown l2 e.platform hpl
  obtain ⟨k9, hk9, -⟩ := Vm.findClass_spec hcl
  have hW := X.warmed
  have hSv : ((T.setTop (F0 m pc ls rest)).pushFrame (.throwing q)).vm = T.vm := by simp [State.pushFrame, State.setFrames, State.setTop, State.modifyTopJava]
  have hSh : ((T.setTop (F0 m pc ls rest)).pushFrame (.throwing q)).heap = T.heap := by simp [State.pushFrame, State.setFrames, State.setTop, State.modifyTopJava]
  have o1 := yOne (e := e) (S := (T.setTop (F0 m pc ls rest)).pushFrame (.throwing q)) (f := F0 m pc ls rest) (x := x1) (t := [x2]) (q := q) (ce := ce) (by rw [hSv]; exact hW) L1 h1 z1 (by rw [hSh, hT]; exact hcell) hv hk9
  have fin : ∀ (k : Nat) (v : Vm), s.WarmedH v → yFd e (F0 m pc ls rest) q [x1, x2] ((T.setTop (F0 m pc ls rest)).pushFrame (.throwing q)) k v → W p l e R s m args below meth c H locs cells slots Q (F0 m k ls [.ref q]) → ∃ t, Steps p.tables e below ((T.setTop (F0 m pc ls rest)).pushFrame (.throwing q)) t ∧ Q t := by
    intro k v hv' hfd kk
    obtain ⟨t, a1, b1⟩ := kk (T.setVm v) hT (X.noted hv')
    exact ⟨t, yGo (g := F0 m pc ls rest) X.here X.method' X.code (by rw [htab]; exact hfd) a1, b1⟩
  rcases hA with ⟨g1, kk⟩ | ⟨⟨a8, b8, g1, g2, g3⟩, g4, kk⟩
  · obtain ⟨c3, c4, hc3, hc4, hasg⟩ := Cond.castable_spec g1
    cases Option.some.inj (hc3.symm.trans hcl)
    cases Option.some.inj (hc4.symm.trans hc1)
    exact fin _ _ o1.1 (o1.2.1 hasg) kk
  · cases Option.some.inj (g1.symm.trans hcl)
    cases Option.some.inj (g2.symm.trans hc1)
    obtain ⟨c3, c4, hc3, hc4, hasg⟩ := Cond.castable_spec g4
    cases Option.some.inj (hc3.symm.trans hcl)
    cases Option.some.inj (hc4.symm.trans hc2)
    have o2 := yOne (e := e) (S := ((T.setTop (F0 m pc ls rest)).pushFrame (.throwing q)).setVm (((T.setTop (F0 m pc ls rest)).pushFrame (.throwing q)).vm.noted m.cls x1.catchType (.cls c1))) (f := F0 m pc ls rest) (x := x2) (t := []) (q := q) (ce := ce) o1.1 L2 h2 z2 (by show ((T.setTop (F0 m pc ls rest)).pushFrame (.throwing q)).heap[q]? = some ce; rw [hSh, hT]; exact hcell) hv hk9
    exact fin _ _ o2.1 (o1.2.2 g3 _ _ (o2.2.1 hasg)) kk
end ZN98zy
