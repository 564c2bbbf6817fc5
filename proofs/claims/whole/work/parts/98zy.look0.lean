/-! ===== LOOK: a throw that one of this method's rows takes, by names not yet looked up ===== -/
section ZN98zy
variable {p : Program} {l : Launch} {e : Env} {R : Room} {s : State} {m : MethodId} {args : Array Value} {below : List Frame} {meth : Method} {c : Code} {H : Heap} {locs : List Loc} {cells slots : Nat} {Q : State → Prop} {ls : Array Slot} {rest : List Value} {pc : Nat}
/-- a row whose name is not yet looked up asks the same as behind the looking up -/
theorem yWarm {f : JFrame} {q : Addr} {x : ExceptionTableEntry} {t : List ExceptionTableEntry} {k : ClassId} {S : State} (hx : covers x f.pc = true) (h0 : x.catchType ≠ 0) (hl : S.vm.ClassLinks e.platform f.method.cls x.catchType k) {P : Handler → Pre} {E : CtlPost} {d : Bool} {acts : List Action} :
    wp (findHandler.go f q (x :: t)) P E e d acts S ↔ wp (findHandler.go f q (x :: t)) P E e d acts (S.setVm (S.vm.noted f.method.cls x.catchType (.cls k))) := by
  have in1 : x.startPc ≤ f.pc ∧ f.pc < x.endPc := by simpa [covers] using hx
  have cold := VmM.Gives.op (op := VmOp.resolveClass f.method.cls x.catchType) (resolveClass_links e.toSetting hl) rfl
  rcases hl.ready with ⟨kd, hkd, hres⟩
  have warm := resolveClass_memo e hkd hres
  simp [findHandler.go, in1, h0, cold, warm, VmOp.dirties, VmOp.acts, State.setVm_twice]
/-- one row that names a class: she takes it or hands it on, and the name is looked up -/
theorem yOne {S : State} {f : JFrame} {q : Addr} {x : ExceptionTableEntry} {k : ClassId} {k9 : Class} {ce : Cell} (hW : s.WarmedH S.vm) (hL : s.vm.ClassLinks e.platform f.method.cls x.catchType k) (hx : covers x f.pc = true) (h0 : x.catchType ≠ 0) (hcell : S.heap[q]? = some ce) (hv : ce.vm = .none) (hk9 : s.vm.classes[ce.cls]? = some k9) :
    ∃ v : Vm, s.WarmedH v ∧ ∀ (t : List ExceptionTableEntry) (P : Handler → Pre) (E : CtlPost) (d : Bool) (acts : List Action), wp (findHandler.go f q (x :: t)) P E e d acts S ↔ if s.vm.assignable ce.cls k = true then P (.found x.handlerPc) d acts (S.setVm v) else wp (findHandler.go f q t) P E e d acts (S.setVm v) := by
  rcases hL.here with ⟨dk, cf, n, kt, a1, -, -, -, -, a6, -, a8⟩
  have hS := hW.classLinks hL
  have hN := hW.noted a1 a8 (State.rightAt_cls hL)
  have is : ∀ (z : ClassId) (kz : Class), s.vm.classes[z]? = some kz → ∃ kz', (S.setVm (S.vm.noted f.method.cls x.catchType (.cls k))).vm.classes[z]? = some kz' := fun z kz hz => (hN.alike.2.2 z kz hz).imp fun _ b => b.1
  refine ⟨_, hN, fun t P E d acts => ?_⟩
  rw [yWarm hx h0 hS, W.findHandler_go_class (s := S.setVm (S.vm.noted f.method.cls x.catchType (.cls k))) hx h0 hS.ready hcell (fun z hz => by rw [hv] at hz; cases hz) (is _ _ hk9) (is _ _ a6)]
  rw [show (S.setVm (S.vm.noted f.method.cls x.catchType (.cls k))).vm.assignable ce.cls k = s.vm.assignable ce.cls k from by rw [← hN.alike.assignable]; rfl]
/-- the frame goes on at the row's place -/
theorem yStep {S : State} {q : Addr} {f : JFrame} {r : List Frame} {k : Nat} {v : Vm} (hf : ∀ (P : Handler → Pre) (E : CtlPost) (d : Bool) (acts : List Action), wp (findHandler f q) P E e d acts S ↔ P (.found k) d acts (S.setVm v)) :
    (stepThrowing e S q (.java f :: r)).1 = (S.setVm v).setFrames (.java { f with pc := k, stack := [.ref q] } :: r) := by
  show (searchFrame e S [] q f f r).1 = _
  unfold searchFrame vmDo
  split
  · rename_i hgo
    rcases Sem.eq_ok_of hgo (a := .found k) (s' := S.setVm v) (acts' := []) (by simp [hf]) with ⟨as, hq, -⟩
    cases hq
    rfl
  · rename_i hgo
    rcases Sem.eq_ok_of hgo (a := .found k) (s' := S.setVm v) (acts' := []) (by simp [hf]) with ⟨as, hq, -⟩
    cases hq
theorem yTop {T : State} (g g' : JFrame) (q : Addr) (v : Vm) (htop : T.topJava?.isSome) : (((T.setTop g).pushFrame (.throwing q)).setVm v).setFrames (.java g' :: T.frames.tail) = (T.setVm v).setTop g' := by
  cases hT : T.topJava? with
  | none => rw [hT] at htop; cases htop
  | some g₀ =>
    rcases State.topJava?_eq_some.mp hT with ⟨r, hr⟩
    have hv : (T.setVm v).frames = .java g₀ :: r := hr
    have cm : ∀ (u : State) (F : List Frame), (u.setFrames F).setVm v = (u.setVm v).setFrames F := fun _ _ => rfl
    simp only [State.setTop_of_frames _ hr, State.setTop_of_frames _ hv, State.pushFrame, cm, State.setFrames_setFrames, hr, List.tail_cons]
/-- two rows over this place, each naming a class -/
theorem y_catch {own n1 n2 E : String} {ce : Cell} {q : Addr} {x1 x2 : ExceptionTableEntry} (hown : s.vm.findClass own = some m.cls) (htab : c.exceptionTable.toList = [x1, x2]) (h1 : covers x1 pc = true) (h2 : covers x2 pc = true) (z1 : x1.catchType ≠ 0) (z2 : x2.catchType ≠ 0) (l1 : (Cond.classLink own x1.catchType n1).before args s = true) (l2 : (Cond.classLink own x2.catchType n2).before args s = true) (hcell : H[q]? = some ce) (hv : ce.vm = .none) (hcl : s.vm.findClass E = some ce.cls)
    (hA : ((Cond.castable E n1).before args s = true ∧ W p l e R s m args below meth c H locs cells slots Q (F0 m x1.handlerPc ls [.ref q])) ∨ (va_Nc E n1 s ∧ (Cond.castable E n2).before args s = true ∧ W p l e R s m args below meth c H locs cells slots Q (F0 m x2.handlerPc ls [.ref q]))) : vx_W p l e R s m args below meth c H locs cells slots Q (F0 m pc ls rest) q := by
  intro T hT X
  have hpl : e.platform.magicAccessors = ({} : Platform).magicAccessors := by rw [X.admits.platform]
  rcases Cond.classLink_spec hown l1 e.platform hpl with ⟨c1, hc1, L1⟩
  rcases Cond.classLink_spec hown l2 e.platform hpl with ⟨c2, hc2, L2⟩
  rcases Vm.findClass_spec hcl with ⟨k9, hk9, -⟩
  have takes : ∀ (n : String) (cn : ClassId), s.vm.findClass n = some cn → (Cond.castable E n).before args s = true → s.vm.assignable ce.cls cn = true := fun n cn hn g => by
    rcases Cond.castable_spec g with ⟨i, j, hi, hj, hij⟩
    rw [hcl] at hi
    rw [hn] at hj
    cases hi
    cases hj
    exact hij
  generalize hS : (T.setTop (F0 m pc ls rest)).pushFrame (.throwing q) = S
  have vS : S.vm = T.vm := by rw [← hS]; exact Stand.throwing_vm T _ q
  have cS : S.heap[q]? = some ce := by rw [← hS, Stand.throwing_heap, hT]; exact hcell
  have meets : ∀ (k : Nat) (v : Vm), s.WarmedH v → (∀ (P : Handler → Pre) (E : CtlPost) (d : Bool) (acts : List Action), wp (findHandler.go (F0 m pc ls rest) q [x1, x2]) P E e d acts S ↔ P (.found k) d acts (S.setVm v)) → W p l e R s m args below meth c H locs cells slots Q (F0 m k ls [.ref q]) → ∃ t, Steps p.tables e below S t ∧ Q t := by
    intro k v wv hf kk
    rcases kk (T.setVm v) hT (X.noted wv) with ⟨t, st, qt⟩
    refine ⟨t, ?_, qt⟩
    rcases X.here.throwing (g := F0 m pc ls rest) q with ⟨go, within⟩
    rw [hS] at go within
    refine Steps.head go within ?_
    rw [stepThread_throwing (show S.frames = .throwing q :: .java (F0 m pc ls rest) :: T.frames.tail by rw [← hS]; exact frames_entered X.here.top _), yStep (k := k) (v := v) (fun P E d acts => by rw [W.findHandler_eq (show S.vm.method? m = some meth by rw [vS]; exact X.method') X.code, htab]; exact hf P E d acts), ← hS, yTop _ _ _ _ X.here.top]
    exact st
  rcases yOne (S := S) (f := F0 m pc ls rest) (x := x1) (by rw [vS]; exact X.warmed) L1 h1 z1 cS hv hk9 with ⟨v1, w1, o1⟩
  rcases hA with ⟨g1, kk⟩ | ⟨⟨a8, b8, g1, g2, g3⟩, g4, kk⟩
  · exact meets _ v1 w1 (fun P E d acts => by rw [o1, if_pos (takes n1 c1 hc1 g1)]) kk
  · rw [hcl] at g1
    rw [hc1] at g2
    cases g1
    cases g2
    rcases yOne (S := S.setVm v1) (f := F0 m pc ls rest) (x := x2) w1 L2 h2 z2 cS hv hk9 with ⟨v2, w2, o2⟩
    exact meets _ v2 w2 (fun P E d acts => by rw [o1, if_neg (by rw [g3]; decide), o2, if_pos (takes n2 c2 hc2 g4)]; rfl) kk
end ZN98zy
