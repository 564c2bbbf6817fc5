/-! ===== NEW CELLS, CALLS, CONTRACTS ===== -/
/-- a new cell at the end of memory, with what a new cell holds -/
def zNew (μ : zMem) (s : zSh) : zMem := (μ.1 ++ [s], fun a b => if a = μ.1.length then 0 else μ.2.1 a b, fun a b => if a = μ.1.length then 0 else μ.2.2.1 a b, fun a b => if a = μ.1.length then none else μ.2.2.2 a b)
theorem zNew_old {μ : zMem} {s : zSh} {a : Nat} (h : a < μ.1.length) : (zNew μ s).2.1 a = μ.2.1 a ∧ (zNew μ s).2.2.1 a = μ.2.2.1 a ∧ (zNew μ s).2.2.2 a = μ.2.2.2 a := by
  refine ⟨?_, ?_, ?_⟩ <;> (funext b; simp [zNew, Nat.ne_of_lt h])
theorem zW_new {w : zP} {μ : zMem} {s : zSh} : zW w (zNew μ s) = zW w μ ++ [(zb w + μ.1.length, zE w (zNew μ s) μ.1.length s)] := by
  apply List.ext_getElem?
  intro j
  by_cases hj : j < μ.1.length
  · rw [List.getElem?_append_left (by rw [zW_len]; exact hj)]
    have h1 : (zNew μ s).1[j]? = some (μ.1[j]) := by simp [zNew, List.getElem?_append_left hj]
    rw [zW_at h1, zW_at (μ := μ) (s := μ.1[j]) (by simp [hj])]
    obtain ⟨a1, a2, a3⟩ := zNew_old (s := s) hj
    rw [zE_other a1 a2 a3]
  · by_cases hj2 : j = μ.1.length
    · subst hj2
      rw [List.getElem?_append_right (by rw [zW_len]; exact Nat.le_refl _), zW_len, Nat.sub_self]
      exact zW_at (by simp [zNew])
    · rw [List.getElem?_eq_none (by rw [zW_len]; simp [zNew]; omega), List.getElem?_eq_none (by simp [zW_len]; omega)]
def zDf (t : FieldType) : Value := match zKd t with
  | 0 => .int 0
  | 1 => .long 0
  | _ => .null
theorem zDf_ok {ci : Nat} (h : ci < 11) : ∀ j, j < zN ci → defaultValue (zTy ci j) = zDf (zTy ci j) := by
  match ci, h with
  | 0, _ => decide
  | 1, _ => decide
  | 2, _ => decide
  | 3, _ => decide
  | 4, _ => decide
  | 5, _ => decide
  | 6, _ => decide
  | 7, _ => decide
  | 8, _ => decide
  | 9, _ => decide
  | 10, _ => decide +kernel
  | k + 11, h => exact absurd h (by omega)
theorem zNew_fv {w : zP} {μ : zMem} {s : zSh} {ci j : Nat} : zCv w (zFv (zNew μ s) μ.1.length ci j) = zDf (zTy ci j) := by
  unfold zFv zDf
  split
  · rename_i h; simp [h, zNew, zCv]
  · rename_i h; simp [h, zNew, zCv]
  · simp [zNew, zCv, zRf]
section ZC
variable {w : zP} {M M' : zMd} {R R' : Room} {Q : Option Value → zMem → Prop} {kc ks pc : Nat} {lv : zLoc} {st : List Value} {μ : zMem}
theorem z_new {ci idx : Nat} (hlay : zLayOk) (hfl : zfl w = true) (hd : decode M.2.2.1 pc = .ok (.new idx, 3)) (hci : ci < 11) (hw1 : Cond.classLink M.2.1.cls idx (zC ci) ∈ zG) (hw2 : Cond.instantiable (zC ci) (zN ci) ∈ zG) (hw3 : Cond.initialized (zC ci) ∈ zG) (hc1 : kc + 1 ≤ R.cells) (hc2 : ks + zN ci ≤ R.slots)
    (kk : zX w M R Q (kc + 1) (ks + zN ci) (pc + 3) lv (.ref μ.1.length :: st) (zNew μ (.inr ci))) : zX w M R Q kc ks pc lv st μ := by
  intro p e s m args below meth c Qm C hK hret H locs ls hH hS hl
  obtain ⟨hx, hb, hml, hown, hts, hKn, hex, hb0, hlk, hr, hnm⟩ := id C
  have hKc := hKn.1 ci _ (zCl hci)
  have hz := hH.2 hfl
  refine W.newcK hx hb hown (hts _ hw1) (hts _ hw2) (hts _ hw3) rfl hd hc1 hc2 hKc.2.1 hz fun H1 kC hkC e1 z1 o1 => ?_
  have hP1 : va_P (zD w) vwCl (zW w μ) H1 := hH.1.kept (fun k x hx => o1 x.1 (by rw [← hz]; exact (hH.1 k x hx).lt))
  refine kk p e s m args below meth c Qm C hK hret H1 locs ls ⟨?_, fun _ => by rw [z1]; simp [zNew]; omega⟩ ⟨Nat.le_trans hS.1 (by omega), fun x h1 h2 => (o1 x (by rw [← hz]; exact Nat.lt_of_lt_of_le h1 hS.1)).trans (hS.2.1 x h1 h2), hS.2.2⟩ hl
  rw [zW_new]
  refine hP1.app (fun k x hx => ?_)
  have hz0 : k < 1 := (List.getElem?_eq_some_iff.mp hx).1
  rw [show k = 0 by omega] at hx
  cases hx
  refine ⟨_, zCl hci, (u_born (zTy ci) hts (hlay ci hci) hKc hkC e1 (zTy_ok hci)).to (fun j hj => ?_)⟩
  rw [zDf_ok hci j hj]
  simp only [vp_V, List.getD_eq_getElem?_getD]
  rw [zFs_at hj, zNew_fv]
  rfl
def zAk (a : ArrayType) : Nat := match a with
  | .int => 0
  | .long => 1
  | .byte => 2
  | _ => 3
theorem z_newa {at0 : ArrayType} {n : Int32} {N : Nat} (hfl : zfl w = true) (hd : decode M.2.2.1 pc = .ok (.newarray at0, 2)) (hat : newarray.typeOf at0 = zAty (zAk at0)) (hw : Cond.arrayClass (newarray.typeOf at0) ∈ zG) (hn : ¬ n < 0) (hN : n.toNatClampNeg = N) (hby : N * componentBytes (newarray.typeOf at0) ≤ 536870912) (hc1 : kc + 1 ≤ R.cells) (hc2 : ks + N ≤ R.slots)
    (kk : zX w M R Q (kc + 1) (ks + N) (pc + 2) lv (.ref μ.1.length :: st) (zNew μ (.inl (zAk at0, N)))) : zX w M R Q kc ks pc lv (.int n :: st) μ := by
  intro p e s m args below meth c Qm C hK hret H locs ls hH hS hl
  obtain ⟨hx, hb, hml, hown, hts, hKn, hex, hb0, hlk, hr, hnm⟩ := id C
  have hz := hH.2 hfl
  have hlt : zAk at0 < 4 := by cases at0 <;> decide
  have hRA := (hKn.2 (zAk at0) _ (zTys_at _ hlt _)).2
  refine va_newaK hx hb (hts _ hw) rfl hd rfl hn hN hby hc1 hc2 hz fun H1 cA e1 z1 o1 hAr hNm => ?_
  have hcA : cA = zg w (zAk at0) := by
    rw [hat] at hNm
    have h2 : s.vm.findClass ("[" ++ (zAty (zAk at0)).toString) = some (zg w (zAk at0)) := by
      revert hRA
      generalize zAk at0 = k at hlt
      match k, hlt with
      | 0, _ => exact fun h => h
      | 1, _ => exact fun h => h
      | 2, _ => exact fun h => h
      | 3, _ => exact fun h => h
      | k + 4, h => exact absurd h (by omega)
    exact Option.some.inj (hNm.symm.trans h2)
  subst hcA
  have hP1 : va_P (zD w) vwCl (zW w μ) H1 := hH.1.kept (fun k x hx => o1 x.1 (by rw [← hz]; exact (hH.1 k x hx).lt))
  refine kk p e s m args below meth c Qm C hK hret H1 locs ls ⟨?_, fun _ => by rw [z1]; simp [zNew]; omega⟩ ⟨Nat.le_trans hS.1 (by omega), fun x h1 h2 => (o1 x (by rw [← hz]; exact Nat.lt_of_lt_of_le h1 hS.1)).trans (hS.2.1 x h1 h2), hS.2.2⟩ hl
  rw [zW_new]
  refine hP1.app (fun k x hx => ?_)
  have hz0 : k < 1 := (List.getElem?_eq_some_iff.mp hx).1
  rw [show k = 0 by omega] at hx
  cases hx
  show H1[zb w + μ.1.length]? = some (vp_cell _ _)
  rw [e1, hat]
  cases at0 <;> first | (simp [zAk, zAty, zE, vp_cell, defaultValue, zNew]; done) | (exfalso; revert hat; simp [zAk, zAty, newarray.typeOf]; done)
/-- a method's contract in the abstract: called with these, in this memory, it ends with Q -/
def zXM (w : zP) (M : zMd) (R : Room) (args : List Value) (μ : zMem) (Q : Option Value → zMem → Prop) : Prop := zX w M R Q 0 0 0 (lv_args 0 args) [] μ
theorem zX.mono {Q' : Option Value → zMem → Prop} (hQ : ∀ v μ', Q v μ' → Q' v μ') (h : zX w M R Q kc ks pc lv st μ) : zX w M R Q' kc ks pc lv st μ := by
  intro p e s m args below meth c Qm C hK hret
  exact h p e s m args below meth c Qm C hK (fun v μ' H' locs' kc' ks' pc' ls' hq => hret v μ' H' locs' kc' ks' pc' ls' (hQ v μ' hq))
theorem zX.sub {lv' : zLoc} (hs : ∀ q ∈ lv', q ∈ lv) (h : zX w M R Q kc ks pc lv' st μ) : zX w M R Q kc ks pc lv st μ := by
  intro p e s m args below meth c Qm C hK hret H locs ls hH hS hl
  refine h p e s m args below meth c Qm C hK hret H locs ls hH hS ⟨hl.1, hl.2.1, fun q hq => hl.2.2 q ?_⟩
  obtain ⟨a, ha, rfl⟩ := List.mem_map.mp hq
  exact List.mem_map.mpr ⟨a, hs a ha, rfl⟩
def zPre (w : zP) (args : List Value) (μ : zMem) : Array Value → State → Prop := va_Pc (args.map (zCv w)) (fun U => zHas w μ U.heap ∧ va_K (zD w) vwCl (zTys (zg w)) U ∧ zex w U U.heap ∧ zb w ≤ U.heap.size)
def zPost (w : zP) (Q : Option Value → zMem → Prop) : Array Value → State → Outcome → State → Prop := fun _ st oc t => ∃ (v : Option Value) (μ' : zMem), oc = .returned (v.map (zCv w)) ∧ Q v μ' ∧ zHas w μ' t.heap ∧ va_F (zA w) st t
theorem zArgs (w : zP) : ∀ (args : List Value) (i : Nat), lv_args i (args.map (zCv w)) = zLv w (lv_args i args)
  | [], i => rfl
  | v :: vs, i => by
    simp only [List.map_cons, lv_args, zLv, zCv_cat]
    rw [zArgs w vs]
    rfl
theorem zSlots (w : zP) : ∀ (args : List Value), (lg_sl (args.map (zCv w))).length = (lg_sl args).length
  | [] => rfl
  | v :: vs => by
    have ih := zSlots w vs
    simp only [lg_sl, List.map_cons, List.flatMap_cons, List.length_append, zCv_cat] at ih ⊢
    rw [ih]
    congr 1
    split <;> rfl
abbrev zCode (M : zMd) : Cond := .code M.2.1 M.2.2.1 M.2.2.2.1 M.2.2.2.2
theorem zMet {args : List Value} (hcode : zCode M ∈ zG) (hpl : plainFor M.2.1 = true) (hln : (lg_sl args).length ≤ M.2.2.2.1) (hKp : zKp w) (h : zXM w M R args μ Q) : Met (zl w) M.2.1 (zCode M :: zG) R (zPre w args μ) (zPost w Q) R.cells R.slots (zA w) := by
  refine va_MetF (cc := M.2.2.1) (maxL := M.2.2.2.1) (ret := M.2.2.2.2) hpl rfl ?_
  intro p e s m args' below meth c s₁ B hml hv
  obtain ⟨rfl, hH, hKn, hex, hb0⟩ := hv
  have hx := B.exec
  have hb := B.bytes
  have hr := B.returns
  have hts := atoms_spec (ws := zCode M :: zG) B.pre
  have hown : s.vm.findClass M.2.1.cls = some m.cls := findClass_of_methodNamed B.named
  have hlocks := B.notSynchronized
  have hin : meth.name = M.2.1.name := (name_of_methodNamed B.named B.method).1
  have hl := lv_entry (args.map (zCv w)) (n := M.2.2.2.1) (by rw [zSlots]; exact hln)
  rw [lg_entry_eq]
  generalize (lg_sl (args.map (zCv w)) ++ List.replicate (M.2.2.2.1 - (lg_sl (args.map (zCv w))).length) Slot.unset).toArray = ls at hl ⊢
  rw [zArgs] at hl
  have C : zCx w M p s m (args.map (zCv w)).toArray meth c := ⟨hx, hb, hml, hown, fun q hq => hts q (List.mem_cons_of_mem _ hq), hKn, hex, hb0, hlocks, hr, hin⟩
  refine h p e s m _ below meth c _ C hKp ?_ s.heap [] ls hH va_S.rf hl
  intro v μ' H' locs' kc' ks' pc' ls' hq hok hH' hS' hkc hks hd
  refine W.widen (k := R.cells) (n := R.slots) hkc hks ?_
  have hq' : ∀ t : State, t.heap = H' → s.WarmedH t.vm → zPost w Q (args.map (zCv w)).toArray s (.returned (v.map (zCv w))) t := fun t ht _ => ⟨v, μ', rfl, hq, by rw [ht]; exact hH', hS'.F ht⟩
  cases v with
  | none => exact W.vret hx hb (hr.trans hok) hq' hS'.2.2 hd
  | some v =>
    cases v with
    | int x =>
      obtain ⟨ty, e1, e2⟩ := hok
      exact W.zret hx hb (hr.trans e1) e2 hq' hS'.2.2 hd
    | long x => exact W.lret hx hb (hr.trans hok) hq' hS'.2.2 hd
    | _ => exact hok.elim
/-- behind a call -/
theorem zBack {p : Program} {e : Env} {s : State} {m : MethodId} {args : Array Value} {below : List Frame} {meth : Method} {c : Code} {Qm : State → Prop} {H : Heap} {locs : List Loc} {ls : Array Slot} {st0 rest : List Value} {a : Array Value}
    (hr : va_Run p (zl w) e R s m args below meth c H locs kc ks R'.cells R'.slots (F0 m pc ls st0) rest (zPost w Q a) (zA w)) (hS : va_S (zA w) s.heap H locs)
    (kk : ∀ (v : Option Value) (μ' : zMem) (H1 : Heap) (locs1 : List Loc), Q v μ' → zHas w μ' H1 → va_S (zA w) s.heap H1 locs1 → W p (zl w) e R s m args below meth c H1 locs1 (kc + R'.cells) (ks + R'.slots) Qm (F0 m (pc + 3) ls ((v.map (zCv w)).toList ++ rest))) : W p (zl w) e R s m args below meth c H locs kc ks Qm (F0 m pc ls st0) := by
  intro T hT X
  obtain ⟨v, st₀, t, T', L, h0, X', hL, e1, e2, ⟨v0, μ', hv, hq, hH', hz, hk⟩, st⟩ := hr T hT X
  cases hv
  rw [h0] at hz hk
  obtain ⟨t2, a1, b1⟩ := kk v0 μ' T'.heap (locs ++ L) hq (by rw [e1]; exact hH')
    ⟨Nat.le_trans hS.1 (by rw [e1]; exact hz), fun q h1 h2 => by rw [e1, hk q (Nat.lt_of_lt_of_le h1 hS.1) h2]; exact hS.2.1 q h1 h2, fun q hq => by
      rcases List.mem_append.mp hq with h | h
      · exact hS.2.2 q h
      · exact hL q h⟩ T' rfl X'
  exact ⟨t2, st t2 a1, b1⟩
theorem zPre_blind {args : List Value} (hKp : zKp w) : FrameBlind (zPre w args μ) := fun a U g mk h => ⟨h.1, h.2.1, va_K.moved (u := U) (U := U.calling g mk a) (Vm.Alike.refl U.vm) h.2.2.1, hKp.1 U (U.calling g mk a) _ rfl h.2.2.2.1, h.2.2.2.2⟩
theorem zPre_at {args : List Value} {s U : State} {H : Heap} {locs : List Loc} (hKp : zKp w) (hKn : va_K (zD w) vwCl (zTys (zg w)) s) (hex : zex w s s.heap) (hb0 : zb w ≤ s.heap.size) (hH : zHas w μ H) (hS : va_S (zA w) s.heap H locs) (hU : U.heap = H) (hW : s.WarmedH U.vm) : zPre w args μ (args.map (zCv w)).toArray U :=
  ⟨rfl, by rw [hU]; exact hH, va_K.moved hW.alike hKn, by rw [hU]; exact hKp.2.2 U _ _ hS.2.1 (hKp.2.1 s U _ hW hex), by rw [hU]; exact Nat.le_trans hb0 hS.1⟩
/-- the callee may be called from here -/
def zFit (R R' : Room) (M' : zMd) (kc ks n : Nat) : Prop := R'.frames + 1 ≤ R.frames ∧ 8 + (M'.2.2.2.1 + 11) + R'.locals ≤ R.locals ∧ kc + R'.cells ≤ R.cells ∧ ks + R'.slots ≤ R.slots ∧ n ≤ 8
def zDesc (M' : zMd) (n : Nat) : Prop := M'.2.1.cls ≠ "java/lang/invoke/MethodHandle" ∧ M'.2.1.cls ≠ "java/lang/invoke/VarHandle" ∧ (parseMethodDescriptor M'.2.1.desc).map (fun d => d.parameters.length) = some n
theorem zRev (w : zP) {As rest : List Value} (hst : st = As.reverse ++ rest) : st.map (zCv w) = (As.map (zCv w)).reverse ++ rest.map (zCv w) := by rw [hst]; simp
theorem zCat (w : zP) {rest : List Value} : ((rest.map (zCv w)).map fun v => v.category).sum = (rest.map fun v => v.category).sum := by simp [Function.comp_def, zCv_cat]
theorem z_callV {i ci idx : Nat} {As rest : List Value} (hd : decode M.2.2.1 pc = .ok (.invokevirtual idx, 3)) (hcode : zCode M' ∈ zG) (hpl : plainFor M'.2.1 = true) (hln : (lg_sl (.ref i :: As)).length ≤ M'.2.2.2.1) (hfit : zFit R R' M' kc ks (rest.map fun v => v.category).sum) (hw1 : Cond.methodLink M.2.1.cls idx M'.2.1 ∈ zG) (hw2 : Cond.instanceMethod M'.2.1 ∈ zG) (hw3 : Cond.selects M'.2.1.cls M'.2.1 M'.2.1 ∈ zG) (hw4 : Cond.initialized M'.2.1.cls ∈ zG) (hci : ci < 11) (hcc : zC ci = M'.2.1.cls) (hsh : μ.1[i]? = some (.inr ci)) (hds : zDesc M' As.length) (hst : st = As.reverse ++ .ref i :: rest) (h : zXM w M' R' (.ref i :: As) μ (fun v μ' => zX w M R Q (kc + R'.cells) (ks + R'.slots) (pc + 3) lv (v.toList ++ rest) μ')) : zX w M R Q kc ks pc lv st μ := by
  intro p e s m args below meth c Qm C hK hret H locs ls hH hS hl
  obtain ⟨hx, hb, hml, hown, hts, hKn, hex, hb0, hlk, hr, hnm⟩ := id C
  have hgo : GoodIn zG (wsV M.2.1.cls idx M'.2.1.cls M'.2.1 (zCode M' :: zG)) := by
    have g := zG_in hcode
    have g1 : ∀ q ∈ zG, q ∈ zG ∧ ((q.onTables && q.keeps) = true ∨ ∃ ty, q = .arrayClass ty) := fun q hq => g q (List.mem_cons_of_mem _ hq)
    intro q hq
    rcases List.mem_append.mp hq with hq | hq
    · simp only [List.mem_cons, List.not_mem_nil, or_false] at hq
      rcases hq with rfl | rfl | rfl | rfl
      · exact g1 _ hw1
      · exact g1 _ hw2
      · exact g1 _ hw3
      · exact g1 _ hw4
    · exact g q hq
  have hrv := va_recv hKn hH.1 (zCl hci) (zW_at hsh)
  rw [hcc] at hrv
  have hM := zMet (args := .ref i :: As) hcode hpl hln hK h
  refine zBack (R' := R') (rest := rest.map (zCv w)) (va_runV (As := As.map (zCv w)) ⟨hx, hb, hml, hown, hts⟩ hM (cwV As.length hts hgo rfl rfl rfl ⟨rfl, hds⟩ ⟨hfit.1, hfit.2.1⟩) ⟨zPre_blind hK, hrv, fun U hU hW => zPre_at (args := .ref i :: As) hK hKn hex hb0 hH hS hU hW⟩ rfl (by simp) hl.1 (by rw [zRev w hst]; rfl) (lv_room (by rw [zCat]; exact hfit.2.2.2.2)) hd ⟨hfit.2.2.1, hfit.2.2.2.1⟩) hS (fun v μ' H1 locs1 hq hH1 hS1 => ?_)
  have k2 := hq p e s m args below meth c Qm C hK hret H1 locs1 ls hH1 hS1 hl
  rw [List.map_append] at k2
  cases v <;> exact k2
theorem z_callS {idx : Nat} {As rest : List Value} (hd : decode M.2.2.1 pc = .ok (.invokestatic idx, 3)) (hcode : zCode M' ∈ zG) (hpl : plainFor M'.2.1 = true) (hln : (lg_sl (As)).length ≤ M'.2.2.2.1) (hfit : zFit R R' M' kc ks (rest.map fun v => v.category).sum) (hw1 : Cond.methodLink M.2.1.cls idx M'.2.1 ∈ zG) (hw2 : Cond.static M'.2.1 ∈ zG) (hw4 : Cond.initialized M'.2.1.cls ∈ zG) (hds : zDesc M' As.length) (hst : st = As.reverse ++ rest) (h : zXM w M' R' (As) μ (fun v μ' => zX w M R Q (kc + R'.cells) (ks + R'.slots) (pc + 3) lv (v.toList ++ rest) μ')) : zX w M R Q kc ks pc lv st μ := by
  intro p e s m args below meth c Qm C hK hret H locs ls hH hS hl
  obtain ⟨hx, hb, hml, hown, hts, hKn, hex, hb0, hlk, hr, hnm⟩ := id C
  have hgo : GoodIn zG (va_wsS M.2.1.cls idx M'.2.1 (zCode M' :: zG)) := by
    have g := zG_in hcode
    have g1 : ∀ q ∈ zG, q ∈ zG ∧ ((q.onTables && q.keeps) = true ∨ ∃ ty, q = .arrayClass ty) := fun q hq => g q (List.mem_cons_of_mem _ hq)
    intro q hq
    rcases List.mem_append.mp hq with hq | hq
    · simp only [List.mem_cons, List.not_mem_nil, or_false] at hq
      rcases hq with rfl | rfl | rfl
      · exact g1 _ hw1
      · exact g1 _ hw2
      · exact g1 _ hw4
    · exact g q hq
  have hM := zMet (args := As) hcode hpl hln hK h
  refine zBack (R' := R') (rest := rest.map (zCv w)) (va_runS (As := As.map (zCv w)) ⟨hx, hb, hml, hown, hts⟩ hM (va_cwS As.length hts hgo rfl rfl rfl hds ⟨hfit.1, hfit.2.1⟩) ⟨zPre_blind hK, fun U hU hW => zPre_at hK hKn hex hb0 hH hS hU hW⟩ rfl (by simp) hl.1 (by rw [zRev w hst]) (lv_room (by rw [zCat]; exact hfit.2.2.2.2)) hd ⟨hfit.2.2.1, hfit.2.2.2.1⟩) hS (fun v μ' H1 locs1 hq hH1 hS1 => ?_)
  have k2 := hq p e s m args below meth c Qm C hK hret H1 locs1 ls hH1 hS1 hl
  rw [List.map_append] at k2
  cases v <;> exact k2
theorem z_callSN {idx : Nat} {host : String} {As rest : List Value} (hd : decode M.2.2.1 pc = .ok (.invokestatic idx, 3)) (hcode : zCode M' ∈ zG) (hpl : plainFor M'.2.1 = true) (hln : (lg_sl (As)).length ≤ M'.2.2.2.1) (hfit : zFit R R' M' kc ks (rest.map fun v => v.category).sum) (hw1 : ∀ (U : State) (H : Heap), zex w U H → va_Nw (.methodLinkNest M.2.1.cls idx M'.2.1 host) U) (hw2 : Cond.static M'.2.1 ∈ zG) (hw4 : Cond.initialized M'.2.1.cls ∈ zG) (hds : zDesc M' As.length) (hst : st = As.reverse ++ rest) (h : zXM w M' R' (As) μ (fun v μ' => zX w M R Q (kc + R'.cells) (ks + R'.slots) (pc + 3) lv (v.toList ++ rest) μ')) : zX w M R Q kc ks pc lv st μ := by
  intro p e s m args below meth c Qm C hK hret H locs ls hH hS hl
  obtain ⟨hx, hb, hml, hown, hts, hKn, hex, hb0, hlk, hr, hnm⟩ := id C
  have hM := zMet (args := As) hcode hpl hln hK h
  refine zBack (R' := R') (rest := rest.map (zCv w)) (va_runSN (As := As.map (zCv w)) ⟨hx, hb, hml, hown, hts⟩ hM ⟨va_cnB As.length hts (zG_in hcode) rfl rfl rfl (hw1 s _ hex) (hts _ hw4) hds ⟨hfit.1, hfit.2.1⟩, hts _ hw2, trivial⟩ ⟨zPre_blind hK, fun U hU hW => zPre_at hK hKn hex hb0 hH hS hU hW⟩ rfl (by simp) hl.1 (by rw [zRev w hst]) (lv_room (by rw [zCat]; exact hfit.2.2.2.2)) hd ⟨hfit.2.2.1, hfit.2.2.2.1⟩) hS (fun v μ' H1 locs1 hq hH1 hS1 => ?_)
  have k2 := hq p e s m args below meth c Qm C hK hret H1 locs1 ls hH1 hS1 hl
  rw [List.map_append] at k2
  cases v <;> exact k2
theorem z_callI {i idx : Nat} {As rest : List Value} (hd : decode M.2.2.1 pc = .ok (.invokespecial idx, 3)) (hrt : M'.2.2.2.2 = none) (hin : M'.2.1.name = "<init>") (hcode : zCode M' ∈ zG) (hpl : plainFor M'.2.1 = true) (hln : (lg_sl (.ref i :: As)).length ≤ M'.2.2.2.1) (hfit : zFit R R' M' kc ks (rest.map fun v => v.category).sum) (hw1 : Cond.methodLink M.2.1.cls idx M'.2.1 ∈ zG) (hw2 : Cond.instanceMethod M'.2.1 ∈ zG) (hw4 : Cond.initialized M'.2.1.cls ∈ zG) (hds : zDesc M' As.length) (hst : st = As.reverse ++ .ref i :: rest) (h : zXM w M' R' (.ref i :: As) μ (fun v μ' => zX w M R Q (kc + R'.cells) (ks + R'.slots) (pc + 3) lv (v.toList ++ rest) μ')) : zX w M R Q kc ks pc lv st μ := by
  intro p e s m args below meth c Qm C hK hret H locs ls hH hS hl
  obtain ⟨hx, hb, hml, hown, hts, hKn, hex, hb0, hlk, hr, hnm⟩ := id C
  have hwn : zCode M' :: zG = Cond.code M'.2.1 M'.2.2.1 M'.2.2.2.1 none :: zG := by simp only [zCode, hrt]
  have hM := zMet (args := .ref i :: As) hcode hpl hln hK h
  refine zBack (R' := R') (rest := rest.map (zCv w)) (va_runI (As := As.map (zCv w)) ⟨hx, hb, hml, hown, hts⟩ hM (cwI As.length hts (zG_in hcode) hwn rfl rfl (hts _ hw4) (hts _ hw1) (hts _ hw2) hin hds ⟨hfit.1, hfit.2.1⟩) ⟨zPre_blind hK, fun U hU hW => zPre_at (args := .ref i :: As) hK hKn hex hb0 hH hS hU hW⟩ rfl (by simp) hl.1 (by rw [zRev w hst]; rfl) (lv_room (by rw [zCat]; exact hfit.2.2.2.2)) hd ⟨hfit.2.2.1, hfit.2.2.2.1⟩) hS (fun v μ' H1 locs1 hq hH1 hS1 => ?_)
  have k2 := hq p e s m args below meth c Qm C hK hret H1 locs1 ls hH1 hS1 hl
  rw [List.map_append] at k2
  cases v <;> exact k2
theorem z_callIN {i idx : Nat} {host : String} {As rest : List Value} (hd : decode M.2.2.1 pc = .ok (.invokespecial idx, 3)) (hrt : M'.2.2.2.2 = none) (hin : M'.2.1.name = "<init>") (hcode : zCode M' ∈ zG) (hpl : plainFor M'.2.1 = true) (hln : (lg_sl (.ref i :: As)).length ≤ M'.2.2.2.1) (hfit : zFit R R' M' kc ks (rest.map fun v => v.category).sum) (hw1 : ∀ (U : State) (H : Heap), zex w U H → va_Nw (.methodLinkNest M.2.1.cls idx M'.2.1 host) U) (hw2 : Cond.instanceMethod M'.2.1 ∈ zG) (hw4 : Cond.initialized M'.2.1.cls ∈ zG) (hds : zDesc M' As.length) (hst : st = As.reverse ++ .ref i :: rest) (h : zXM w M' R' (.ref i :: As) μ (fun v μ' => zX w M R Q (kc + R'.cells) (ks + R'.slots) (pc + 3) lv (v.toList ++ rest) μ')) : zX w M R Q kc ks pc lv st μ := by
  intro p e s m args below meth c Qm C hK hret H locs ls hH hS hl
  obtain ⟨hx, hb, hml, hown, hts, hKn, hex, hb0, hlk, hr, hnm⟩ := id C
  have hwn : zCode M' :: zG = Cond.code M'.2.1 M'.2.2.1 M'.2.2.2.1 none :: zG := by simp only [zCode, hrt]
  have hM := zMet (args := .ref i :: As) hcode hpl hln hK h
  refine zBack (R' := R') (rest := rest.map (zCv w)) (va_runIN (As := As.map (zCv w)) ⟨hx, hb, hml, hown, hts⟩ hM ⟨va_cnB As.length hts (zG_in hcode) hwn rfl rfl (hw1 s _ hex) (hts _ hw4) hds ⟨hfit.1, hfit.2.1⟩, hin, hts _ hw2⟩ ⟨zPre_blind hK, fun U hU hW => zPre_at (args := .ref i :: As) hK hKn hex hb0 hH hS hU hW⟩ rfl (by simp) hl.1 (by rw [zRev w hst]; rfl) (lv_room (by rw [zCat]; exact hfit.2.2.2.2)) hd ⟨hfit.2.2.1, hfit.2.2.2.1⟩) hS (fun v μ' H1 locs1 hq hH1 hS1 => ?_)
  have k2 := hq p e s m args below meth c Qm C hK hret H1 locs1 ls hH1 hS1 hl
  rw [List.map_append] at k2
  cases v <;> exact k2
theorem z_objInit {i idx : Nat} (hd : decode M.2.2.1 pc = .ok (.invokespecial idx, 3)) (hw1 : Cond.methodLink M.2.1.cls idx Lib.objectInit ∈ zG) (hw2 : Cond.instanceMethod Lib.objectInit ∈ zG) (hw3 : Cond.code Lib.objectInit ⟨#[0xb1]⟩ 1 none ∈ zG) (hf : 1 ≤ R.frames) (hlo : (st.map fun v => v.category).sum + 12 ≤ R.locals) (kk : zX w M R Q kc ks (pc + 3) lv st μ) : zX w M R Q kc ks pc lv (.ref i :: st) μ := by
  intro p e s m args below meth c Qm C hK hret H locs ls hH hS hl
  obtain ⟨hx, hb, hml, hown, hts, hKn, hex, hb0, hlk, hr, hnm⟩ := id C
  refine W.objInit hx hb hown (hts _ hw1) (hts _ hw2) (hts _ hw3) rfl (hl.1.trans hml.symm) rfl hd hf ?_ (kk p e s m args below meth c Qm C hK hret H locs ls hH hS hl)
  rw [zCat]
  have h0 : (F0 m pc ls (zCv w (.ref i) :: st.map (zCv w))).monitorRoom = 0 := rfl
  show 2 * (F0 m pc ls (zCv w (.ref i) :: st.map (zCv w))).monitorRoom + _ + 12 ≤ _
  rw [h0]
  omega
end ZC
