/-! ===== THE ABSTRACT MACHINE: memory, frames, the judgement zX ===== -/
/-- the shape of a cell: an array (kind 0 int, 1 long, 2 byte, 3 boolean; its length), or an object (number of its kind in vwCl) -/
abbrev zSh : Type := (Nat × Nat) ⊕ Nat
/-- memory: shapes, ints, longs, references; the cell i lies at the address base + i -/
abbrev zMem : Type := List zSh × (Nat → Nat → Int32) × (Nat → Nat → Int64) × (Nat → Nat → Option Nat)
abbrev zLoc : Type := List (Nat × Value)
/-- a world: launch, tables, classes of arrays, base, addresses of static tables, whether the heap's end is known, what else is known -/
abbrev zP : Type := Launch × va_G × (Nat → ClassId) × Nat × (Nat → Nat) × Bool × (State → Heap → Prop)
abbrev zl (w : zP) : Launch := w.1
abbrev zD (w : zP) : va_G := w.2.1
abbrev zg (w : zP) : Nat → ClassId := w.2.2.1
abbrev zb (w : zP) : Nat := w.2.2.2.1
abbrev ztb (w : zP) : Nat → Nat := w.2.2.2.2.1
abbrev zfl (w : zP) : Bool := w.2.2.2.2.2.1
abbrev zex (w : zP) : State → Heap → Prop := w.2.2.2.2.2.2
/-- a method: number of its owner, name, code, locals, what it returns -/
abbrev zMd : Type := Nat × MethodName × ByteArray × Nat × Option FieldType
def zA (w : zP) : Nat → Prop := fun q => zb w ≤ q
def zAty (k : Nat) : FieldType := match k with
  | 0 => .int
  | 1 => .long
  | 2 => .byte
  | _ => .boolean
def zTys (g : Nat → ClassId) : List (ClassId × FieldType) := [(g 0, .int), (g 1, .long), (g 2, .byte), (g 3, .boolean)]
def zTy (ci : Nat) : Nat → FieldType := match ci with
  | 0 => tyX0
  | 1 => tyX1
  | 2 => tyX2
  | 3 => tyX3
  | 4 => tyX4
  | 5 => tyX5
  | 6 => tyX6
  | 7 => tyX7
  | 8 => tyX8
  | 9 => tyX9
  | _ => tyX10
def zN (ci : Nat) : Nat := match ci with
  | 0 => 6
  | 1 => 5
  | 2 => 16
  | 3 => 2
  | 4 => 20
  | 5 => 12
  | 6 => 9
  | 7 => 8
  | 8 => 5
  | 9 => 15
  | _ => 103
def zT (ci : Nat) : u_T := match ci with
  | 0 => TX0
  | 1 => TX1
  | 2 => TX2
  | 3 => TX3
  | 4 => TX4
  | 5 => TX5
  | 6 => TX6
  | 7 => TX7
  | 8 => TX8
  | 9 => TX9
  | _ => TX10
def zC (ci : Nat) : String := match ci with
  | 0 => RX0
  | 1 => RX1
  | 2 => RX2
  | 3 => RX3
  | 4 => RX4
  | 5 => RX5
  | 6 => RX6
  | 7 => RX7
  | 8 => RX8
  | 9 => RX9
  | _ => RX10
theorem zCl {ci : Nat} (h : ci < 11) : vwCl[ci]? = some (zC ci, zT ci, zN ci) := by
  match ci, h with
  | 0, _ => rfl
  | 1, _ => rfl
  | 2, _ => rfl
  | 3, _ => rfl
  | 4, _ => rfl
  | 5, _ => rfl
  | 6, _ => rfl
  | 7, _ => rfl
  | 8, _ => rfl
  | 9, _ => rfl
  | 10, _ => rfl
  | k + 11, h => exact absurd h (by omega)
theorem zTy_ok {ci : Nat} (h : ci < 11) : ∀ k, k < zN ci → parseFieldDescriptor (zT ci k).2.2.1 = some (zTy ci k) := by
  match ci, h with
  | 0, _ => exact tyX0_ok
  | 1, _ => exact tyX1_ok
  | 2, _ => exact tyX2_ok
  | 3, _ => exact tyX3_ok
  | 4, _ => exact tyX4_ok
  | 5, _ => exact tyX5_ok
  | 6, _ => exact tyX6_ok
  | 7, _ => exact tyX7_ok
  | 8, _ => exact tyX8_ok
  | 9, _ => exact tyX9_ok
  | 10, _ => exact tyX10_ok
  | k + 11, h => exact absurd h (by omega)
theorem zNm {ci : Nat} (h : ci < 11) : ∀ a, a < zN ci → ∀ b, b < zN ci → a ≠ b → (zT ci a).2.1 ≠ (zT ci b).2.1 := by
  match ci, h with
  | 0, _ => exact nmX0
  | 1, _ => exact nmX1
  | 2, _ => exact nmX2
  | 3, _ => exact nmX3
  | 4, _ => exact nmX4
  | 5, _ => exact nmX5
  | 6, _ => exact nmX6
  | 7, _ => exact nmX7
  | 8, _ => exact nmX8
  | 9, _ => exact nmX9
  | 10, _ => exact nmX10
  | k + 11, h => exact absurd h (by omega)
/-- the good words of the tables -/
def zG : List Cond := lw_tbl.filter goodWord
theorem zG_mem {q : Cond} (i : Nat) (h : lw_tbl[i]? = some q) (hg : goodWord q = true) : q ∈ zG := List.mem_filter.mpr ⟨List.mem_of_getElem? h, hg⟩
theorem zG_app {q : Cond} {a b c : List Cond} (h : lw_tbl = a ++ (b ++ c)) (i : Nat) (hi : b[i]? = some q) (hg : goodWord q = true) : q ∈ zG := List.mem_filter.mpr ⟨by rw [h]; exact List.mem_append_right _ (List.mem_append_left _ (List.mem_of_getElem? hi)), hg⟩
theorem zG_in {a : Cond} (h : a ∈ zG) : GoodIn zG (a :: zG) := by
  have key : ∀ q ∈ zG, q ∈ zG ∧ ((q.onTables && q.keeps) = true ∨ ∃ ty, q = .arrayClass ty) := fun q hq => ⟨hq, good_of_word (List.mem_filter.mp hq).2⟩
  intro q hq
  rcases List.mem_cons.mp hq with rfl | hq
  · exact key _ h
  · exact key q hq
/-- a value as the machine has it: .ref i is the cell i; .float j is the static table j -/
def zCv (w : zP) (v : Value) : Value := match v with
  | .ref i => .ref (zb w + i)
  | .float u => .ref (ztb w u.toNat)
  | v => v
theorem zCv_cat (w : zP) (v : Value) : (zCv w v).category = v.category := by cases v <;> rfl
theorem zCv_int (w : zP) (x : Int32) : zCv w (.int x) = .int x := rfl
theorem zCv_long (w : zP) (x : Int64) : zCv w (.long x) = .long x := rfl
theorem zCv_ref (w : zP) (x : Nat) : zCv w (.ref x) = .ref (zb w + x) := rfl
def zKd (t : FieldType) : Nat := match t with
  | .long => 1
  | .object _ => 2
  | .array _ => 2
  | _ => 0
/-- what the slot k of the object i holds, in the abstract -/
def zRf (r : Option Nat) : Value := match r with
  | none => .null
  | some a => .ref a
def zFv (μ : zMem) (i ci k : Nat) : Value := match zKd (zTy ci k) with
  | 0 => .int (μ.2.1 i k)
  | 1 => .long (μ.2.2.1 i k)
  | _ => zRf (μ.2.2.2 i k)
def zE (w : zP) (μ : zMem) (i : Nat) (s : zSh) : va_E := match s with
  | .inl (k, n) => .inl (zg w k, n, if k = 1 then .inr (.inl (μ.2.2.1 i)) else .inl (μ.2.1 i))
  | .inr ci => .inr (ci, (List.range (zN ci)).map (fun k => zCv w (zFv μ i ci k)))
def zW (w : zP) (μ : zMem) : va_W := μ.1.mapIdx (fun i s => (zb w + i, zE w μ i s))
theorem zW_at {w : zP} {μ : zMem} {i : Nat} {s : zSh} (h : μ.1[i]? = some s) : (zW w μ)[i]? = some (zb w + i, zE w μ i s) := by simp [zW, List.getElem?_mapIdx, h]
theorem zW_of {w : zP} {μ : zMem} {i : Nat} {q : Nat × va_E} (h : (zW w μ)[i]? = some q) : ∃ s, μ.1[i]? = some s ∧ q = (zb w + i, zE w μ i s) := by
  simp only [zW, List.getElem?_mapIdx] at h
  cases hs : μ.1[i]? with
  | none => rw [hs] at h; cases h
  | some s => rw [hs] at h; exact ⟨s, rfl, (Option.some.inj h).symm⟩
theorem zW_D (w : zP) (μ : zMem) : va_D (zA w) (zW w μ) := by
  refine ⟨fun i j p q hi hj e => ?_, fun k q h => ?_⟩
  · obtain ⟨_, _, rfl⟩ := zW_of hi
    obtain ⟨_, _, rfl⟩ := zW_of hj
    exact Nat.add_left_cancel e
  · obtain ⟨_, _, rfl⟩ := zW_of h
    exact Nat.le_add_right _ _
theorem zW_len (w : zP) (μ : zMem) : (zW w μ).length = μ.1.length := by simp [zW]
def zHas (w : zP) (μ : zMem) (H : Heap) : Prop := va_P (zD w) vwCl (zW w μ) H ∧ (zfl w = true → H.size = zb w + μ.1.length)
/-- locals: what is held, by places; a store -/
def zLk : zLoc → Nat → Option Value
  | [], _ => none
  | q :: r, i => if q.1 = i then some q.2 else zLk r i
def zFil (c2 : Bool) (i : Nat) (q : Nat × Value) : Bool := !(q.1 == i) && !(q.1 + 1 == i && q.2.category == 2) && !(c2 && q.1 == i + 1)
def zIns (i : Nat) (v : Value) : zLoc → zLoc
  | [] => [(i, v)]
  | q :: r => if i ≤ q.1 then (i, v) :: q :: r else q :: zIns i v r
def zSto (c2 : Bool) (lv : zLoc) (i : Nat) (v : Value) : zLoc := zIns i v (lv.filter (zFil c2 i))
theorem zIns_mem {i : Nat} {v : Value} : ∀ {r : zLoc} {q : Nat × Value}, q ∈ zIns i v r → q = (i, v) ∨ q ∈ r
  | [], q, h => Or.inl (List.mem_singleton.mp h)
  | a :: r, q, h => by
    unfold zIns at h
    split at h
    · rcases List.mem_cons.mp h with h | h
      · exact Or.inl h
      · exact Or.inr h
    · rcases List.mem_cons.mp h with h | h
      · exact Or.inr (by rw [h]; exact List.mem_cons_self)
      · rcases zIns_mem h with h | h
        · exact Or.inl h
        · exact Or.inr (List.mem_cons_of_mem _ h)
def zLv (w : zP) (lv : zLoc) : zLoc := lv.map (fun q => (q.1, zCv w q.2))
theorem zLk_at {w : zP} {ls : Array Slot} {nL : Nat} : ∀ {lv : zLoc}, lv_has ls nL (zLv w lv) → ∀ {i : Nat} {v : Value}, zLk lv i = some v → ls[i]? = some (.val (zCv w v))
  | [], _, i, v, hk => by simp [zLk] at hk
  | q :: r, h, i, v, hk => by
    unfold zLk at hk
    split at hk
    · rename_i e
      cases hk
      subst e
      exact h.2.2 (q.1, zCv w q.2) (by simp [zLv])
    · exact zLk_at (lv := r) ⟨h.1, h.2.1, fun x hx => h.2.2 x (by simp only [zLv, List.map_cons]; exact List.mem_cons_of_mem _ hx)⟩ hk
theorem zSto_has1 {w : zP} {ls : Array Slot} {nL : Nat} {lv : zLoc} {i : Nat} {v : Value} (h : lv_has ls nL ((i, zCv w v) :: (zLv w lv).filter (fun q => !(q.1 == i) && !(q.1 + 1 == i && q.2.category == 2)))) : lv_has ls nL (zLv w (zSto false lv i v)) := by
  refine ⟨h.1, h.2.1, fun q hq => ?_⟩
  obtain ⟨a, ha, rfl⟩ := List.mem_map.mp hq
  rcases zIns_mem ha with rfl | ha
  · exact h.2.2 _ List.mem_cons_self
  · obtain ⟨h1, h2⟩ := List.mem_filter.mp ha
    refine h.2.2 (a.1, zCv w a.2) (List.mem_cons_of_mem _ (List.mem_filter.mpr ⟨List.mem_map.mpr ⟨a, h1, rfl⟩, ?_⟩))
    simp only [zFil, Bool.false_and, Bool.not_false, Bool.and_true] at h2
    rw [zCv_cat]
    exact h2
theorem zSto_has2 {w : zP} {ls : Array Slot} {nL : Nat} {lv : zLoc} {i : Nat} {v : Value} (h : lv_has ls nL ((i, zCv w v) :: (zLv w lv).filter (fun q => !(q.1 == i) && (!(q.1 == i + 1) && !(q.1 + 1 == i && q.2.category == 2))))) : lv_has ls nL (zLv w (zSto true lv i v)) := by
  refine ⟨h.1, h.2.1, fun q hq => ?_⟩
  obtain ⟨a, ha, rfl⟩ := List.mem_map.mp hq
  rcases zIns_mem ha with rfl | ha
  · exact h.2.2 _ List.mem_cons_self
  · obtain ⟨h1, h2⟩ := List.mem_filter.mp ha
    refine h.2.2 (a.1, zCv w a.2) (List.mem_cons_of_mem _ (List.mem_filter.mpr ⟨List.mem_map.mpr ⟨a, h1, rfl⟩, ?_⟩))
    simp only [zFil, Bool.true_and] at h2
    rw [zCv_cat]
    revert h2
    cases (a.1 == i) <;> cases (a.1 == i + 1) <;> cases (a.1 + 1 == i && a.2.category == 2) <;> simp
/-- what a method's body may take as given -/
def zCx (w : zP) (M : zMd) (p : Program) (s : State) (m : MethodId) (args : Array Value) (meth : Method) (c : Code) : Prop :=
  p.tables.exec = Jvm.exec ∧ c.code = M.2.2.1 ∧ c.maxLocals = M.2.2.2.1 ∧ s.vm.findClass M.2.1.cls = some m.cls ∧ (∀ q ∈ zG, q.before args s = true) ∧ va_K (zD w) vwCl (zTys (zg w)) s ∧ zex w s s.heap ∧ zb w ≤ s.heap.size ∧ meth.locks = false ∧ meth.sig.returnType = M.2.2.2.2 ∧ meth.name = M.2.1.name
/-- what is kept of what else is known -/
def zKp (w : zP) : Prop := (∀ (u U : State) (H : Heap), u.vm = U.vm → zex w u H → zex w U H) ∧ (∀ (u U : State) (H : Heap), u.WarmedH U.vm → zex w u H → zex w U H) ∧ ∀ (U : State) (H H1 : Heap), (∀ a : Nat, a < H.size → ¬ zA w a → H1[a]? = H[a]?) → zex w U H → zex w U H1
def zRetI (v : Option Value) : Instr := match v with
  | none => .return_
  | some (.long _) => .lreturn
  | some (.ref _) => .areturn
  | _ => .ireturn
/-- may v be returned by a method of this kind -/
def zRetOk (rt : Option FieldType) (v : Option Value) : Prop := match v with
  | none => rt = none
  | some (.long _) => rt = some .long
  | some (.int x) => ∃ ty, rt = some ty ∧ narrow ty (.int x) = .int x
  | _ => False
/-- from this frame the method comes to its end, with Q of its answer and of memory then -/
def zX (w : zP) (M : zMd) (R : Room) (Q : Option Value → zMem → Prop) (kc ks pc : Nat) (lv : zLoc) (st : List Value) (μ : zMem) : Prop :=
  ∀ (p : Program) (e : Env) (s : State) (m : MethodId) (args : Array Value) (below : List Frame) (meth : Method) (c : Code) (Qm : State → Prop), zCx w M p s m args meth c → zKp w →
    (∀ (v : Option Value) (μ' : zMem) (H' : Heap) (locs' : List Loc) (kc' ks' pc' : Nat) (ls' : Array Slot), Q v μ' → zRetOk M.2.2.2.2 v → zHas w μ' H' → va_S (zA w) s.heap H' locs' → kc' ≤ R.cells → ks' ≤ R.slots → decode M.2.2.1 pc' = .ok (zRetI v, 1) →
      W p (zl w) e R s m args below meth c H' locs' kc' ks' Qm (F0 m pc' ls' (v.map (zCv w)).toList)) →
    ∀ (H : Heap) (locs : List Loc) (ls : Array Slot), zHas w μ H → va_S (zA w) s.heap H locs → lv_has ls M.2.2.2.1 (zLv w lv) → W p (zl w) e R s m args below meth c H locs kc ks Qm (F0 m pc ls (st.map (zCv w)))
