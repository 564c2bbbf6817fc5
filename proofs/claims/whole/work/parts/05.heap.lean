/-! ===== THE RULES OF THE HEAP: fields, arrays, new cells ===== -/
/-- writes into memory -/
def zu {α : Type} (f : Nat → Nat → α) (i k : Nat) (v : α) : Nat → Nat → α := fun a b => if a = i ∧ b = k then v else f a b
abbrev zSI (μ : zMem) (i k : Nat) (v : Int32) : zMem := (μ.1, zu μ.2.1 i k v, μ.2.2.1, μ.2.2.2)
abbrev zSL (μ : zMem) (i k : Nat) (v : Int64) : zMem := (μ.1, μ.2.1, zu μ.2.2.1 i k v, μ.2.2.2)
abbrev zSR (μ : zMem) (i k : Nat) (v : Option Nat) : zMem := (μ.1, μ.2.1, μ.2.2.1, zu μ.2.2.2 i k v)
theorem zu_same {α : Type} (f : Nat → Nat → α) (i k : Nat) (v : α) : zu f i k v i k = v := by simp [zu]
theorem zu_cell {α : Type} (f : Nat → Nat → α) {i a : Nat} (k : Nat) (v : α) (h : a ≠ i) : zu f i k v a = f a := by funext b; simp [zu, h]
theorem zu_row {α : Type} (f : Nat → Nat → α) (i k : Nat) (v : α) : zu f i k v i = fun b => if b = k then v else f i b := by funext b; simp [zu]
theorem zFv_other {μ μ' : zMem} {a ci k : Nat} (hI : μ'.2.1 a = μ.2.1 a) (hL : μ'.2.2.1 a = μ.2.2.1 a) (hR : μ'.2.2.2 a = μ.2.2.2 a) : zFv μ' a ci k = zFv μ a ci k := by unfold zFv; rw [hI, hL, hR]
theorem zE_other {w : zP} {μ μ' : zMem} {a : Nat} {s : zSh} (hI : μ'.2.1 a = μ.2.1 a) (hL : μ'.2.2.1 a = μ.2.2.1 a) (hR : μ'.2.2.2 a = μ.2.2.2 a) : zE w μ' a s = zE w μ a s := by
  cases s with
  | inl q => simp only [zE]; rw [hI, hL]
  | inr ci => simp only [zE, zFv_other hI hL hR]
/-- one cell of memory is written -/
theorem zW_set {w : zP} {μ μ' : zMem} {i : Nat} {s : zSh} {x : va_E} (h1 : μ'.1 = μ.1) (hi : μ.1[i]? = some s) (ho : ∀ a, a ≠ i → μ'.2.1 a = μ.2.1 a ∧ μ'.2.2.1 a = μ.2.2.1 a ∧ μ'.2.2.2 a = μ.2.2.2 a) (hx : zE w μ' i s = x) : zW w μ' = (zW w μ).set i (zb w + i, x) := by
  apply List.ext_getElem?
  intro j
  have hlt : i < μ.1.length := (List.getElem?_eq_some_iff.mp hi).1
  by_cases hj : j = i
  · subst hj
    rw [List.getElem?_set_self (by rw [zW_len]; exact hlt), zW_at (by rw [h1]; exact hi), hx]
  · rw [List.getElem?_set_ne (Ne.symm hj)]
    simp only [zW, List.getElem?_mapIdx, h1]
    cases hs : μ.1[j]? with
    | none => rfl
    | some t =>
      obtain ⟨a1, a2, a3⟩ := ho j hj
      simp only [Option.map_some]
      rw [zE_other a1 a2 a3]
section ZH
variable {w : zP} {M : zMd} {R : Room} {Q : Option Value → zMem → Prop} {kc ks pc : Nat} {lv : zLoc} {st : List Value} {μ : zMem}
theorem zHas_set {H H1 : Heap} {μ' : zMem} {i : Nat} {s : zSh} {x : va_E} (hH : zHas w μ H) (h1 : μ'.1 = μ.1) (hi : μ.1[i]? = some s) (ho : ∀ a, a ≠ i → μ'.2.1 a = μ.2.1 a ∧ μ'.2.2.1 a = μ.2.2.1 a ∧ μ'.2.2.2 a = μ.2.2.2 a) (hx : zE w μ' i s = x) (hP : va_P (zD w) vwCl ((zW w μ).set i (zb w + i, x)) H1) (hz : H1.size = H.size) : zHas w μ' H1 :=
  ⟨by rw [zW_set h1 hi ho hx]; exact hP, fun h => by rw [hz, h1]; exact hH.2 h⟩
theorem zFs_at {i ci k : Nat} (hk : k < zN ci) : ((List.range (zN ci)).map (fun j => zCv w (zFv μ i ci j)))[k]? = some (zCv w (zFv μ i ci k)) := by simp [hk]
theorem zFs_set {μ' : zMem} {i ci k : Nat} {v : Value} (hk : k < zN ci) (hv : zFv μ' i ci k = v) (ho : ∀ j, j ≠ k → zFv μ' i ci j = zFv μ i ci j) : (List.range (zN ci)).map (fun j => zCv w (zFv μ' i ci j)) = ((List.range (zN ci)).map (fun j => zCv w (zFv μ i ci j))).set k (zCv w v) := by
  apply List.ext_getElem?
  intro j
  by_cases hj : j = k
  · subst hj
    rw [List.getElem?_set_self (by simpa using hk), zFs_at hk, hv]
  · rw [List.getElem?_set_ne (Ne.symm hj)]
    by_cases hjn : j < zN ci
    · rw [zFs_at hjn, zFs_at hjn, ho j hj]
    · rw [List.getElem?_eq_none (by simpa using hjn), List.getElem?_eq_none (by simpa using hjn)]
/-- the layouts' words are good words of the tables -/
def zLayOk : Prop := ∀ ci, ci < 11 → ∀ q ∈ u_ws (zC ci) (zT ci) (zN ci), q ∈ zG
abbrev zFl (own : String) (idx ci k : Nat) : Cond := .fieldLink own idx (zT ci k).1 (zT ci k).2.1 (zT ci k).2.2.1
theorem z_getG {i ci k idx : Nat} {v : Value} (hlay : zLayOk) (hd : decode M.2.2.1 pc = .ok (.getfield idx, 3)) (hci : ci < 11) (hk : k < zN ci) (hw : zFl M.2.1.cls idx ci k ∈ zG) (hsh : μ.1[i]? = some (.inr ci)) (hv : zFv μ i ci k = v) (kk : zX w M R Q kc ks (pc + 3) lv (v :: st) μ) : zX w M R Q kc ks pc lv (.ref i :: st) μ := by
  intro p e s m args below meth c Qm C hK hret H locs ls hH hS hl
  obtain ⟨hx, hb, hml, hown, hts, hKn, hex, hb0, hlk, hr, hnm⟩ := id C
  subst hv
  exact va_get hx hb hts (hlay ci hci) hown hKn hH.1 i (zW_at hsh) (zCl hci) k hk (hts _ hw) (fun _ h => h) (zFs_at hk) hd (kk p e s m args below meth c Qm C hK hret H locs ls hH hS hl)
/-- what the tables say of the field k of the class ci -/
theorem z_fld {s : State} {args : Array Value} {ci k : Nat} (hlay : zLayOk) (hts : ∀ q ∈ zG, q.before args s = true) (hKn : va_K (zD w) vwCl (zTys (zg w)) s) (hci : ci < 11) (hk : k < zN ci) :
    ∃ (cf : ClassId) (kf : Class) (fi : Nat) (f : Field), s.fieldFound? (zT ci k).1 (zT ci k).2.1 (zT ci k).2.2.1 = some (cf, kf, fi, f) ∧ f.slot = (zD w).2 ci k ∧ f.isStatic = false ∧
      (∀ v, narrow (zTy ci k) v = v → fits (zTy ci k) v = true → ((zT ci k).2.2.2 = false → k2_Sd s f ((zD w).1 ci) v) ∧ narrow f.type v = v ∧ s.fitsSlot ((zD w).1 ci) .none f.slot v = true) ∧ ((zT ci k).2.2.2 = true → s.vm.findClass (zT ci k).1 = some cf) := by
  rcases hKn.1 ci _ (zCl hci) with ⟨at_, fc, kC, hkC, kd⟩
  rcases at_ k hk with ⟨cf, kf, fi, f, ff, sl⟩
  have ly := u_lays hts (hlay ci hci) hk
  have wd := hts _ (hlay ci hci _ (u_in_lay hk))
  refine ⟨cf, kf, fi, f, ff, sl, (u_facts fc hkC ly ff).1, fun v a b => ⟨fun nf => u_store fc hkC kd (by simpa [u_lay, nf] using wd) ff (zTy_ok hci k hk) a b, u_fits fc hkC kd ly ff (zTy_ok hci k hk) a b⟩, fun fin => ?_⟩
  have wf : (Cond.laysFinal (zC ci) (zT ci k).1 (zT ci k).2.1 (zT ci k).2.2.1).before args s = true := by simpa [u_lay, fin] using wd
  rcases Cond.laysFinal_spec wf with ⟨_, _, _, _, _, _, -, -, e9, -, -, -, e13, -⟩
  rw [ff] at e9
  cases e9
  exact e13
/-- an object's cell, as memory has it -/
abbrev zOb (w : zP) (μ : zMem) (i ci : Nat) (cell : Cell) : Prop := cell.cls = (zD w).1 ci ∧ cell.vm = .none ∧ ∀ k, k < zN ci → cell.slots[(zD w).2 ci k]? = some (zCv w (zFv μ i ci k))
theorem zVp {i ci k : Nat} (hk : k < zN ci) : vp_V ((List.range (zN ci)).map (fun j => zCv w (zFv μ i ci j))) k = zCv w (zFv μ i ci k) := by simp [vp_V, hk]
theorem z_obj {H : Heap} {i ci : Nat} (hH : zHas w μ H) (hci : ci < 11) (hsh : μ.1[i]? = some (.inr ci)) : ∃ cell : Cell, H[zb w + i]? = some cell ∧ zOb w μ i ci cell := by
  rcases hH.1 i _ (zW_at (w := w) hsh) with ⟨r, r1, cell, q1, q2, q3, q4⟩
  rw [zCl hci] at r1
  cases r1
  exact ⟨cell, q1, q2, q3, fun k hk => by rw [q4 k hk]; exact congrArg some (zVp hk)⟩
theorem z_objSet {H H1 : Heap} {μ' : zMem} {i ci : Nat} {cell : Cell} (hH : zHas w μ H) (hci : ci < 11) (hsh : μ.1[i]? = some (.inr ci)) (h1 : μ'.1 = μ.1) (ho : ∀ a, a ≠ i → μ'.2.1 a = μ.2.1 a ∧ μ'.2.2.1 a = μ.2.2.1 a ∧ μ'.2.2.2 a = μ.2.2.2 a) (g : H1[zb w + i]? = some cell) (hob : zOb w μ' i ci cell) (e2 : H1.size = H.size) (e3 : ∀ q, q ≠ zb w + i → H1[q]? = H[q]?) : zHas w μ' H1 :=
  zHas_set hH h1 hsh ho rfl (hH.1.set (zW_D w μ) (zW_at (w := w) hsh) ⟨_, zCl hci, cell, g, hob.1, hob.2.1, fun k hk => by rw [hob.2.2 k hk]; exact congrArg some (zVp hk).symm⟩ e3) e2
/-- a field of the cell is written -/
theorem z_obPut {s : State} {args : Array Value} {μ' : zMem} {i ci k : Nat} {cell : Cell} {v : Value} (hlay : zLayOk) (hts : ∀ q ∈ zG, q.before args s = true) (hKn : va_K (zD w) vwCl (zTys (zg w)) s) (hci : ci < 11) (hk : k < zN ci) (hv : zFv μ' i ci k = v) (hoth : ∀ j, j ≠ k → zFv μ' i ci j = zFv μ i ci j) (hob : zOb w μ i ci cell) : zOb w μ' i ci (cell.setSlot ((zD w).2 ci k) (zCv w v)) := by
  refine ⟨hob.1, hob.2.1, fun j hj => ?_⟩
  show (cell.slots.setIfInBounds _ _)[_]? = _
  rw [Array.getElem?_setIfInBounds]
  by_cases e : j = k
  · subst e
    rw [if_pos rfl, if_pos (Array.getElem?_eq_some_iff.mp (hob.2.2 j hk)).1, hv]
  · rw [if_neg (va_apart (own := "") hts (hlay ci hci) (zTy ci) (zTy_ok hci) (zNm hci) hKn (zCl hci) k j hk hj (Ne.symm e)), hob.2.2 j hj, hoth j e]
theorem z_putG {i ci k idx : Nat} {v : Value} {μ' : zMem} (hlay : zLayOk) (hd : decode M.2.2.1 pc = .ok (.putfield idx, 3)) (hci : ci < 11) (hk : k < zN ci) (hw : zFl M.2.1.cls idx ci k ∈ zG) (hsh : μ.1[i]? = some (.inr ci)) (hfin : (zT ci k).2.2.2 = false) (hn : narrow (zTy ci k) (zCv w v) = zCv w v) (hfit : fits (zTy ci k) (zCv w v) = true)
    (h1 : μ'.1 = μ.1) (ho : ∀ a, a ≠ i → μ'.2.1 a = μ.2.1 a ∧ μ'.2.2.1 a = μ.2.2.1 a ∧ μ'.2.2.2 a = μ.2.2.2 a) (hv : zFv μ' i ci k = v) (hoth : ∀ j, j ≠ k → zFv μ' i ci j = zFv μ i ci j) (kk : zX w M R Q kc ks (pc + 3) lv st μ') : zX w M R Q kc ks pc lv (v :: .ref i :: st) μ := by
  intro p e s m args below meth c Qm C hK hret H locs ls hH hS hl
  obtain ⟨hx, hb, hml, hown, hts, hKn, hex, hb0, hlk, hr, hnm⟩ := id C
  rcases z_fld hlay hts hKn hci hk with ⟨cf, kf, fi, f, ff, sl, ns, ok, -⟩
  rcases z_obj hH hci hsh with ⟨cell, at_, ob⟩
  have old : f.slot < cell.slots.size := sl ▸ (Array.getElem?_eq_some_iff.mp (ob.2.2 k hk)).1
  exact W.putK hx hb (f := f) ⟨hown, hts _ hw, ⟨cf, kf, fi, ff⟩, ns⟩ (ob.1 ▸ (ok _ hn hfit).1 hfin) at_ ob.2.1 old rfl rfl hd (fun H1 e1 e2 e3 => kk p e s m args below meth c Qm C hK hret H1 _ ls (z_objSet hH hci hsh h1 ho e1 (sl ▸ z_obPut hlay hts hKn hci hk hv hoth ob) e2 e3) (hS.put e2 e3 (Nat.le_add_right _ _)) hl)
theorem z_putFG {i ci k idx : Nat} {v : Value} {μ' : zMem} (hlay : zLayOk) (hd : decode M.2.2.1 pc = .ok (.putfield idx, 3)) (hci : ci < 11) (hk : k < zN ci) (hw : zFl M.2.1.cls idx ci k ∈ zG) (hsh : μ.1[i]? = some (.inr ci)) (hfin : (zT ci k).2.2.2 = true) (hin2 : M.2.1.name = "<init>") (hdecl : (zT ci k).1 = M.2.1.cls) (hn : narrow (zTy ci k) (zCv w v) = zCv w v) (hfit : fits (zTy ci k) (zCv w v) = true)
    (h1 : μ'.1 = μ.1) (ho : ∀ a, a ≠ i → μ'.2.1 a = μ.2.1 a ∧ μ'.2.2.1 a = μ.2.2.1 a ∧ μ'.2.2.2 a = μ.2.2.2 a) (hv : zFv μ' i ci k = v) (hoth : ∀ j, j ≠ k → zFv μ' i ci j = zFv μ i ci j) (kk : zX w M R Q kc ks (pc + 3) lv st μ') : zX w M R Q kc ks pc lv (v :: .ref i :: st) μ := by
  intro p e s m args below meth c Qm C hK hret H locs ls hH hS hl
  obtain ⟨hx, hb, hml, hown, hts, hKn, hex, hb0, hlk, hr, hnm⟩ := id C
  rcases z_fld hlay hts hKn hci hk with ⟨cf, kf, fi, f, ff, sl, ns, ok, own⟩
  rcases z_obj hH hci hsh with ⟨cell, at_, ob⟩
  have old : f.slot < cell.slots.size := sl ▸ (Array.getElem?_eq_some_iff.mp (ob.2.2 k hk)).1
  have mine : m.cls = cf := by
    have o := own hfin
    rw [hdecl, hown] at o
    exact Option.some.inj o
  exact W.putFinK hx hb hown (hts _ hw) ff ns mine (hnm.trans hin2) (ob.1 ▸ (ok _ hn hfit).2) at_ ob.2.1 old rfl rfl hd (fun H1 e1 e2 e3 => kk p e s m args below meth c Qm C hK hret H1 _ ls (z_objSet hH hci hsh h1 ho e1 (sl ▸ z_obPut hlay hts hKn hci hk hv hoth ob) e2 e3) (hS.put e2 e3 (Nat.le_add_right _ _)) hl)
theorem zFv_I {i ci k : Nat} (h : zKd (zTy ci k) = 0) : zFv μ i ci k = .int (μ.2.1 i k) := by simp [zFv, h]
theorem zFv_L {i ci k : Nat} (h : zKd (zTy ci k) = 1) : zFv μ i ci k = .long (μ.2.2.1 i k) := by simp [zFv, h]
theorem zFv_R {i ci k : Nat} (h : zKd (zTy ci k) = 2) : zFv μ i ci k = zRf (μ.2.2.2 i k) := by simp [zFv, h]
theorem zSI_oth {i ci k : Nat} {x : Int32} (j : Nat) (hj : j ≠ k) : zFv (zSI μ i k x) i ci j = zFv μ i ci j := by simp [zFv, zu, hj]
theorem zSL_oth {i ci k : Nat} {x : Int64} (j : Nat) (hj : j ≠ k) : zFv (zSL μ i k x) i ci j = zFv μ i ci j := by simp [zFv, zu, hj]
theorem zSR_oth {i ci k : Nat} {x : Option Nat} (j : Nat) (hj : j ≠ k) : zFv (zSR μ i k x) i ci j = zFv μ i ci j := by simp [zFv, zu, hj]
theorem zSI_cell {i k : Nat} {x : Int32} (a : Nat) (ha : a ≠ i) : (zSI μ i k x).2.1 a = μ.2.1 a ∧ (zSI μ i k x).2.2.1 a = μ.2.2.1 a ∧ (zSI μ i k x).2.2.2 a = μ.2.2.2 a := ⟨zu_cell _ _ _ ha, rfl, rfl⟩
theorem zSL_cell {i k : Nat} {x : Int64} (a : Nat) (ha : a ≠ i) : (zSL μ i k x).2.1 a = μ.2.1 a ∧ (zSL μ i k x).2.2.1 a = μ.2.2.1 a ∧ (zSL μ i k x).2.2.2 a = μ.2.2.2 a := ⟨rfl, zu_cell _ _ _ ha, rfl⟩
theorem zSR_cell {i k : Nat} {x : Option Nat} (a : Nat) (ha : a ≠ i) : (zSR μ i k x).2.1 a = μ.2.1 a ∧ (zSR μ i k x).2.2.1 a = μ.2.2.1 a ∧ (zSR μ i k x).2.2.2 a = μ.2.2.2 a := ⟨rfl, rfl, zu_cell _ _ _ ha⟩
theorem z_getI {i ci k idx : Nat} (hlay : zLayOk) (hd : decode M.2.2.1 pc = .ok (.getfield idx, 3)) (hci : ci < 11) (hk : k < zN ci) (hkd : zKd (zTy ci k) = 0) (hw : zFl M.2.1.cls idx ci k ∈ zG) (hsh : μ.1[i]? = some (.inr ci)) (kk : zX w M R Q kc ks (pc + 3) lv (.int (μ.2.1 i k) :: st) μ) : zX w M R Q kc ks pc lv (.ref i :: st) μ := z_getG hlay hd hci hk hw hsh (zFv_I hkd) kk
theorem z_getL {i ci k idx : Nat} (hlay : zLayOk) (hd : decode M.2.2.1 pc = .ok (.getfield idx, 3)) (hci : ci < 11) (hk : k < zN ci) (hkd : zKd (zTy ci k) = 1) (hw : zFl M.2.1.cls idx ci k ∈ zG) (hsh : μ.1[i]? = some (.inr ci)) (kk : zX w M R Q kc ks (pc + 3) lv (.long (μ.2.2.1 i k) :: st) μ) : zX w M R Q kc ks pc lv (.ref i :: st) μ := z_getG hlay hd hci hk hw hsh (zFv_L hkd) kk
theorem z_getR {i ci k idx r : Nat} (hlay : zLayOk) (hd : decode M.2.2.1 pc = .ok (.getfield idx, 3)) (hci : ci < 11) (hk : k < zN ci) (hkd : zKd (zTy ci k) = 2) (hw : zFl M.2.1.cls idx ci k ∈ zG) (hsh : μ.1[i]? = some (.inr ci)) (hr : μ.2.2.2 i k = some r) (kk : zX w M R Q kc ks (pc + 3) lv (.ref r :: st) μ) : zX w M R Q kc ks pc lv (.ref i :: st) μ := z_getG hlay hd hci hk hw hsh (by rw [zFv_R hkd, hr]; rfl) kk
theorem z_putI {i ci k idx : Nat} {x : Int32} (hlay : zLayOk) (hd : decode M.2.2.1 pc = .ok (.putfield idx, 3)) (hci : ci < 11) (hk : k < zN ci) (hkd : zKd (zTy ci k) = 0) (hw : zFl M.2.1.cls idx ci k ∈ zG) (hfin : (zT ci k).2.2.2 = false) (hsh : μ.1[i]? = some (.inr ci)) (hn : narrow (zTy ci k) (.int x) = .int x) (hfit : fits (zTy ci k) (.int x) = true) (kk : zX w M R Q kc ks (pc + 3) lv st (zSI μ i k x)) : zX w M R Q kc ks pc lv (.int x :: .ref i :: st) μ := z_putG (μ' := zSI μ i k x) hlay hd hci hk hw hsh hfin hn hfit rfl zSI_cell (by rw [zFv_I hkd]; simp [zu_same]) zSI_oth kk
theorem z_putL {i ci k idx : Nat} {x : Int64} (hlay : zLayOk) (hd : decode M.2.2.1 pc = .ok (.putfield idx, 3)) (hci : ci < 11) (hk : k < zN ci) (hkd : zTy ci k = .long) (hw : zFl M.2.1.cls idx ci k ∈ zG) (hfin : (zT ci k).2.2.2 = false) (hsh : μ.1[i]? = some (.inr ci)) (kk : zX w M R Q kc ks (pc + 3) lv st (zSL μ i k x)) : zX w M R Q kc ks pc lv (.long x :: .ref i :: st) μ := z_putG (μ' := zSL μ i k x) hlay hd hci hk hw hsh hfin (by rw [hkd]; rfl) (by rw [hkd]; rfl) rfl zSL_cell (by rw [zFv_L (by rw [hkd]; rfl)]; simp [zu_same]) zSL_oth kk
theorem z_putR {i ci k idx r : Nat} {C : String} (hlay : zLayOk) (hd : decode M.2.2.1 pc = .ok (.putfield idx, 3)) (hci : ci < 11) (hk : k < zN ci) (hkd : zTy ci k = .object C) (hw : zFl M.2.1.cls idx ci k ∈ zG) (hfin : (zT ci k).2.2.2 = false) (hsh : μ.1[i]? = some (.inr ci)) (kk : zX w M R Q kc ks (pc + 3) lv st (zSR μ i k (some r))) : zX w M R Q kc ks pc lv (.ref r :: .ref i :: st) μ := z_putG (μ' := zSR μ i k (some r)) hlay hd hci hk hw hsh hfin (by rw [hkd]; rfl) (by rw [hkd]; rfl) rfl zSR_cell (by rw [zFv_R (by rw [hkd]; rfl)]; simp [zu_same, zRf]) zSR_oth kk
theorem z_putFR {i ci k idx r : Nat} {ty : FieldType} (hlay : zLayOk) (hd : decode M.2.2.1 pc = .ok (.putfield idx, 3)) (hci : ci < 11) (hk : k < zN ci) (hkd : zTy ci k = ty) (hty : (∃ C, ty = .object C) ∨ ∃ t, ty = .array t) (hw : zFl M.2.1.cls idx ci k ∈ zG) (hfin : (zT ci k).2.2.2 = true) (hin2 : M.2.1.name = "<init>") (hdecl : (zT ci k).1 = M.2.1.cls) (hsh : μ.1[i]? = some (.inr ci)) (kk : zX w M R Q kc ks (pc + 3) lv st (zSR μ i k (some r))) : zX w M R Q kc ks pc lv (.ref r :: .ref i :: st) μ := by
  refine z_putFG (μ' := zSR μ i k (some r)) hlay hd hci hk hw hsh hfin hin2 hdecl ?_ ?_ rfl zSR_cell ?_ zSR_oth kk
  · rw [hkd]; rcases hty with ⟨C, rfl⟩ | ⟨t, rfl⟩ <;> rfl
  · rw [hkd]; rcases hty with ⟨C, rfl⟩ | ⟨t, rfl⟩ <;> rfl
  · rw [zFv_R (by rw [hkd]; rcases hty with ⟨C, rfl⟩ | ⟨t, rfl⟩ <;> rfl)]; simp [zu_same, zRf]
theorem zE_I {i k n : Nat} (hk : k ≠ 1) : zE w μ i (.inl (k, n)) = .inl (zg w k, n, .inl (μ.2.1 i)) := by simp [zE, hk]
theorem zE_L {i n : Nat} : zE w μ i (.inl (1, n)) = .inl (zg w 1, n, .inr (.inl (μ.2.2.1 i))) := by simp [zE]
theorem zTys_at (k : Nat) (h : k < 4) (g : Nat → ClassId) : (zTys g)[k]? = some (g k, zAty k) := by
  match k, h with
  | 0, _ => rfl
  | 1, _ => rfl
  | 2, _ => rfl
  | 3, _ => rfl
  | k + 4, h => exact absurd h (by omega)
theorem z_iald {i n : Nat} {j : Int32} (hd : decode M.2.2.1 pc = .ok (.iaload, 1)) (hsh : μ.1[i]? = some (.inl (0, n))) (hj : vp_in j n) (kk : zX w M R Q kc ks (pc + 1) lv (.int (μ.2.1 i j.toNatClampNeg) :: st) μ) : zX w M R Q kc ks pc lv (.int j :: .ref i :: st) μ := by
  intro p e s m args below meth c Qm C hK hret H locs ls hH hS hl
  obtain ⟨hx, hb, hml, hown, hts, hKn, hex, hb0, hlk, hr, hnm⟩ := id C
  have he := zW_at (w := w) hsh
  rw [zE_I (by decide)] at he
  exact va_iald hx hb hKn hH.1 i 0 he (zTys_at 0 (by decide) _) hj hd (kk p e s m args below meth c Qm C hK hret H locs ls hH hS hl)
theorem z_bald {i n : Nat} {j : Int32} (hd : decode M.2.2.1 pc = .ok (.baload, 1)) (hsh : μ.1[i]? = some (.inl (2, n))) (hj : vp_in j n) (kk : zX w M R Q kc ks (pc + 1) lv (.int (μ.2.1 i j.toNatClampNeg) :: st) μ) : zX w M R Q kc ks pc lv (.int j :: .ref i :: st) μ := by
  intro p e s m args below meth c Qm C hK hret H locs ls hH hS hl
  obtain ⟨hx, hb, hml, hown, hts, hKn, hex, hb0, hlk, hr, hnm⟩ := id C
  have he := zW_at (w := w) hsh
  rw [zE_I (by decide)] at he
  exact va_bald hx hb hKn hH.1 i 2 he (zTys_at 2 (by decide) _) hj hd (kk p e s m args below meth c Qm C hK hret H locs ls hH hS hl)
theorem z_zald {i n : Nat} {j : Int32} (hd : decode M.2.2.1 pc = .ok (.baload, 1)) (hsh : μ.1[i]? = some (.inl (3, n))) (hj : vp_in j n) (kk : zX w M R Q kc ks (pc + 1) lv (.int (μ.2.1 i j.toNatClampNeg) :: st) μ) : zX w M R Q kc ks pc lv (.int j :: .ref i :: st) μ := by
  intro p e s m args below meth c Qm C hK hret H locs ls hH hS hl
  obtain ⟨hx, hb, hml, hown, hts, hKn, hex, hb0, hlk, hr, hnm⟩ := id C
  have he := zW_at (w := w) hsh
  rw [zE_I (by decide)] at he
  exact va_zald hx hb hKn hH.1 i 3 he (zTys_at 3 (by decide) _) hj hd (kk p e s m args below meth c Qm C hK hret H locs ls hH hS hl)
theorem z_lald {i n : Nat} {j : Int32} (hd : decode M.2.2.1 pc = .ok (.laload, 1)) (hsh : μ.1[i]? = some (.inl (1, n))) (hj : vp_in j n) (kk : zX w M R Q kc ks (pc + 1) lv (.long (μ.2.2.1 i j.toNatClampNeg) :: st) μ) : zX w M R Q kc ks pc lv (.int j :: .ref i :: st) μ := by
  intro p e s m args below meth c Qm C hK hret H locs ls hH hS hl
  obtain ⟨hx, hb, hml, hown, hts, hKn, hex, hb0, hlk, hr, hnm⟩ := id C
  have he := zW_at (w := w) hsh
  rw [zE_L] at he
  exact va_lald hx hb hKn hH.1 i 1 he (zTys_at 1 (by decide) _) hj hd (kk p e s m args below meth c Qm C hK hret H locs ls hH hS hl)
theorem z_alen {i k n : Nat} (hd : decode M.2.2.1 pc = .ok (.arraylength, 1)) (hk : k < 4) (hsh : μ.1[i]? = some (.inl (k, n))) (kk : zX w M R Q kc ks (pc + 1) lv (.int (Int32.ofNat n) :: st) μ) : zX w M R Q kc ks pc lv (.ref i :: st) μ := by
  intro p e s m args below meth c Qm C hK hret H locs ls hH hS hl
  obtain ⟨hx, hb, hml, hown, hts, hKn, hex, hb0, hlk, hr, hnm⟩ := id C
  have he := zW_at (w := w) hsh
  exact va_alen hx hb hKn hH.1 i k he (zTys_at k hk _) rfl hd (kk p e s m args below meth c Qm C hK hret H locs ls hH hS hl)
/-- an array's cell, as memory has it -/
theorem z_arrI {H : Heap} {i k n : Nat} (hH : zHas w μ H) (hk : k ≠ 1) (hsh : μ.1[i]? = some (.inl (k, n))) : H[zb w + i]? = some (arrV (zg w k) n (fun b => .int (μ.2.1 i b))) := by
  have he := zW_at (w := w) hsh
  rw [zE_I hk] at he
  exact hH.1 i _ he
theorem z_arrL {H : Heap} {i n : Nat} (hH : zHas w μ H) (hsh : μ.1[i]? = some (.inl (1, n))) : H[zb w + i]? = some (arrV (zg w 1) n (fun b => .long (μ.2.2.1 i b))) := by
  have he := zW_at (w := w) hsh
  rw [zE_L] at he
  exact hH.1 i _ he
/-- another row of ints, of longs in its place -/
theorem z_arrSetI {H H1 : Heap} {μ' : zMem} {i k n : Nat} (hH : zHas w μ H) (hk : k ≠ 1) (hsh : μ.1[i]? = some (.inl (k, n))) (h1 : μ'.1 = μ.1) (ho : ∀ a, a ≠ i → μ'.2.1 a = μ.2.1 a ∧ μ'.2.2.1 a = μ.2.2.1 a ∧ μ'.2.2.2 a = μ.2.2.2 a) (g : H1[zb w + i]? = some (arrV (zg w k) n (fun b => .int (μ'.2.1 i b)))) (e2 : H1.size = H.size) (e3 : ∀ q, q ≠ zb w + i → H1[q]? = H[q]?) : zHas w μ' H1 :=
  zHas_set hH h1 hsh ho (zE_I hk) (hH.1.set (zW_D w μ) (zW_at (w := w) hsh) g e3) e2
theorem z_arrSetL {H H1 : Heap} {μ' : zMem} {i n : Nat} (hH : zHas w μ H) (hsh : μ.1[i]? = some (.inl (1, n))) (h1 : μ'.1 = μ.1) (ho : ∀ a, a ≠ i → μ'.2.1 a = μ.2.1 a ∧ μ'.2.2.1 a = μ.2.2.1 a ∧ μ'.2.2.2 a = μ.2.2.2 a) (g : H1[zb w + i]? = some (arrV (zg w 1) n (fun b => .long (μ'.2.2.1 i b)))) (e2 : H1.size = H.size) (e3 : ∀ q, q ≠ zb w + i → H1[q]? = H[q]?) : zHas w μ' H1 :=
  zHas_set hH h1 hsh ho zE_L (hH.1.set (zW_D w μ) (zW_at (w := w) hsh) g e3) e2
theorem zu_arr {α : Type} (mk : α → Value) (cA : ClassId) (n : Nat) (f : Nat → Nat → α) (i j : Nat) (x : α) : (arrV cA n (fun b => mk (f i b))).setSlot j (mk x) = arrV cA n (fun b => mk (zu f i j x i b)) := by
  rw [arrV_store, zu_row]
  refine congrArg (arrV cA n) (funext fun b => ?_)
  show (if b = j then mk x else mk (f i b)) = mk (if b = j then x else f i b)
  split <;> rfl
theorem z_in {cA : ClassId} {n : Nat} {f : Nat → Value} {j : Int32} (hj : vp_in j n) : ¬ (j < 0 ∨ (arrV cA n f).slots.size ≤ j.toNatClampNeg) := (arrV_size cA n f).symm ▸ hj
theorem z_iast {i n : Nat} {j x : Int32} (hd : decode M.2.2.1 pc = .ok (.iastore, 1)) (hsh : μ.1[i]? = some (.inl (0, n))) (hj : vp_in j n) (kk : zX w M R Q kc ks (pc + 1) lv st (zSI μ i j.toNatClampNeg (x))) : zX w M R Q kc ks pc lv (.int x :: .int j :: .ref i :: st) μ := by
  intro p e s m args below meth c Qm C hK hret H locs ls hH hS hl
  obtain ⟨hx, hb, hml, hown, hts, hKn, hex, hb0, hlk, hr, hnm⟩ := id C
  exact W.iast hx hb (z_arrI hH (by decide) hsh) ((hKn.2 0 _ (zTys_at 0 (by decide) _)).1 _ _) nofun (z_in hj) rfl rfl hd (fun H1 e1 e2 e3 => kk p e s m args below meth c Qm C hK hret H1 _ ls (z_arrSetI hH (by decide) hsh rfl zSI_cell (e1.trans (congrArg some (zu_arr _ _ _ μ.2.1 i _ x))) e2 e3) (hS.put e2 e3 (Nat.le_add_right _ _)) hl)
theorem z_bast {i n : Nat} {j x : Int32} (hd : decode M.2.2.1 pc = .ok (.bastore, 1)) (hsh : μ.1[i]? = some (.inl (2, n))) (hj : vp_in j n) (kk : zX w M R Q kc ks (pc + 1) lv st (zSI μ i j.toNatClampNeg (vp_nar .byte x))) : zX w M R Q kc ks pc lv (.int x :: .int j :: .ref i :: st) μ := by
  intro p e s m args below meth c Qm C hK hret H locs ls hH hS hl
  obtain ⟨hx, hb, hml, hown, hts, hKn, hex, hb0, hlk, hr, hnm⟩ := id C
  exact W.bast hx hb (z_arrI hH (by decide) hsh) ((hKn.2 2 _ (zTys_at 2 (by decide) _)).1 _ _) nofun (z_in hj) rfl rfl hd (fun H1 e1 e2 e3 => kk p e s m args below meth c Qm C hK hret H1 _ ls (z_arrSetI hH (by decide) hsh rfl zSI_cell (e1.trans (congrArg some (zu_arr _ _ _ μ.2.1 i _ (vp_nar .byte x)))) e2 e3) (hS.put e2 e3 (Nat.le_add_right _ _)) hl)
theorem z_zast {i n : Nat} {j x : Int32} (hd : decode M.2.2.1 pc = .ok (.bastore, 1)) (hsh : μ.1[i]? = some (.inl (3, n))) (hj : vp_in j n) (kk : zX w M R Q kc ks (pc + 1) lv st (zSI μ i j.toNatClampNeg (vp_nar .boolean x))) : zX w M R Q kc ks pc lv (.int x :: .int j :: .ref i :: st) μ := by
  intro p e s m args below meth c Qm C hK hret H locs ls hH hS hl
  obtain ⟨hx, hb, hml, hown, hts, hKn, hex, hb0, hlk, hr, hnm⟩ := id C
  exact W.zast hx hb (z_arrI hH (by decide) hsh) ((hKn.2 3 _ (zTys_at 3 (by decide) _)).1 _ _) nofun (z_in hj) rfl rfl hd (fun H1 e1 e2 e3 => kk p e s m args below meth c Qm C hK hret H1 _ ls (z_arrSetI hH (by decide) hsh rfl zSI_cell (e1.trans (congrArg some (zu_arr _ _ _ μ.2.1 i _ (vp_nar .boolean x)))) e2 e3) (hS.put e2 e3 (Nat.le_add_right _ _)) hl)
theorem z_last {i n : Nat} {j : Int32} {x : Int64} (hd : decode M.2.2.1 pc = .ok (.lastore, 1)) (hsh : μ.1[i]? = some (.inl (1, n))) (hj : vp_in j n) (kk : zX w M R Q kc ks (pc + 1) lv st (zSL μ i j.toNatClampNeg x)) : zX w M R Q kc ks pc lv (.long x :: .int j :: .ref i :: st) μ := by
  intro p e s m args below meth c Qm C hK hret H locs ls hH hS hl
  obtain ⟨hx, hb, hml, hown, hts, hKn, hex, hb0, hlk, hr, hnm⟩ := id C
  exact W.last hx hb (z_arrL hH hsh) ((hKn.2 1 _ (zTys_at 1 (by decide) _)).1 _ _) nofun (z_in hj) rfl rfl hd (fun H1 e1 e2 e3 => kk p e s m args below meth c Qm C hK hret H1 _ ls (z_arrSetL hH hsh rfl zSL_cell (e1.trans (congrArg some (zu_arr _ _ _ μ.2.2.1 i _ x))) e2 e3) (hS.put e2 e3 (Nat.le_add_right _ _)) hl)
end ZH
