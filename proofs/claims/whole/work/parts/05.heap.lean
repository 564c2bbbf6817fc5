/-! ===== THE RULES OF THE HEAP: fields, arrays, new cells ===== -/
/-- writes into memory -/
def zu {α : Type} (f : Nat → Nat → α) (i k : Nat) (v : α) : Nat → Nat → α := fun a b => if a = i ∧ b = k then v else f a b
abbrev zSI (μ : zMem) (i k : Nat) (v : Int32) : zMem := (μ.1, zu μ.2.1 i k v, μ.2.2.1, μ.2.2.2)
abbrev zSL (μ : zMem) (i k : Nat) (v : Int64) : zMem := (μ.1, μ.2.1, zu μ.2.2.1 i k v, μ.2.2.2)
abbrev zSR (μ : zMem) (i k : Nat) (v : Option Nat) : zMem := (μ.1, μ.2.1, μ.2.2.1, zu μ.2.2.2 i k v)
theorem zu_same {α : Type} (f : Nat → Nat → α) (i k : Nat) (v : α) : zu f i k v i k = v := by simp [zu]
theorem zu_cell {α : Type} (f : Nat → Nat → α) {i a : Nat} (k : Nat) (v : α) (h : a ≠ i) : zu f i k v a = f a := by funext b; simp [zu, h]
theorem zu_row {α : Type} (f : Nat → Nat → α) (i k : Nat) (v : α) : zu f i k v i = fun b => if b = k then v else f i b := by funext b; simp [zu]
theorem zFv_other {μ μ' : zMem} {a ci k : Nat} (hI : μ'.2.1 a = μ.2.1 a) (hL : μ'.2.2.1 a = μ.2.2.1 a) (hR : μ'.2.2.2 a = μ.2.2.2 a) : zFv μ' a ci k = zFv μ a ci k := by unfold zFv; rw [hI, hL, hR]
theorem zE_other {w : zP} {μ μ' : zMem} {a : Nat} {s : zSh} (hI : μ'.2.1 a = μ.2.1 a) (hL : μ'.2.2.1 a = μ.2.2.1 a) (hR : μ'.2.2.2 a = μ.2.2.2 a) : zE w μ' a s = zE w μ a s := by
  cases s with
  | inl q => simp only [zE]; rw [hI, hL]
  | inr ci => simp only [zE, zFv_other hI hL hR]
/-- one cell of memory is written -/
theorem zW_set {w : zP} {μ μ' : zMem} {i : Nat} {s : zSh} {x : va_E} (h1 : μ'.1 = μ.1) (hi : μ.1[i]? = some s) (ho : ∀ a, a ≠ i → μ'.2.1 a = μ.2.1 a ∧ μ'.2.2.1 a = μ.2.2.1 a ∧ μ'.2.2.2 a = μ.2.2.2 a) (hx : zE w μ' i s = x) : zW w μ' = (zW w μ).set i (zb w + i, x) := by
  apply List.ext_getElem?
  intro j
  have hlt : i < μ.1.length := (List.getElem?_eq_some_iff.mp hi).1
  by_cases hj : j = i
  · subst hj
    rw [List.getElem?_set_self (by rw [zW_len]; exact hlt), zW_at (by rw [h1]; exact hi), hx]
  · rw [List.getElem?_set_ne (Ne.symm hj)]
    simp only [zW, List.getElem?_mapIdx, h1]
    cases hs : μ.1[j]? with
    | none => rfl
    | some t =>
      obtain ⟨a1, a2, a3⟩ := ho j hj
      simp only [Option.map_some]
      rw [zE_other a1 a2 a3]
section ZH
variable {w : zP} {M : zMd} {R : Room} {Q : Option Value → zMem → Prop} {kc ks pc : Nat} {lv : zLoc} {st : List Value} {μ : zMem}
theorem zHas_set {H H1 : Heap} {μ' : zMem} {i : Nat} {s : zSh} {x : va_E} (hH : zHas w μ H) (h1 : μ'.1 = μ.1) (hi : μ.1[i]? = some s) (ho : ∀ a, a ≠ i → μ'.2.1 a = μ.2.1 a ∧ μ'.2.2.1 a = μ.2.2.1 a ∧ μ'.2.2.2 a = μ.2.2.2 a) (hx : zE w μ' i s = x) (hP : va_P (zD w) vwCl ((zW w μ).set i (zb w + i, x)) H1) (hz : H1.size = H.size) : zHas w μ' H1 :=
  ⟨by rw [zW_set h1 hi ho hx]; exact hP, fun h => by rw [hz, h1]; exact hH.2 h⟩
theorem zFs_at {i ci k : Nat} (hk : k < zN ci) : ((List.range (zN ci)).map (fun j => zCv w (zFv μ i ci j)))[k]? = some (zCv w (zFv μ i ci k)) := by simp [hk]
theorem zFs_set {μ' : zMem} {i ci k : Nat} {v : Value} (hk : k < zN ci) (hv : zFv μ' i ci k = v) (ho : ∀ j, j ≠ k → zFv μ' i ci j = zFv μ i ci j) : (List.range (zN ci)).map (fun j => zCv w (zFv μ' i ci j)) = ((List.range (zN ci)).map (fun j => zCv w (zFv μ i ci j))).set k (zCv w v) := by
  apply List.ext_getElem?
  intro j
  by_cases hj : j = k
  · subst hj
    rw [List.getElem?_set_self (by simpa using hk), zFs_at hk, hv]
  · rw [List.getElem?_set_ne (Ne.symm hj)]
    by_cases hjn : j < zN ci
    · rw [zFs_at hjn, zFs_at hjn, ho j hj]
    · rw [List.getElem?_eq_none (by simpa using hjn), List.getElem?_eq_none (by simpa using hjn)]
/-- the layouts' words are good words of the tables -/
def zLayOk : Prop := ∀ ci, ci < 11 → ∀ q ∈ u_ws (zC ci) (zT ci) (zN ci), q ∈ zG
abbrev zFl (own : String) (idx ci k : Nat) : Cond := .fieldLink own idx (zT ci k).1 (zT ci k).2.1 (zT ci k).2.2.1
theorem z_getG {i ci k idx : Nat} {v : Value} (hlay : zLayOk) (hd : decode M.2.2.1 pc = .ok (.getfield idx, 3)) (hci : ci < 11) (hk : k < zN ci) (hw : zFl M.2.1.cls idx ci k ∈ zG) (hsh : μ.1[i]? = some (.inr ci)) (hv : zFv μ i ci k = v) (kk : zX w M R Q kc ks (pc + 3) lv (v :: st) μ) : zX w M R Q kc ks pc lv (.ref i :: st) μ := by
  intro p e s m args below meth c Qm C hK hret H locs ls hH hS hl
  obtain ⟨hx, hb, hml, hown, hts, hKn, hex, hb0, hlk, hr, hnm⟩ := id C
  subst hv
  exact va_get hx hb hts (hlay ci hci) hown hKn hH.1 i (zW_at hsh) (zCl hci) k hk (hts _ hw) (fun _ h => h) (zFs_at hk) hd (kk p e s m args below meth c Qm C hK hret H locs ls hH hS hl)
theorem z_putG {i ci k idx : Nat} {v : Value} {μ' : zMem} (hlay : zLayOk) (hd : decode M.2.2.1 pc = .ok (.putfield idx, 3)) (hci : ci < 11) (hk : k < zN ci) (hw : zFl M.2.1.cls idx ci k ∈ zG) (hsh : μ.1[i]? = some (.inr ci)) (hfin : (zT ci k).2.2.2 = false) (hn : narrow (zTy ci k) (zCv w v) = zCv w v) (hfit : fits (zTy ci k) (zCv w v) = true)
    (h1 : μ'.1 = μ.1) (ho : ∀ a, a ≠ i → μ'.2.1 a = μ.2.1 a ∧ μ'.2.2.1 a = μ.2.2.1 a ∧ μ'.2.2.2 a = μ.2.2.2 a) (hv : zFv μ' i ci k = v) (hoth : ∀ j, j ≠ k → zFv μ' i ci j = zFv μ i ci j) (kk : zX w M R Q kc ks (pc + 3) lv st μ') : zX w M R Q kc ks pc lv (v :: .ref i :: st) μ := by
  intro p e s m args below meth c Qm C hK hret H locs ls hH hS hl
  obtain ⟨hx, hb, hml, hown, hts, hKn, hex, hb0, hlk, hr, hnm⟩ := id C
  have he := zW_at (w := w) hsh
  have hc := zCl hci
  have hD := zW_D w μ
  have hap := va_apart (own := M.2.1.cls) hts (hlay ci hci) (zTy ci) (zTy_ok hci) (zNm hci) hKn hc
  obtain ⟨r, hr1, cell, q1, q2, q3, q4⟩ := hH.1 i _ he
  have hr : r = (zC ci, zT ci, zN ci) := Option.some.inj (hr1.symm.trans hc)
  subst hr
  obtain ⟨hSl, hfc, kC, hkC, hkind⟩ := hKn.1 ci _ hc
  obtain ⟨cf, kf, fi, f, hi, hsl⟩ := hSl k hk
  have hlay1 := hts _ (hlay ci hci _ (u_in_lay hk))
  unfold u_lay at hlay1
  rw [if_neg (by rw [hfin]; decide)] at hlay1
  have hst := (u_facts hfc hkC (u_lays hts (hlay ci hci) hk) hi).1
  have h6 := u_store hfc hkC hkind hlay1 hi (zTy_ok hci k hk) hn hfit
  refine W.putK hx hb (f := f) ⟨hown, hts _ hw, ⟨_, _, _, hi⟩, hst⟩ (by rw [q2]; exact h6) q1 q3 (by rw [hsl]; exact k2_hasslot (q4 k hk)) rfl rfl hd fun H' e1 e2 e3 => ?_
  rw [hsl] at e1
  have hP1 := hH.1.set hD he (e := .inr (ci, ((List.range (zN ci)).map (fun j => zCv w (zFv μ i ci j))).set k (zCv w v))) ⟨_, hc, t_OB.to (V := updV (vp_V ((List.range (zN ci)).map (fun j => zCv w (zFv μ i ci j)))) k (zCv w v)) ⟨_, e1, q2, q3, t_set q4 hap hk (zCv w v)⟩ (fun j _ => vp_updV_set (by simpa using hk) (zCv w v) j)⟩ e3
  exact kk p e s m args below meth c Qm C hK hret H' _ ls (zHas_set (s := .inr ci) hH h1 hsh ho (by simp only [zE]; rw [zFs_set hk hv hoth]) hP1 e2) (hS.put e2 e3 (hD.2 i _ he)) hl
theorem z_putFG {i ci k idx : Nat} {v : Value} {μ' : zMem} (hlay : zLayOk) (hd : decode M.2.2.1 pc = .ok (.putfield idx, 3)) (hci : ci < 11) (hk : k < zN ci) (hw : zFl M.2.1.cls idx ci k ∈ zG) (hsh : μ.1[i]? = some (.inr ci)) (hfin : (zT ci k).2.2.2 = true) (hin2 : M.2.1.name = "<init>") (hdecl : (zT ci k).1 = M.2.1.cls) (hn : narrow (zTy ci k) (zCv w v) = zCv w v) (hfit : fits (zTy ci k) (zCv w v) = true)
    (h1 : μ'.1 = μ.1) (ho : ∀ a, a ≠ i → μ'.2.1 a = μ.2.1 a ∧ μ'.2.2.1 a = μ.2.2.1 a ∧ μ'.2.2.2 a = μ.2.2.2 a) (hv : zFv μ' i ci k = v) (hoth : ∀ j, j ≠ k → zFv μ' i ci j = zFv μ i ci j) (kk : zX w M R Q kc ks (pc + 3) lv st μ') : zX w M R Q kc ks pc lv (v :: .ref i :: st) μ := by
  intro p e s m args below meth c Qm C hK hret H locs ls hH hS hl
  obtain ⟨hx, hb, hml, hown, hts, hKn, hex, hb0, hlk, hr, hnm⟩ := id C
  have he := zW_at (w := w) hsh
  have hc := zCl hci
  have hD := zW_D w μ
  have hap := va_apart (own := M.2.1.cls) hts (hlay ci hci) (zTy ci) (zTy_ok hci) (zNm hci) hKn hc
  obtain ⟨r, hr1, cell, q1, q2, q3, q4⟩ := hH.1 i _ he
  have hr : r = (zC ci, zT ci, zN ci) := Option.some.inj (hr1.symm.trans hc)
  subst hr
  obtain ⟨hSl, hfc, kC, hkC, hkind⟩ := hKn.1 ci _ hc
  obtain ⟨cf, kf, fi, f, hi, hsl⟩ := hSl k hk
  have hlay1 := hts _ (hlay ci hci _ (u_in_lay hk))
  unfold u_lay at hlay1
  rw [if_pos hfin] at hlay1
  have hst := (u_facts hfc hkC (u_lays hts (hlay ci hci) hk) hi).1
  have hcf : m.cls = cf := by
    obtain ⟨_, _, c', _, _, _, -, -, hf', -, -, -, hown2, -⟩ := Cond.laysFinal_spec hlay1
    have e1 : c' = cf := by have := hi.symm.trans hf'; simp at this; exact this.1.symm
    rw [hdecl] at hown2
    rw [← e1]; exact Option.some.inj (hown.symm.trans hown2)
  have h6 := u_fits hfc hkC hkind (Or.inr hlay1) hi (zTy_ok hci k hk) hn hfit
  refine W.putFinK hx hb hown (hts _ hw) hi hst hcf (hnm.trans hin2) (by rw [q2]; exact h6) q1 q3 (by rw [hsl]; exact k2_hasslot (q4 k hk)) rfl rfl hd fun H' e1 e2 e3 => ?_
  rw [hsl] at e1
  have hP1 := hH.1.set hD he (e := .inr (ci, ((List.range (zN ci)).map (fun j => zCv w (zFv μ i ci j))).set k (zCv w v))) ⟨_, hc, t_OB.to (V := updV (vp_V ((List.range (zN ci)).map (fun j => zCv w (zFv μ i ci j)))) k (zCv w v)) ⟨_, e1, q2, q3, t_set q4 hap hk (zCv w v)⟩ (fun j _ => vp_updV_set (by simpa using hk) (zCv w v) j)⟩ e3
  exact kk p e s m args below meth c Qm C hK hret H' _ ls (zHas_set (s := .inr ci) hH h1 hsh ho (by simp only [zE]; rw [zFs_set hk hv hoth]) hP1 e2) (hS.put e2 e3 (hD.2 i _ he)) hl
theorem zFv_I {i ci k : Nat} (h : zKd (zTy ci k) = 0) : zFv μ i ci k = .int (μ.2.1 i k) := by simp [zFv, h]
theorem zFv_L {i ci k : Nat} (h : zKd (zTy ci k) = 1) : zFv μ i ci k = .long (μ.2.2.1 i k) := by simp [zFv, h]
theorem zFv_R {i ci k : Nat} (h : zKd (zTy ci k) = 2) : zFv μ i ci k = zRf (μ.2.2.2 i k) := by simp [zFv, h]
theorem zSI_oth {i ci k : Nat} {x : Int32} (j : Nat) (hj : j ≠ k) : zFv (zSI μ i k x) i ci j = zFv μ i ci j := by simp [zFv, zu, hj]
theorem zSL_oth {i ci k : Nat} {x : Int64} (j : Nat) (hj : j ≠ k) : zFv (zSL μ i k x) i ci j = zFv μ i ci j := by simp [zFv, zu, hj]
theorem zSR_oth {i ci k : Nat} {x : Option Nat} (j : Nat) (hj : j ≠ k) : zFv (zSR μ i k x) i ci j = zFv μ i ci j := by simp [zFv, zu, hj]
theorem zSI_cell {i k : Nat} {x : Int32} (a : Nat) (ha : a ≠ i) : (zSI μ i k x).2.1 a = μ.2.1 a ∧ (zSI μ i k x).2.2.1 a = μ.2.2.1 a ∧ (zSI μ i k x).2.2.2 a = μ.2.2.2 a := ⟨zu_cell _ _ _ ha, rfl, rfl⟩
theorem zSL_cell {i k : Nat} {x : Int64} (a : Nat) (ha : a ≠ i) : (zSL μ i k x).2.1 a = μ.2.1 a ∧ (zSL μ i k x).2.2.1 a = μ.2.2.1 a ∧ (zSL μ i k x).2.2.2 a = μ.2.2.2 a := ⟨rfl, zu_cell _ _ _ ha, rfl⟩
theorem zSR_cell {i k : Nat} {x : Option Nat} (a : Nat) (ha : a ≠ i) : (zSR μ i k x).2.1 a = μ.2.1 a ∧ (zSR μ i k x).2.2.1 a = μ.2.2.1 a ∧ (zSR μ i k x).2.2.2 a = μ.2.2.2 a := ⟨rfl, rfl, zu_cell _ _ _ ha⟩
theorem z_getI {i ci k idx : Nat} (hlay : zLayOk) (hd : decode M.2.2.1 pc = .ok (.getfield idx, 3)) (hci : ci < 11) (hk : k < zN ci) (hkd : zKd (zTy ci k) = 0) (hw : zFl M.2.1.cls idx ci k ∈ zG) (hsh : μ.1[i]? = some (.inr ci)) (kk : zX w M R Q kc ks (pc + 3) lv (.int (μ.2.1 i k) :: st) μ) : zX w M R Q kc ks pc lv (.ref i :: st) μ := z_getG hlay hd hci hk hw hsh (zFv_I hkd) kk
theorem z_getL {i ci k idx : Nat} (hlay : zLayOk) (hd : decode M.2.2.1 pc = .ok (.getfield idx, 3)) (hci : ci < 11) (hk : k < zN ci) (hkd : zKd (zTy ci k) = 1) (hw : zFl M.2.1.cls idx ci k ∈ zG) (hsh : μ.1[i]? = some (.inr ci)) (kk : zX w M R Q kc ks (pc + 3) lv (.long (μ.2.2.1 i k) :: st) μ) : zX w M R Q kc ks pc lv (.ref i :: st) μ := z_getG hlay hd hci hk hw hsh (zFv_L hkd) kk
theorem z_getR {i ci k idx r : Nat} (hlay : zLayOk) (hd : decode M.2.2.1 pc = .ok (.getfield idx, 3)) (hci : ci < 11) (hk : k < zN ci) (hkd : zKd (zTy ci k) = 2) (hw : zFl M.2.1.cls idx ci k ∈ zG) (hsh : μ.1[i]? = some (.inr ci)) (hr : μ.2.2.2 i k = some r) (kk : zX w M R Q kc ks (pc + 3) lv (.ref r :: st) μ) : zX w M R Q kc ks pc lv (.ref i :: st) μ := z_getG hlay hd hci hk hw hsh (by rw [zFv_R hkd, hr]; rfl) kk
theorem z_putI {i ci k idx : Nat} {x : Int32} (hlay : zLayOk) (hd : decode M.2.2.1 pc = .ok (.putfield idx, 3)) (hci : ci < 11) (hk : k < zN ci) (hkd : zKd (zTy ci k) = 0) (hw : zFl M.2.1.cls idx ci k ∈ zG) (hfin : (zT ci k).2.2.2 = false) (hsh : μ.1[i]? = some (.inr ci)) (hn : narrow (zTy ci k) (.int x) = .int x) (hfit : fits (zTy ci k) (.int x) = true) (kk : zX w M R Q kc ks (pc + 3) lv st (zSI μ i k x)) : zX w M R Q kc ks pc lv (.int x :: .ref i :: st) μ := z_putG (μ' := zSI μ i k x) hlay hd hci hk hw hsh hfin hn hfit rfl zSI_cell (by rw [zFv_I hkd]; simp [zu_same]) zSI_oth kk
theorem z_putL {i ci k idx : Nat} {x : Int64} (hlay : zLayOk) (hd : decode M.2.2.1 pc = .ok (.putfield idx, 3)) (hci : ci < 11) (hk : k < zN ci) (hkd : zTy ci k = .long) (hw : zFl M.2.1.cls idx ci k ∈ zG) (hfin : (zT ci k).2.2.2 = false) (hsh : μ.1[i]? = some (.inr ci)) (kk : zX w M R Q kc ks (pc + 3) lv st (zSL μ i k x)) : zX w M R Q kc ks pc lv (.long x :: .ref i :: st) μ := z_putG (μ' := zSL μ i k x) hlay hd hci hk hw hsh hfin (by rw [hkd]; rfl) (by rw [hkd]; rfl) rfl zSL_cell (by rw [zFv_L (by rw [hkd]; rfl)]; simp [zu_same]) zSL_oth kk
theorem z_putR {i ci k idx r : Nat} {C : String} (hlay : zLayOk) (hd : decode M.2.2.1 pc = .ok (.putfield idx, 3)) (hci : ci < 11) (hk : k < zN ci) (hkd : zTy ci k = .object C) (hw : zFl M.2.1.cls idx ci k ∈ zG) (hfin : (zT ci k).2.2.2 = false) (hsh : μ.1[i]? = some (.inr ci)) (kk : zX w M R Q kc ks (pc + 3) lv st (zSR μ i k (some r))) : zX w M R Q kc ks pc lv (.ref r :: .ref i :: st) μ := z_putG (μ' := zSR μ i k (some r)) hlay hd hci hk hw hsh hfin (by rw [hkd]; rfl) (by rw [hkd]; rfl) rfl zSR_cell (by rw [zFv_R (by rw [hkd]; rfl)]; simp [zu_same, zRf]) zSR_oth kk
theorem z_putFR {i ci k idx r : Nat} {ty : FieldType} (hlay : zLayOk) (hd : decode M.2.2.1 pc = .ok (.putfield idx, 3)) (hci : ci < 11) (hk : k < zN ci) (hkd : zTy ci k = ty) (hty : (∃ C, ty = .object C) ∨ ∃ t, ty = .array t) (hw : zFl M.2.1.cls idx ci k ∈ zG) (hfin : (zT ci k).2.2.2 = true) (hin2 : M.2.1.name = "<init>") (hdecl : (zT ci k).1 = M.2.1.cls) (hsh : μ.1[i]? = some (.inr ci)) (kk : zX w M R Q kc ks (pc + 3) lv st (zSR μ i k (some r))) : zX w M R Q kc ks pc lv (.ref r :: .ref i :: st) μ := by
  refine z_putFG (μ' := zSR μ i k (some r)) hlay hd hci hk hw hsh hfin hin2 hdecl ?_ ?_ rfl zSR_cell ?_ zSR_oth kk
  · rw [hkd]; rcases hty with ⟨C, rfl⟩ | ⟨t, rfl⟩ <;> rfl
  · rw [hkd]; rcases hty with ⟨C, rfl⟩ | ⟨t, rfl⟩ <;> rfl
  · rw [zFv_R (by rw [hkd]; rcases hty with ⟨C, rfl⟩ | ⟨t, rfl⟩ <;> rfl)]; simp [zu_same, zRf]
theorem zE_I {i k n : Nat} (hk : k ≠ 1) : zE w μ i (.inl (k, n)) = .inl (zg w k, n, .inl (μ.2.1 i)) := by simp [zE, hk]
theorem zE_L {i n : Nat} : zE w μ i (.inl (1, n)) = .inl (zg w 1, n, .inr (.inl (μ.2.2.1 i))) := by simp [zE]
theorem zTys_at (k : Nat) (h : k < 4) (g : Nat → ClassId) : (zTys g)[k]? = some (g k, zAty k) := by
  match k, h with
  | 0, _ => rfl
  | 1, _ => rfl
  | 2, _ => rfl
  | 3, _ => rfl
  | k + 4, h => exact absurd h (by omega)
theorem z_iald {i n : Nat} {j : Int32} (hd : decode M.2.2.1 pc = .ok (.iaload, 1)) (hsh : μ.1[i]? = some (.inl (0, n))) (hj : vp_in j n) (kk : zX w M R Q kc ks (pc + 1) lv (.int (μ.2.1 i j.toNatClampNeg) :: st) μ) : zX w M R Q kc ks pc lv (.int j :: .ref i :: st) μ := by
  intro p e s m args below meth c Qm C hK hret H locs ls hH hS hl
  obtain ⟨hx, hb, hml, hown, hts, hKn, hex, hb0, hlk, hr, hnm⟩ := id C
  have he := zW_at (w := w) hsh
  rw [zE_I (by decide)] at he
  exact va_iald hx hb hKn hH.1 i 0 he (zTys_at 0 (by decide) _) hj hd (kk p e s m args below meth c Qm C hK hret H locs ls hH hS hl)
theorem z_bald {i n : Nat} {j : Int32} (hd : decode M.2.2.1 pc = .ok (.baload, 1)) (hsh : μ.1[i]? = some (.inl (2, n))) (hj : vp_in j n) (kk : zX w M R Q kc ks (pc + 1) lv (.int (μ.2.1 i j.toNatClampNeg) :: st) μ) : zX w M R Q kc ks pc lv (.int j :: .ref i :: st) μ := by
  intro p e s m args below meth c Qm C hK hret H locs ls hH hS hl
  obtain ⟨hx, hb, hml, hown, hts, hKn, hex, hb0, hlk, hr, hnm⟩ := id C
  have he := zW_at (w := w) hsh
  rw [zE_I (by decide)] at he
  exact va_bald hx hb hKn hH.1 i 2 he (zTys_at 2 (by decide) _) hj hd (kk p e s m args below meth c Qm C hK hret H locs ls hH hS hl)
theorem z_zald {i n : Nat} {j : Int32} (hd : decode M.2.2.1 pc = .ok (.baload, 1)) (hsh : μ.1[i]? = some (.inl (3, n))) (hj : vp_in j n) (kk : zX w M R Q kc ks (pc + 1) lv (.int (μ.2.1 i j.toNatClampNeg) :: st) μ) : zX w M R Q kc ks pc lv (.int j :: .ref i :: st) μ := by
  intro p e s m args below meth c Qm C hK hret H locs ls hH hS hl
  obtain ⟨hx, hb, hml, hown, hts, hKn, hex, hb0, hlk, hr, hnm⟩ := id C
  have he := zW_at (w := w) hsh
  rw [zE_I (by decide)] at he
  exact va_zald hx hb hKn hH.1 i 3 he (zTys_at 3 (by decide) _) hj hd (kk p e s m args below meth c Qm C hK hret H locs ls hH hS hl)
theorem z_lald {i n : Nat} {j : Int32} (hd : decode M.2.2.1 pc = .ok (.laload, 1)) (hsh : μ.1[i]? = some (.inl (1, n))) (hj : vp_in j n) (kk : zX w M R Q kc ks (pc + 1) lv (.long (μ.2.2.1 i j.toNatClampNeg) :: st) μ) : zX w M R Q kc ks pc lv (.int j :: .ref i :: st) μ := by
  intro p e s m args below meth c Qm C hK hret H locs ls hH hS hl
  obtain ⟨hx, hb, hml, hown, hts, hKn, hex, hb0, hlk, hr, hnm⟩ := id C
  have he := zW_at (w := w) hsh
  rw [zE_L] at he
  exact va_lald hx hb hKn hH.1 i 1 he (zTys_at 1 (by decide) _) hj hd (kk p e s m args below meth c Qm C hK hret H locs ls hH hS hl)
theorem z_alen {i k n : Nat} (hd : decode M.2.2.1 pc = .ok (.arraylength, 1)) (hk : k < 4) (hsh : μ.1[i]? = some (.inl (k, n))) (kk : zX w M R Q kc ks (pc + 1) lv (.int (Int32.ofNat n) :: st) μ) : zX w M R Q kc ks pc lv (.ref i :: st) μ := by
  intro p e s m args below meth c Qm C hK hret H locs ls hH hS hl
  obtain ⟨hx, hb, hml, hown, hts, hKn, hex, hb0, hlk, hr, hnm⟩ := id C
  have he := zW_at (w := w) hsh
  exact va_alen hx hb hKn hH.1 i k he (zTys_at k hk _) rfl hd (kk p e s m args below meth c Qm C hK hret H locs ls hH hS hl)
theorem z_iast {i n : Nat} {j x : Int32} (hd : decode M.2.2.1 pc = .ok (.iastore, 1)) (hsh : μ.1[i]? = some (.inl (0, n))) (hj : vp_in j n) (kk : zX w M R Q kc ks (pc + 1) lv st (zSI μ i j.toNatClampNeg (x))) : zX w M R Q kc ks pc lv (.int x :: .int j :: .ref i :: st) μ := by
  intro p e s m args below meth c Qm C hK hret H locs ls hH hS hl
  obtain ⟨hx, hb, hml, hown, hts, hKn, hex, hb0, hlk, hr, hnm⟩ := id C
  have he := zW_at (w := w) hsh
  rw [zE_I (by decide)] at he
  refine W.iast hx hb (hH.1 i _ he) ((hKn.2 0 _ (zTys_at 0 (by decide) _)).1 n (fun j => .int (μ.2.1 i j))) (fun q => by cases q) (by show ¬ (j < 0 ∨ (arrV _ _ _).slots.size ≤ _); rw [arrV_size]; exact hj) rfl rfl hd fun H1 e1 z oq => ?_
  refine kk p e s m args below meth c Qm C hK hret H1 _ ls (zHas_set (s := .inl (0, n)) (x := .inl (zg w 0, n, .inl (fun b => if b = j.toNatClampNeg then x else μ.2.1 i b))) hH rfl hsh zSI_cell (by rw [zE_I (by decide)]; simp only [zu_row]) (hH.1.set (zW_D w μ) he ?_ oq) z) (hS.put z oq ((zW_D w μ).2 i _ he)) hl
  show H1[zb w + i]? = some (vp_cell _ _)
  rw [e1, vp_cell_i, vp_cell_i, arrV_store]
  congr 2
  funext q
  by_cases hq : q = j.toNatClampNeg
  · subst hq
    simp [updV, vp_nar] <;> rfl
  · simp [updV, hq]
theorem z_bast {i n : Nat} {j x : Int32} (hd : decode M.2.2.1 pc = .ok (.bastore, 1)) (hsh : μ.1[i]? = some (.inl (2, n))) (hj : vp_in j n) (kk : zX w M R Q kc ks (pc + 1) lv st (zSI μ i j.toNatClampNeg (vp_nar .byte x))) : zX w M R Q kc ks pc lv (.int x :: .int j :: .ref i :: st) μ := by
  intro p e s m args below meth c Qm C hK hret H locs ls hH hS hl
  obtain ⟨hx, hb, hml, hown, hts, hKn, hex, hb0, hlk, hr, hnm⟩ := id C
  have he := zW_at (w := w) hsh
  rw [zE_I (by decide)] at he
  refine W.bast hx hb (hH.1 i _ he) ((hKn.2 2 _ (zTys_at 2 (by decide) _)).1 n (fun j => .int (μ.2.1 i j))) (fun q => by cases q) (by show ¬ (j < 0 ∨ (arrV _ _ _).slots.size ≤ _); rw [arrV_size]; exact hj) rfl rfl hd fun H1 e1 z oq => ?_
  refine kk p e s m args below meth c Qm C hK hret H1 _ ls (zHas_set (s := .inl (2, n)) (x := .inl (zg w 2, n, .inl (fun b => if b = j.toNatClampNeg then vp_nar .byte x else μ.2.1 i b))) hH rfl hsh zSI_cell (by rw [zE_I (by decide)]; simp only [zu_row]) (hH.1.set (zW_D w μ) he ?_ oq) z) (hS.put z oq ((zW_D w μ).2 i _ he)) hl
  show H1[zb w + i]? = some (vp_cell _ _)
  rw [e1, vp_cell_i, vp_cell_i, arrV_store]
  congr 2
  funext q
  by_cases hq : q = j.toNatClampNeg
  · subst hq
    simp [updV, vp_nar] <;> rfl
  · simp [updV, hq]
theorem z_zast {i n : Nat} {j x : Int32} (hd : decode M.2.2.1 pc = .ok (.bastore, 1)) (hsh : μ.1[i]? = some (.inl (3, n))) (hj : vp_in j n) (kk : zX w M R Q kc ks (pc + 1) lv st (zSI μ i j.toNatClampNeg (vp_nar .boolean x))) : zX w M R Q kc ks pc lv (.int x :: .int j :: .ref i :: st) μ := by
  intro p e s m args below meth c Qm C hK hret H locs ls hH hS hl
  obtain ⟨hx, hb, hml, hown, hts, hKn, hex, hb0, hlk, hr, hnm⟩ := id C
  have he := zW_at (w := w) hsh
  rw [zE_I (by decide)] at he
  refine W.zast hx hb (hH.1 i _ he) ((hKn.2 3 _ (zTys_at 3 (by decide) _)).1 n (fun j => .int (μ.2.1 i j))) (fun q => by cases q) (by show ¬ (j < 0 ∨ (arrV _ _ _).slots.size ≤ _); rw [arrV_size]; exact hj) rfl rfl hd fun H1 e1 z oq => ?_
  refine kk p e s m args below meth c Qm C hK hret H1 _ ls (zHas_set (s := .inl (3, n)) (x := .inl (zg w 3, n, .inl (fun b => if b = j.toNatClampNeg then vp_nar .boolean x else μ.2.1 i b))) hH rfl hsh zSI_cell (by rw [zE_I (by decide)]; simp only [zu_row]) (hH.1.set (zW_D w μ) he ?_ oq) z) (hS.put z oq ((zW_D w μ).2 i _ he)) hl
  show H1[zb w + i]? = some (vp_cell _ _)
  rw [e1, vp_cell_i, vp_cell_i, arrV_store]
  congr 2
  funext q
  by_cases hq : q = j.toNatClampNeg
  · subst hq
    simp [updV, vp_nar] <;> rfl
  · simp [updV, hq]
theorem z_last {i n : Nat} {j : Int32} {x : Int64} (hd : decode M.2.2.1 pc = .ok (.lastore, 1)) (hsh : μ.1[i]? = some (.inl (1, n))) (hj : vp_in j n) (kk : zX w M R Q kc ks (pc + 1) lv st (zSL μ i j.toNatClampNeg x)) : zX w M R Q kc ks pc lv (.long x :: .int j :: .ref i :: st) μ := by
  intro p e s m args below meth c Qm C hK hret H locs ls hH hS hl
  obtain ⟨hx, hb, hml, hown, hts, hKn, hex, hb0, hlk, hr, hnm⟩ := id C
  have he := zW_at (w := w) hsh
  rw [zE_L] at he
  refine W.last hx hb (hH.1 i _ he) ((hKn.2 1 _ (zTys_at 1 (by decide) _)).1 n (fun j => .long (μ.2.2.1 i j))) (fun q => by cases q) (by show ¬ (j < 0 ∨ (arrV _ _ _).slots.size ≤ _); rw [arrV_size]; exact hj) rfl rfl hd fun H1 e1 z oq => ?_
  refine kk p e s m args below meth c Qm C hK hret H1 _ ls (zHas_set (s := .inl (1, n)) (x := .inl (zg w 1, n, .inr (.inl (fun b => if b = j.toNatClampNeg then x else μ.2.2.1 i b)))) hH rfl hsh zSL_cell (by rw [zE_L]; simp only [zu_row]) (hH.1.set (zW_D w μ) he ?_ oq) z) (hS.put z oq ((zW_D w μ).2 i _ he)) hl
  show H1[zb w + i]? = some (vp_cell _ _)
  rw [e1, vp_cell_l, vp_cell_l, arrV_store]
  congr 2
  funext q
  by_cases hq : q = j.toNatClampNeg
  · subst hq
    simp [updV]
  · simp [updV, hq]
end ZH
