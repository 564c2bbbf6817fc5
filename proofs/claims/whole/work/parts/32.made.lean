/-! ===== THE LAW's FIRST STEPS: both systems are made ===== -/
section ZLW
theorem zW_congR {w : zP} {sh : List zSh} {I : Nat → Nat → Int32} {L : Nat → Nat → Int64} {R1 R2 : Nat → Nat → Option Nat} (h : ∀ i ci, sh[i]? = some (.inr ci) → ∀ k, k < zN ci → R1 i k = R2 i k) : zW w (sh, I, L, R1) = zW w (sh, I, L, R2) := by
  apply List.ext_getElem?
  intro j
  simp only [zW, List.getElem?_mapIdx]
  cases hs : sh[j]? with
  | none => rfl
  | some x =>
    simp only [Option.map_some]
    congr 2
    cases x with
    | inl q => rfl
    | inr ci =>
      simp only [zE]
      congr 2
      apply List.map_congr_left
      intro k hk
      have hk := List.mem_range.mp hk
      simp only [zFv, h j ci hs k hk]
theorem zSH_small : ∀ i : Nat, i < 87 → ∀ ci, SH[i]? = some (.inr ci) → zN ci ≤ 20 := by
  have h : ∀ i : Nat, i < 87 → (match SH[i]? with | some (.inr ci) => decide (zN ci ≤ 20) | _ => true) = true := by decide +kernel
  intro i hi ci hc
  have := h i hi
  rw [hc] at this
  simpa using this
theorem zSH_obj : ∀ i : Nat, 88 ≤ i → i < 140 → ∀ ci, SH[i]? ≠ some (.inr ci) := by
  have h : ∀ i : Nat, i < 140 → 88 ≤ i → (match SH[i]? with | some (.inr _) => false | _ => true) = true := by decide +kernel
  intro i h1 h2 ci hc
  have := h i h2 h1
  rw [hc] at this
  exact absurd this (by simp)
variable {p : Program} {e : Env} {s : State} {m : MethodId} {args : Array Value} {below : List Frame} {meth : Method} {c : Code} {R : Room} {H : Heap} {locs : List Loc} {kc ks pc : Nat} {Qm : State → Prop} {ls : Array Slot} {rest : List Value} {w : zP} {μ : zMem}
theorem w_new {cc : ByteArray} {own : String} {ci idx : Nat} (hx : p.tables.exec = Jvm.exec) (hb : c.code = cc) (hown : s.vm.findClass own = some m.cls) (hts : ∀ q ∈ zG, q.before args s = true) (hKn : va_K (zD w) vwCl (zTys (zg w)) s) (hfl : zfl w = true) (hd : decode cc pc = .ok (.new idx, 3)) (hci : ci < 11) (hw1 : Cond.classLink own idx (zC ci) ∈ zG) (hw2 : Cond.instantiable (zC ci) (zN ci) ∈ zG) (hw3 : Cond.initialized (zC ci) ∈ zG) (hc1 : kc + 1 ≤ R.cells) (hc2 : ks + zN ci ≤ R.slots) (hH : zHas w μ H) (hS : va_S (zA w) s.heap H locs)
    (kk : ∀ H1, zHas w (zNew μ (.inr ci)) H1 → va_S (zA w) s.heap H1 locs → W p (zl w) e R s m args below meth c H1 locs (kc + 1) (ks + zN ci) Qm (F0 m (pc + 3) ls (.ref (zb w + μ.1.length) :: rest))) : W p (zl w) e R s m args below meth c H locs kc ks Qm (F0 m pc ls rest) := by
  have hKc := hKn.1 ci _ (zCl hci)
  have hz := hH.2 hfl
  refine W.newcK hx hb hown (hts _ hw1) (hts _ hw2) (hts _ hw3) rfl hd hc1 hc2 hKc.2.1 hz fun H1 kC hkC e1 z1 o1 => ?_
  have hP1 : va_P (zD w) vwCl (zW w μ) H1 := hH.1.kept (fun k x hx => o1 x.1 (by rw [← hz]; exact (hH.1 k x hx).lt))
  refine kk H1 ⟨?_, fun _ => by rw [z1]; simp [zNew]; omega⟩ ⟨Nat.le_trans hS.1 (by omega), fun x h1 h2 => (o1 x (by rw [← hz]; exact Nat.lt_of_lt_of_le h1 hS.1)).trans (hS.2.1 x h1 h2), hS.2.2⟩
  rw [zW_new]
  refine hP1.app (fun k x hx => ?_)
  have hz0 : k < 1 := (List.getElem?_eq_some_iff.mp hx).1
  rw [show k = 0 by omega] at hx
  cases hx
  refine ⟨_, zCl hci, (u_born (zTy ci) hts (zLay_ok ci hci) hKc hkC e1 (zTy_ok hci)).to (fun j hj => ?_)⟩
  rw [zDf_ok hci j hj]
  simp only [vp_V, List.getD_eq_getElem?_getD]
  rw [zFs_at hj, zNew_fv]
  rfl
theorem w_newL {cc : ByteArray} (hx : p.tables.exec = Jvm.exec) (hb : c.code = cc) (hts : ∀ q ∈ zG, q.before args s = true) (hKn : va_K (zD w) vwCl (zTys (zg w)) s) (hfl : zfl w = true) (hd : decode cc pc = .ok (.newarray .long, 2)) (hw : Cond.arrayClass .long ∈ zG) (hc1 : kc + 1 ≤ R.cells) (hc2 : ks + 1 ≤ R.slots) (hH : zHas w μ H) (hS : va_S (zA w) s.heap H locs)
    (kk : ∀ H1, zHas w (zNew μ (.inl (1, 1))) H1 → va_S (zA w) s.heap H1 locs → W p (zl w) e R s m args below meth c H1 locs (kc + 1) (ks + 1) Qm (F0 m (pc + 2) ls (.ref (zb w + μ.1.length) :: rest))) : W p (zl w) e R s m args below meth c H locs kc ks Qm (F0 m pc ls (.int 1 :: rest)) := by
  have hz := hH.2 hfl
  have hRA := (hKn.2 1 _ (zTys_at 1 (by decide) _)).2
  refine va_newaK (atype := .long) (N := 1) hx hb (hts _ hw) rfl hd rfl (by decide) rfl (by decide) hc1 hc2 hz fun H1 cA e1 z1 o1 hAr hNm => ?_
  have hcA : cA = zg w 1 := Option.some.inj (hNm.symm.trans hRA)
  subst hcA
  have hP1 : va_P (zD w) vwCl (zW w μ) H1 := hH.1.kept (fun k x hx => o1 x.1 (by rw [← hz]; exact (hH.1 k x hx).lt))
  refine kk H1 ⟨?_, fun _ => by rw [z1]; simp [zNew]; omega⟩ ⟨Nat.le_trans hS.1 (by omega), fun x h1 h2 => (o1 x (by rw [← hz]; exact Nat.lt_of_lt_of_le h1 hS.1)).trans (hS.2.1 x h1 h2), hS.2.2⟩
  rw [zW_new]
  refine hP1.app (fun k x hx => ?_)
  have hz0 : k < 1 := (List.getElem?_eq_some_iff.mp hx).1
  rw [show k = 0 by omega] at hx
  cases hx
  show H1[zb w + μ.1.length]? = some (vp_cell _ _)
  rw [e1]
  simp [zE, vp_cell, defaultValue, zNew, newarray.typeOf]
/-- memory behind both constructors -/
def zMem0 (J : Nat → Nat → Int32) : zMem := (SH, zBegM (zKeepR (zPlainM J)), zu zL1 120 0 (zKeepR (zPlainM J) 102 10).toInt64, RF 55 71 none)
theorem zI1_hi : ∀ a, 87 ≤ a → ∀ b, zI1 a b = 0 := by
  intro a ha b
  simp only [zI1, zBegin, zFront0, zIp, zPlan0, zIa, zu_at, zRow_at]
  simp only [show a ≠ 0 by omega, show a ≠ 3 by omega, show a ≠ 4 by omega, show a ≠ 8 by omega, show a ≠ 10 by omega, show a ≠ 43 by omega, show a ≠ 48 by omega, show a ≠ 10 + 1 by omega, show a ≠ 10 + 2 by omega, show a ≠ 10 + 3 by omega, show a ≠ 10 + 4 by omega, show a ≠ 10 + 5 by omega, show a ≠ 10 + 6 by omega, show a ≠ 10 + 7 by omega, show a ≠ 10 + 8 by omega, show a ≠ 55 by omega, show a ≠ 71 by omega, show a ≠ 55 + 7 by omega, show a ≠ 55 + 11 by omega, show a ≠ 55 + 14 by omega, show a ≠ 55 + 15 by omega, show a ≠ 71 + 7 by omega, show a ≠ 71 + 11 by omega, show a ≠ 71 + 14 by omega, show a ≠ 71 + 15 by omega, false_and, if_false]
theorem zL1_hi : ∀ a, 87 ≤ a → ∀ b, zL1 a b = 0 := by
  intro a ha b
  simp only [zL1, zu_at]
  simp only [show a ≠ 10 by omega, false_and, if_false]
end ZLW
