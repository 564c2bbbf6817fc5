/-! ===== THE LAW's LOOP, handed over to the abstract machine ===== -/
/-- the law's own method, whatever its name -/
def mL_law (nm : String) : zMd := (11, ⟨RL, nm, "([I)Z"⟩, cL_law, 7, some .boolean)
/-- the world of the law's loop: the script is the static table 50 -/
def zWl (l : Launch) (D : va_G) (g : Nat → ClassId) (b : Nat) (tb : Nat → Nat) (L : Nat) (xs : Nat → Int32) : zP := (l, D, g, b, tb, false, fun U H => zEx b tb U H ∧ tb 50 < b ∧ va_X (tb 50) L xs U H)
theorem zWl_ok {l : Launch} {D : va_G} {g : Nat → ClassId} {b : Nat} {tb : Nat → Nat} {L : Nat} {xs : Nat → Int32} : zOk (zWl l D g b tb L xs) := fun _ _ h => h.1
theorem zWl_kp {l : Launch} {D : va_G} {g : Nat → ClassId} {b : Nat} {tb : Nat → Nat} {L : Nat} {xs : Nat → Int32} : zKp (zWl l D g b tb L xs) := by
  refine ⟨fun u U H hv h => ⟨zEx_same hv h.1, h.2.1, h.2.2.moved (by rw [hv]; exact Vm.Alike.refl _)⟩, fun u U H hW h => ⟨zEx_warm hW h.1, h.2.1, h.2.2.moved hW.alike⟩, fun U H H1 hq h => ⟨zEx_kept hq h.1, h.2.1, ?_⟩⟩
  refine h.2.2.kept ?_
  obtain ⟨scr, h1, -⟩ := h.2.2
  exact hq _ (Array.getElem?_eq_some_iff.mp h1).1 (Nat.not_le.mpr h.2.1)
/-- a world that knows the script -/
def zSc (w : zP) (L : Nat) (xs : Nat → Int32) : Prop := ∀ (U : State) (H : Heap), zex w U H → ztb w 50 < zb w ∧ va_X (ztb w 50) L xs U H
theorem zWl_sc {l : Launch} {D : va_G} {g : Nat → ClassId} {b : Nat} {tb : Nat → Nat} {L : Nat} {xs : Nat → Int32} : zSc (zWl l D g b tb L xs) L xs := fun _ _ h => h.2
section ZSCR
variable {w : zP} {M : zMd} {R : Room} {Q : Option Value → zMem → Prop} {kc ks pc : Nat} {lv : zLoc} {st : List Value} {μ : zMem} {L : Nat} {xs : Nat → Int32}
theorem z_slen (hsc : zSc w L xs) (hL : L < 2 ^ 31) (hd : decode M.2.2.1 pc = .ok (.arraylength, 1)) (kk : zX w M R Q kc ks (pc + 1) lv (.int (nI L) :: st) μ) : zX w M R Q kc ks pc lv (.float 50 :: st) μ := by
  intro p e s m args below meth c Qm C hK hret H locs ls hH hS hl
  obtain ⟨hx, hb, hml, hown, hts, hKn, hex, hb0, hlk, hr, hnm⟩ := id C
  obtain ⟨h1, h2⟩ := hsc s s.heap hex
  exact va_slen hx hb h2 (Nat.lt_of_lt_of_le h1 hb0) (Nat.not_le.mpr h1) hS hd (kk p e s m args below meth c Qm C hK hret H locs ls hH hS hl)
theorem z_sld (hsc : zSc w L xs) {i : Int32} (hin : vp_in i L) (hd : decode M.2.2.1 pc = .ok (.iaload, 1)) (kk : zX w M R Q kc ks (pc + 1) lv (.int (xs i.toNatClampNeg) :: st) μ) : zX w M R Q kc ks pc lv (.int i :: .float 50 :: st) μ := by
  intro p e s m args below meth c Qm C hK hret H locs ls hH hS hl
  obtain ⟨hx, hb, hml, hown, hts, hKn, hex, hb0, hlk, hr, hnm⟩ := id C
  obtain ⟨h1, h2⟩ := hsc s s.heap hex
  exact va_sld hx hb h2 (Nat.lt_of_lt_of_le h1 hb0) (Nat.not_le.mpr h1) hS hin hd (kk p e s m args below meth c Qm C hK hret H locs ls hH hS hl)
end ZSCR
/-- what is left of the law: its loop, in the abstract -/
def zLoopOk : Prop := ∀ (w : zP) (nm : String) (L : Nat) (xs : Nat → Int32) (J : Nat → Nat → Int32), zOk w → zSc w L xs → zfl w = false → (zl w).stackTraces = false → L ≤ 3072 → zModel0 zI1 J →
  zX w (mL_law nm) room_1 (fun v _ => v = some (.int 1)) 140 6304 23 [(0, .float 50), (1, .ref 0), (2, .ref 87), (3, .ref 139), (4, .int 0)] [] (zMem0 J)
theorem whole_start_of (hloop : zLoopOk) {p : Program} {e : Env} {s : State} {m : MethodId} {below : List Frame} {meth : Method} {c : Code} (l : Launch) (hst : l.stackTraces = false) {b L : Nat} {xs : Nat → Int32} (hL : L ≤ 3072) (C0 : lw_At p s m meth c b L xs) : W p l e room_1 s m #[Value.ref b] below meth c s.heap [] 0 0 (lw_Z below #[Value.ref b] s) (entryFrame m ([Value.ref b] : List Value).toArray 7) := by
  obtain ⟨D, g, tb, hKn, hEx, htb⟩ := lw_given C0
  refine lw_pre l C0 hKn hEx (fun J H locs ls hJ hH hS hl => ?_)
  obtain ⟨hx, hb, hr, hml, hown, hts0, hX, hbl, hlocks, hgv⟩ := id C0
  have hts : ∀ q ∈ zG, q.before #[Value.ref b] s = true := fun q hq => hts0 q (List.mem_filter.mp hq).1
  have C : zCx (zWl l D g s.heap.size tb L xs) (mL_law meth.name) p s m #[Value.ref b] meth c := ⟨hx, hb, hml, hown, hts, hKn, ⟨hEx, by rw [htb]; exact hbl, by rw [htb]; exact hX⟩, Nat.le_refl _, hlocks, hr, rfl⟩
  refine hloop (zWl l D g s.heap.size tb L xs) meth.name L xs J zWl_ok zWl_sc rfl hst hL hJ p e s m #[Value.ref b] below meth c (lw_Z below #[Value.ref b] s) C zWl_kp ?_ H locs ls ⟨hH.1, fun h => by cases h⟩ hS ?_
  · intro v μ' H' locs' kc' ks' pc' ls' hq hok hH' hS' hkc hks hd
    subst hq
    refine W.widen (k := 1166) (n := 14508) hkc hks ?_
    refine va_forget (fun q hq => hS'.2.2 q hq) ?_
    exact lw_ret hx hb hr hlocks hd
  · rw [← htb] at hl
    exact hl
