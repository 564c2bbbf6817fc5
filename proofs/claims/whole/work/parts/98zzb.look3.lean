/-! ===== LOOK: the law's own look, with its two rows ===== -/
def yHh : List (Nat × Nat × Nat × Nat) := [(0, 10, 13, 13), (0, 10, 17, 15)]
def mL_look : zMd := (11, yL_look, cL_look, 5, some .int)
def yRL : Room := { frames := 7, cells := 1, slots := 6, locals := 104 }
abbrev yCw : Cond := .codeWith yL_look cL_look 5 (some .int) yHh
section ZN98zzb
variable {w : zP} {Q : Option Value → zMem → Prop} {μ : zMem} {args : List Value} {I : Nat → Nat → Int32} {L : Nat → Nat → Int64} {pp ss : Nat} {rr : Option Nat} {x y : Int32} {n : Nat} {E0 : String}
/-- what a method's body may use of its end -/
def yRet (w : zP) (M : zMd) (R : Room) (Q : Option Value → zMem → Prop) (p : Program) (e : Env) (s : State) (m : MethodId) (args : Array Value) (below : List Frame) (meth : Method) (c : Code) (Qm : State → Prop) : Prop :=
  ∀ (v : Option Value) (μ' : zMem) (H' : Heap) (locs' : List Loc) (kc' ks' pc' : Nat) (ls' : Array Slot), Q v μ' → zRetOk M.2.2.2.2 v → zHas w μ' H' → va_S (zA w) s.heap H' locs' → kc' ≤ R.cells → ks' ≤ R.slots → decode M.2.2.1 pc' = .ok (zRetI v, 1) → W p (zl w) e R s m args below meth c H' locs' kc' ks' Qm (F0 m pc' ls' (v.map (zCv w)).toList)
theorem yMetW (hln : (lg_sl args).length ≤ 5)
    (h : ∀ (p : Program) (e : Env) (s : State) (m : MethodId) (below : List Frame) (meth : Method) (c : Code) (Qm : State → Prop) (ls : Array Slot), zCx w mL_look p s m (args.map (zCv w)).toArray meth c → c.exceptionTable.toList = [⟨0, 10, 13, 13⟩, ⟨0, 10, 17, 15⟩] → yRet w mL_look yRL Q p e s m (args.map (zCv w)).toArray below meth c Qm → zHas w μ s.heap → lv_has ls 5 (zLv w (lv_args 0 args)) → W p (zl w) e yRL s m (args.map (zCv w)).toArray below meth c s.heap [] 0 0 Qm (F0 m 0 ls [])) : Met (zl w) mL_look.2.1 (yCw :: zG) yRL (zPre w args μ) (zPost w Q) 1 6 (zA w) := by
  refine va_MetW (cc := cL_look) (maxL := 5) (ret := some .int) (hh := yHh) (by decide +kernel) rfl ?_
  intro p e s m args' below meth c s₁ B hml hv
  obtain ⟨rfl, hH, hKn, hex, hb0⟩ := hv
  have hx := B.exec
  have hb := B.bytes
  have hr := B.returns
  have hts := atoms_spec (ws := yCw :: zG) B.pre
  have hown : s.vm.findClass mL_look.2.1.cls = some m.cls := findClass_of_methodNamed B.named
  have hlocks := B.notSynchronized
  have hin : meth.name = mL_look.2.1.name := (name_of_methodNamed B.named B.method).1
  have htab := vx_table (x := yL_look) B (hts _ List.mem_cons_self)
  have hl := lv_entry (args.map (zCv w)) (n := 5) (by rw [zSlots]; exact hln)
  rw [lg_entry_eq]
  generalize (lg_sl (args.map (zCv w)) ++ List.replicate (5 - (lg_sl (args.map (zCv w))).length) Slot.unset).toArray = ls at hl ⊢
  rw [zArgs] at hl
  have C : zCx w mL_look p s m (args.map (zCv w)).toArray meth c := ⟨hx, hb, hml, hown, fun q hq => hts q (List.mem_cons_of_mem _ hq), hKn, hex, hb0, hlocks, hr, hin⟩
  refine h p e s m below meth c _ ls C htab ?_ hH hl
  intro v μ' H' locs' kc' ks' pc' ls' hq hok hH' hS' hkc hks hd
  refine W.widen (k := 1) (n := 6) hkc hks ?_
  have hq' : ∀ t : State, t.heap = H' → s.WarmedH t.vm → zPost w Q (args.map (zCv w)).toArray s (.returned (v.map (zCv w))) t := fun t ht _ => ⟨v, μ', rfl, hq, by rw [ht]; exact hH', hS'.F ht⟩
  cases v with
  | none => exact absurd hok (by simp [zRetOk, mL_look])
  | some v =>
    cases v with
    | int x =>
      obtain ⟨ty, e1, e2⟩ := hok
      exact W.zret hx hb (hr.trans e1) e2 hq' hS'.2.2 hd
    | long x => exact W.lret hx hb (hr.trans hok) hq' hS'.2.2 hd
    | _ => exact hok.elim
set_option maxRecDepth 20000 in
/-- the class's look throws: the law's own look answers 1 or 2 -/
theorem yLook_bad (hfl : zfl w = false) (hst : (zl w).stackTraces = false) (hTh : zTh w) (hKp : zKp w) (hI : I 10 8 = nI n) (hE : (E0 = yIo ∧ (x < 0 ∨ ¬ x < nI n)) ∨ (E0 = yNo ∧ ¬ x < 0 ∧ x < nI n ∧ (y.toInt < 0 ∨ 4 < y.toInt))) (hQ1 : E0 = yIo → Q (some (.int 1)) (SH, I, L, RF pp ss rr)) (hQ2 : E0 = yNo → Q (some (.int 2)) (SH, I, L, RF pp ss rr)) : Met (zl w) mL_look.2.1 (yCw :: zG) yRL (zPre w [.ref 0, .int x, .int y, .ref 139] (SH, I, L, RF pp ss rr)) (zPost w Q) 1 6 (zA w) := by
  refine yMetW (Nat.le_of_ble_eq_true rfl) (fun p e s m below meth c Qm ls C htab hret hH hl => ?_)
  obtain ⟨hx, hb, hml, hown, hts, hKn, hex, hb0, hlk, hr, hnm⟩ := id C
  obtain ⟨t1, t2, t3, t4, t5, t6⟩ := hTh s s.heap hex
  have q0 : ls[((0 : Fin 4) : Nat)]? = some (.val (.ref (zb w + 0))) := zLk_at (v := .ref 0) hl rfl
  have q1 : ls[((1 : Fin 4) : Nat)]? = some (.val (.int x)) := zLk_at (v := .int x) hl rfl
  have q2 : ls[((2 : Fin 4) : Nat)]? = some (.val (.int y)) := zLk_at (v := .int y) hl rfl
  have q3 : ls[((3 : Fin 4) : Nat)]? = some (.val (.ref (zb w + 139))) := zLk_at (v := .ref 139) hl rfl
  refine lv_aload_n hx hb (by decide +kernel : decode cL_look 0 = .ok (.aload_n 3, 1)) rfl q3 ?_
  refine lv_iconst (v := 0) hx hb (by decide +kernel : decode cL_look 1 = .ok (.iconst 0, 1)) (by decide) ?_
  refine lv_aload_n hx hb (by decide +kernel : decode cL_look 2 = .ok (.aload_n 0, 1)) rfl q0 ?_
  refine lv_iload_n hx hb (by decide +kernel : decode cL_look 3 = .ok (.iload_n 1, 1)) rfl q1 ?_
  refine lv_iload_n hx hb (by decide +kernel : decode cL_look 4 = .ok (.iload_n 2, 1)) rfl q2 ?_
  obtain ⟨hcode, hpl, hw2, hw3, hw4, hci, hcc, hds⟩ := eX9_look
  have hgo : GoodIn zG (wsV mL_look.2.1.cls 7 mX9_look.2.1.cls mX9_look.2.1 (zCode mX9_look :: zG)) := by
    have g := zG_in hcode
    have g1 : ∀ q ∈ zG, q ∈ zG ∧ ((q.onTables && q.keeps) = true ∨ ∃ ty, q = .arrayClass ty) := fun q hq => g q (List.mem_cons_of_mem _ hq)
    intro q hq
    rcases List.mem_append.mp hq with hq | hq
    · simp only [List.mem_cons, List.not_mem_nil, or_false] at hq
      rcases hq with rfl | rfl | rfl | rfl
      · exact g1 _ k11_7
      · exact g1 _ hw2
      · exact g1 _ hw3
      · exact g1 _ hw4
    · exact g q hq
  have hrv := va_recv hKn hH.1 (zCl hci) (zW_at (w := w) (show ((SH, I, L, RF pp ss rr) : zMem).1[0]? = some (.inr 9) from sh_0))
  rw [hcc] at hrv
  have hM := yMet (L := L) (pp := pp) (ss := ss) (rr := rr) hfl hst hTh hI hE
  have hrun := vx_runV (p := p) (e := e) (below := below) (meth := meth) (locs := []) (cells := 0) (slots := 0) (R := yRL) (g := F0 m 5 ls [.int y, .int x, .ref (zb w + 0), .int 0, .ref (zb w + 139)]) (b := zb w + 0) (As := [.int x, .int y]) (rest := [.int 0, .ref (zb w + 139)]) ⟨hx, hb, hml, hown, hts⟩ hM (cwV 2 hts hgo rfl rfl rfl ⟨rfl, hds⟩ ⟨Nat.le_of_ble_eq_true rfl, Nat.le_of_ble_eq_true rfl⟩) ⟨zPre_blind hKp, hrv, fun U hU hW => zPre_at (args := [.ref 0, .int x, .int y]) hKp hKn hex hb0 hH va_S.rf hU hW⟩ rfl rfl hl.1 rfl (Nat.le_of_ble_eq_true rfl) (by decide +kernel : decode cL_look 5 = .ok (.invokevirtual 7, 3)) ⟨Nat.le_of_ble_eq_true rfl, Nat.le_of_ble_eq_true rfl⟩
  intro T hT X
  rcases hrun T hT X with ⟨v, st₀, t, T', L', h0, X', hL, e1, e2, hf, st⟩ | ⟨q, st₀, t, T', L', E, ce, h0, X', hL, e1, e2, ⟨eE, hH', hz, hk⟩, hce, hcv, hcl, st⟩
  · exact hf.elim
  · rw [h0] at hz hk
    have hS' : va_S (zA w) s.heap T'.heap ([] ++ L') := ⟨by rw [e1]; exact hz, fun z h1 h2 => by rw [e1]; exact hk z h1 h2, fun z hz => hL z (by simpa using hz)⟩
    have hH2 : zHas w (SH, I, L, RF pp ss rr) T'.heap := by rw [e1]; exact hH'
    have key : vx_W p (zl w) e yRL s m (([.ref 0, .int x, .int y, .ref 139] : List Value).map (zCv w)).toArray below meth c T'.heap ([] ++ L') (0 + 1) (0 + 6) Qm (F0 m 5 ls [.int 0, .ref (zb w + 139)]) q := by
      refine y_catch (own := RL) (n1 := yIo) (n2 := yNo) (E := E) (ce := ce) hown htab (by decide) (by decide) (by decide) (by decide) (hts _ (zt5 178 (by decide +kernel) rfl)) (hts _ (zt5 179 (by decide +kernel) rfl)) (by rw [e1]; exact hce) hcv hcl ?_
      rcases hE with ⟨e0, -⟩ | ⟨e0, -⟩
      · left
        rw [eE, e0]
        refine ⟨va_Nw.use rfl (t1 _ (by simp [yBad])), ?_⟩
        refine lv_astore hx hb (by decide +kernel : decode cL_look 13 = .ok (.astore 4, 2)) hl (Nat.le_of_ble_eq_true rfl) rfl (fun ls' hl' => ?_)
        refine lv_iconst (v := 1) hx hb (by decide +kernel : decode cL_look 15 = .ok (.iconst 1, 1)) (by decide) ?_
        exact hret (some (.int 1)) _ _ _ _ _ 16 ls' (hQ1 e0) ⟨.int, rfl, rfl⟩ hH2 hS' (Nat.le_refl _) (Nat.le_refl _) (by decide +kernel : decode cL_look 16 = .ok (.ireturn, 1))
      · right
        rw [eE, e0]
        refine ⟨t6, va_Nw.use rfl (t1 _ (by simp [yBad])), ?_⟩
        refine lv_astore hx hb (by decide +kernel : decode cL_look 17 = .ok (.astore 4, 2)) hl (Nat.le_of_ble_eq_true rfl) rfl (fun ls' hl' => ?_)
        refine lv_iconst (v := 2) hx hb (by decide +kernel : decode cL_look 19 = .ok (.iconst 2, 1)) (by decide) ?_
        exact hret (some (.int 2)) _ _ _ _ _ 20 ls' (hQ2 e0) ⟨.int, rfl, rfl⟩ hH2 hS' (Nat.le_refl _) (Nat.le_refl _) (by decide +kernel : decode cL_look 20 = .ok (.ireturn, 1))
    obtain ⟨t2', a1, b1⟩ := key T' rfl X'
    exact ⟨t2', st.trans a1, b1⟩
end ZN98zzb
