/-! ===== CONSTANT OBJECTS: a String, its bytes ===== -/
section ZSTR
variable {w : zP} {M M' : zMd} {R R' : Room} {Q : Option Value → zMem → Prop} {kc ks pc : Nat} {lv : zLoc} {st : List Value} {μ : zMem}
theorem z_ldcS {idx t : Nat} {u : UInt32} {tx : String} (hu : u.toNat = t) (hd : decode M.2.2.1 pc = .ok (.ldc idx, 2)) (hw : ∀ (U : State) (H : Heap), zex w U H → vk_R M.2.1.cls idx tx (ztb w t) U) (kk : zX w M R Q kc ks (pc + 2) lv (.float u :: st) μ) : zX w M R Q kc ks pc lv st μ := by
  intro p e s m args below meth c Qm C hK hret H locs ls hH hS hl
  obtain ⟨hx, hb, hml, hown, hts, hKn, hex, hb0, hlk, hr, hnm⟩ := id C
  refine va_ldcS hx hb hown (hw s s.heap hex) hd ?_
  have k2 := kk p e s m args below meth c Qm C hK hret H locs ls hH hS hl
  rw [← hu]
  exact k2
theorem z_sgetI {idx t : Nat} {u : UInt32} {ow nm ds : String} {x : Int32} (hu : u.toNat = t) (hd : decode M.2.2.1 pc = .ok (.getfield idx, 3)) (hl1 : Cond.fieldLink M.2.1.cls idx ow nm ds ∈ zG) (hw : ∀ (U : State) (H : Heap), zex w U H → va_OF ow nm ds (.int x) (ztb w t) (zA w) U H) (kk : zX w M R Q kc ks (pc + 3) lv (.int x :: st) μ) : zX w M R Q kc ks pc lv (.float u :: st) μ := by
  intro p e s m args below meth c Qm C hK hret H locs ls hH hS hl
  obtain ⟨hx, hb, hml, hown, hts, hKn, hex, hb0, hlk, hr, hnm⟩ := id C
  show W p (zl w) e R s m args below meth c H locs kc ks Qm (F0 m pc ls (.ref (ztb w u.toNat) :: st.map (zCv w)))
  rw [hu]
  exact vk_getf hx hb (hw s s.heap hex) hS hown (hts _ hl1) (fun _ h => h) hd (kk p e s m args below meth c Qm C hK hret H locs ls hH hS hl)
theorem z_sgetT {idx t t2 : Nat} {u u2 : UInt32} {ow nm ds : String} (hu : u.toNat = t) (hu2 : u2.toNat = t2) (hd : decode M.2.2.1 pc = .ok (.getfield idx, 3)) (hl1 : Cond.fieldLink M.2.1.cls idx ow nm ds ∈ zG) (hw : ∀ (U : State) (H : Heap), zex w U H → va_OF ow nm ds (.ref (ztb w t2)) (ztb w t) (zA w) U H) (kk : zX w M R Q kc ks (pc + 3) lv (.float u2 :: st) μ) : zX w M R Q kc ks pc lv (.float u :: st) μ := by
  intro p e s m args below meth c Qm C hK hret H locs ls hH hS hl
  obtain ⟨hx, hb, hml, hown, hts, hKn, hex, hb0, hlk, hr, hnm⟩ := id C
  show W p (zl w) e R s m args below meth c H locs kc ks Qm (F0 m pc ls (.ref (ztb w u.toNat) :: st.map (zCv w)))
  rw [hu]
  refine vk_getf hx hb (hw s s.heap hex) hS hown (hts _ hl1) (fun _ h => h) hd ?_
  have k2 := kk p e s m args below meth c Qm C hK hret H locs ls hH hS hl
  rw [← hu2]
  exact k2
theorem z_getsI {idx : Nat} {ow nm ds : String} {x : Int32} (hd : decode M.2.2.1 pc = .ok (.getstatic idx, 3)) (hl1 : Cond.fieldLink M.2.1.cls idx ow nm ds ∈ zG) (hw : ∀ (U : State) (H : Heap), zex w U H → va_Z ow nm ds (.int x) (zA w) U H) (kk : zX w M R Q kc ks (pc + 3) lv (.int x :: st) μ) : zX w M R Q kc ks pc lv st μ := by
  intro p e s m args below meth c Qm C hK hret H locs ls hH hS hl
  obtain ⟨hx, hb, hml, hown, hts, hKn, hex, hb0, hlk, hr, hnm⟩ := id C
  exact va_gets hx hb (hw s s.heap hex) hS hown (hts _ hl1) (fun _ h => h) hd (kk p e s m args below meth c Qm C hK hret H locs ls hH hS hl)
theorem z_talen {t N : Nat} {u : UInt32} {ty : FieldType} {f : Nat → Value} (hu : u.toNat = t) (hd : decode M.2.2.1 pc = .ok (.arraylength, 1)) (hw : ∀ (U : State) (H : Heap), zex w U H → va_T ty (ztb w t) N f (zA w) U H) (kk : zX w M R Q kc ks (pc + 1) lv (.int (Int32.ofNat N) :: st) μ) : zX w M R Q kc ks pc lv (.float u :: st) μ := by
  intro p e s m args below meth c Qm C hK hret H locs ls hH hS hl
  obtain ⟨hx, hb, hml, hown, hts, hKn, hex, hb0, hlk, hr, hnm⟩ := id C
  show W p (zl w) e R s m args below meth c H locs kc ks Qm (F0 m pc ls (.ref (ztb w u.toNat) :: st.map (zCv w)))
  rw [hu]
  exact va_tlen hx hb (hw s s.heap hex) hS rfl hd (kk p e s m args below meth c Qm C hK hret H locs ls hH hS hl)
theorem z_tbald {t N : Nat} {u : UInt32} {f : Nat → Int32} {i : Int32} (hu : u.toNat = t) (hd : decode M.2.2.1 pc = .ok (.baload, 1)) (hw : ∀ (U : State) (H : Heap), zex w U H → va_T .byte (ztb w t) N (fun j => .int (f j)) (zA w) U H) (hin : vp_in i N) (kk : zX w M R Q kc ks (pc + 1) lv (.int (f i.toNatClampNeg) :: st) μ) : zX w M R Q kc ks pc lv (.int i :: .float u :: st) μ := by
  intro p e s m args below meth c Qm C hK hret H locs ls hH hS hl
  obtain ⟨hx, hb, hml, hown, hts, hKn, hex, hb0, hlk, hr, hnm⟩ := id C
  show W p (zl w) e R s m args below meth c H locs kc ks Qm (F0 m pc ls (.int i :: .ref (ztb w u.toNat) :: st.map (zCv w)))
  rw [hu]
  exact va_tb hx hb (hw s s.heap hex) hS hin rfl hd (kk p e s m args below meth c Qm C hK hret H locs ls hH hS hl)
theorem z_i2c {x : Int32} (hd : decode M.2.2.1 pc = .ok (.i2c, 1)) (kk : zX w M R Q kc ks (pc + 1) lv (.int (x.toUInt32 % 65536).toInt32 :: st) μ) : zX w M R Q kc ks pc lv (.int x :: st) μ := by
  intro p e s m args below meth c Qm C hK hret H locs ls hH hS hl
  obtain ⟨hx, hb, hml, hown, hts, hKn, hex, hb0, hlk, hr, hnm⟩ := id C
  exact lv_i2c hx hb hd rfl (kk p e s m args below meth c Qm C hK hret H locs ls hH hS hl)
theorem z_callVT {t idx : Nat} {u : UInt32} (As rest : List Value) (hu : u.toNat = t) (hcode : zCode M' ∈ zG) (hpl : plainFor M'.2.1 = true) (hw1 : Cond.methodLink M.2.1.cls idx M'.2.1 ∈ zG) (hw2 : Cond.instanceMethod M'.2.1 ∈ zG) (hw3 : Cond.selects M'.2.1.cls M'.2.1 M'.2.1 ∈ zG) (hw4 : Cond.initialized M'.2.1.cls ∈ zG) (hds : zDesc M' As.length) (hd : decode M.2.2.1 pc = .ok (.invokevirtual idx, 3)) (hln : (lg_sl (.float u :: As)).length ≤ M'.2.2.2.1) (hfit : zFit R R' M' kc ks (rest.map fun v => v.category).sum) (hst : st = As.reverse ++ .float u :: rest)
    (hrv : ∀ (U : State) (H : Heap), zex w U H → va_O M'.2.1.cls (ztb w t) (zA w) U H) (h : zXM w M' R' (.float u :: As) μ (fun v μ' => zX w M R Q (kc + R'.cells) (ks + R'.slots) (pc + 3) lv (v.toList ++ rest) μ')) : zX w M R Q kc ks pc lv st μ := by
  intro p e s m args below meth c Qm C hK hret H locs ls hH hS hl
  obtain ⟨hx, hb, hml, hown, hts, hKn, hex, hb0, hlk, hr, hnm⟩ := id C
  have hgo : GoodIn zG (wsV M.2.1.cls idx M'.2.1.cls M'.2.1 (zCode M' :: zG)) := by
    have g := zG_in hcode
    have g1 : ∀ q ∈ zG, q ∈ zG ∧ ((q.onTables && q.keeps) = true ∨ ∃ ty, q = .arrayClass ty) := fun q hq => g q (List.mem_cons_of_mem _ hq)
    intro q hq
    rcases List.mem_append.mp hq with hq | hq
    · simp only [List.mem_cons, List.not_mem_nil, or_false] at hq
      rcases hq with rfl | rfl | rfl | rfl
      · exact g1 _ hw1
      · exact g1 _ hw2
      · exact g1 _ hw3
      · exact g1 _ hw4
    · exact g q hq
  obtain ⟨cell, hc1, hc2, hc3, -⟩ := (hrv s s.heap hex).kept hS.2.1
  rw [← hu] at hc1
  have hM := zMet (args := .float u :: As) hcode hpl hln hK h
  refine zBack (R' := R') (rest := rest.map (zCv w)) (va_runV (b := ztb w u.toNat) (As := As.map (zCv w)) ⟨hx, hb, hml, hown, hts⟩ hM (cwV As.length hts hgo rfl rfl rfl ⟨rfl, hds⟩ ⟨hfit.1, hfit.2.1⟩) ⟨zPre_blind hK, ⟨cell, hc1, hc2, hc3⟩, fun U hU hW => zPre_at (args := .float u :: As) hK hKn hex hb0 hH hS hU hW⟩ rfl (by simp) hl.1 (by rw [zRev w hst]; rfl) (lv_room (by rw [zCat]; exact hfit.2.2.2.2)) hd ⟨hfit.2.2.1, hfit.2.2.2.1⟩) hS (fun v μ' H1 locs1 hq hH1 hS1 => ?_)
  have k2 := hq p e s m args below meth c Qm C hK hret H1 locs1 ls hH1 hS1 hl
  rw [List.map_append] at k2
  cases v <;> exact k2
end ZSTR
