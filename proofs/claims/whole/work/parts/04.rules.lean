/-! ===== THE RULES, one an instruction ===== -/
section ZR
variable {w : zP} {M : zMd} {R : Room} {Q : Option Value → zMem → Prop} {kc ks pc : Nat} {lv : zLoc} {st : List Value} {μ : zMem}
theorem z_iconst {n : Int} (hd : decode M.2.2.1 pc = .ok (.iconst n, 1)) (k : zX w M R Q kc ks (pc + 1) lv (.int (Int32.ofInt n) :: st) μ) : zX w M R Q kc ks pc lv (st) μ := by
  intro p e s m args below meth c Qm C hK hret H locs ls hH hS hl
  obtain ⟨hx, hb, hml, hown, hts, hKn, hex, hb0, hlk, hr, hnm⟩ := id C
  exact lv_iconst hx hb hd rfl (k p e s m args below meth c Qm C hK hret H locs ls hH hS hl)
theorem z_bipush {n : Int} (hd : decode M.2.2.1 pc = .ok (.bipush n, 2)) (k : zX w M R Q kc ks (pc + 2) lv (.int (Int8.ofInt n).toInt32 :: st) μ) : zX w M R Q kc ks pc lv (st) μ := by
  intro p e s m args below meth c Qm C hK hret H locs ls hH hS hl
  obtain ⟨hx, hb, hml, hown, hts, hKn, hex, hb0, hlk, hr, hnm⟩ := id C
  exact lv_bipush hx hb hd rfl (k p e s m args below meth c Qm C hK hret H locs ls hH hS hl)
theorem z_sipush {n : Int} (hd : decode M.2.2.1 pc = .ok (.sipush n, 3)) (k : zX w M R Q kc ks (pc + 3) lv (.int (Int16.ofInt n).toInt32 :: st) μ) : zX w M R Q kc ks pc lv (st) μ := by
  intro p e s m args below meth c Qm C hK hret H locs ls hH hS hl
  obtain ⟨hx, hb, hml, hown, hts, hKn, hex, hb0, hlk, hr, hnm⟩ := id C
  exact lv_sipush hx hb hd rfl (k p e s m args below meth c Qm C hK hret H locs ls hH hS hl)
theorem z_lconst {n : Fin 2} (hd : decode M.2.2.1 pc = .ok (.lconst n, 1)) (k : zX w M R Q kc ks (pc + 1) lv (.long (Int64.ofNat (n : Nat)) :: st) μ) : zX w M R Q kc ks pc lv (st) μ := by
  intro p e s m args below meth c Qm C hK hret H locs ls hH hS hl
  obtain ⟨hx, hb, hml, hown, hts, hKn, hex, hb0, hlk, hr, hnm⟩ := id C
  exact lv_lconst hx hb hd rfl (k p e s m args below meth c Qm C hK hret H locs ls hH hS hl)
theorem z_iload_n {i : Fin 4} {x : Int32} (hd : decode M.2.2.1 pc = .ok (.iload_n i, 1)) (hv : zLk lv (i : Nat) = some (.int x)) (k : zX w M R Q kc ks (pc + 1) lv (.int x :: st) μ) : zX w M R Q kc ks pc lv (st) μ := by
  intro p e s m args below meth c Qm C hK hret H locs ls hH hS hl
  obtain ⟨hx, hb, hml, hown, hts, hKn, hex, hb0, hlk, hr, hnm⟩ := id C
  exact lv_iload_n hx hb hd rfl (zLk_at hl hv) (k p e s m args below meth c Qm C hK hret H locs ls hH hS hl)
theorem z_iload {i : Nat} {x : Int32} (hd : decode M.2.2.1 pc = .ok (.iload i, 2)) (hv : zLk lv i = some (.int x)) (k : zX w M R Q kc ks (pc + 2) lv (.int x :: st) μ) : zX w M R Q kc ks pc lv (st) μ := by
  intro p e s m args below meth c Qm C hK hret H locs ls hH hS hl
  obtain ⟨hx, hb, hml, hown, hts, hKn, hex, hb0, hlk, hr, hnm⟩ := id C
  exact lv_iload hx hb hd (zLk_at hl hv) (k p e s m args below meth c Qm C hK hret H locs ls hH hS hl)
theorem z_lload_n {i : Fin 4} {x : Int64} (hd : decode M.2.2.1 pc = .ok (.lload_n i, 1)) (hv : zLk lv (i : Nat) = some (.long x)) (k : zX w M R Q kc ks (pc + 1) lv (.long x :: st) μ) : zX w M R Q kc ks pc lv (st) μ := by
  intro p e s m args below meth c Qm C hK hret H locs ls hH hS hl
  obtain ⟨hx, hb, hml, hown, hts, hKn, hex, hb0, hlk, hr, hnm⟩ := id C
  exact lv_lload_n hx hb hd rfl (zLk_at hl hv) (k p e s m args below meth c Qm C hK hret H locs ls hH hS hl)
theorem z_lload {i : Nat} {x : Int64} (hd : decode M.2.2.1 pc = .ok (.lload i, 2)) (hv : zLk lv i = some (.long x)) (k : zX w M R Q kc ks (pc + 2) lv (.long x :: st) μ) : zX w M R Q kc ks pc lv (st) μ := by
  intro p e s m args below meth c Qm C hK hret H locs ls hH hS hl
  obtain ⟨hx, hb, hml, hown, hts, hKn, hex, hb0, hlk, hr, hnm⟩ := id C
  exact lv_lload hx hb hd (zLk_at hl hv) (k p e s m args below meth c Qm C hK hret H locs ls hH hS hl)
theorem z_aload_n {i : Fin 4} {x : Nat} (hd : decode M.2.2.1 pc = .ok (.aload_n i, 1)) (hv : zLk lv (i : Nat) = some (.ref x)) (k : zX w M R Q kc ks (pc + 1) lv (.ref x :: st) μ) : zX w M R Q kc ks pc lv (st) μ := by
  intro p e s m args below meth c Qm C hK hret H locs ls hH hS hl
  obtain ⟨hx, hb, hml, hown, hts, hKn, hex, hb0, hlk, hr, hnm⟩ := id C
  exact lv_aload_n hx hb hd rfl (zLk_at hl hv) (k p e s m args below meth c Qm C hK hret H locs ls hH hS hl)
theorem z_aload {i : Nat} {x : Nat} (hd : decode M.2.2.1 pc = .ok (.aload i, 2)) (hv : zLk lv i = some (.ref x)) (k : zX w M R Q kc ks (pc + 2) lv (.ref x :: st) μ) : zX w M R Q kc ks pc lv (st) μ := by
  intro p e s m args below meth c Qm C hK hret H locs ls hH hS hl
  obtain ⟨hx, hb, hml, hown, hts, hKn, hex, hb0, hlk, hr, hnm⟩ := id C
  exact lv_aload hx hb hd (zLk_at hl hv) (k p e s m args below meth c Qm C hK hret H locs ls hH hS hl)
theorem z_aload_nT {i : Fin 4} {x : UInt32} (hd : decode M.2.2.1 pc = .ok (.aload_n i, 1)) (hv : zLk lv (i : Nat) = some (.float x)) (k : zX w M R Q kc ks (pc + 1) lv (.float x :: st) μ) : zX w M R Q kc ks pc lv (st) μ := by
  intro p e s m args below meth c Qm C hK hret H locs ls hH hS hl
  obtain ⟨hx, hb, hml, hown, hts, hKn, hex, hb0, hlk, hr, hnm⟩ := id C
  exact lv_aload_n hx hb hd rfl (zLk_at hl hv) (k p e s m args below meth c Qm C hK hret H locs ls hH hS hl)
theorem z_istore_n {i : Fin 4} {x : Int32} (hd : decode M.2.2.1 pc = .ok (.istore_n i, 1)) (hn : (i : Nat) < M.2.2.2.1) (k : zX w M R Q kc ks (pc + 1) (zSto false lv (i : Nat) (.int x)) st μ) : zX w M R Q kc ks pc lv (.int x :: st) μ := by
  intro p e s m args below meth c Qm C hK hret H locs ls hH hS hl
  obtain ⟨hx, hb, hml, hown, hts, hKn, hex, hb0, hlk, hr, hnm⟩ := id C
  exact lv_istore_n hx hb hd rfl hl hn rfl (fun ls' hl' => k p e s m args below meth c Qm C hK hret H locs ls' hH hS (zSto_has1 (v := .int x) hl'))
theorem z_istore {i : Nat} {x : Int32} (hd : decode M.2.2.1 pc = .ok (.istore i, 2)) (hn : i < M.2.2.2.1) (k : zX w M R Q kc ks (pc + 2) (zSto false lv i (.int x)) st μ) : zX w M R Q kc ks pc lv (.int x :: st) μ := by
  intro p e s m args below meth c Qm C hK hret H locs ls hH hS hl
  obtain ⟨hx, hb, hml, hown, hts, hKn, hex, hb0, hlk, hr, hnm⟩ := id C
  exact lv_istore hx hb hd hl hn rfl (fun ls' hl' => k p e s m args below meth c Qm C hK hret H locs ls' hH hS (zSto_has1 (v := .int x) hl'))
theorem z_lstore_n {i : Fin 4} {x : Int64} (hd : decode M.2.2.1 pc = .ok (.lstore_n i, 1)) (hn : (i : Nat) + 1 < M.2.2.2.1) (k : zX w M R Q kc ks (pc + 1) (zSto true lv (i : Nat) (.long x)) st μ) : zX w M R Q kc ks pc lv (.long x :: st) μ := by
  intro p e s m args below meth c Qm C hK hret H locs ls hH hS hl
  obtain ⟨hx, hb, hml, hown, hts, hKn, hex, hb0, hlk, hr, hnm⟩ := id C
  exact lv_lstore_n hx hb hd rfl hl hn rfl (fun ls' hl' => k p e s m args below meth c Qm C hK hret H locs ls' hH hS (zSto_has2 (v := .long x) hl'))
theorem z_lstore {i : Nat} {x : Int64} (hd : decode M.2.2.1 pc = .ok (.lstore i, 2)) (hn : i + 1 < M.2.2.2.1) (k : zX w M R Q kc ks (pc + 2) (zSto true lv i (.long x)) st μ) : zX w M R Q kc ks pc lv (.long x :: st) μ := by
  intro p e s m args below meth c Qm C hK hret H locs ls hH hS hl
  obtain ⟨hx, hb, hml, hown, hts, hKn, hex, hb0, hlk, hr, hnm⟩ := id C
  exact lv_lstore hx hb hd hl hn rfl (fun ls' hl' => k p e s m args below meth c Qm C hK hret H locs ls' hH hS (zSto_has2 (v := .long x) hl'))
theorem z_astore_n {i : Fin 4} {x : Nat} (hd : decode M.2.2.1 pc = .ok (.astore_n i, 1)) (hn : (i : Nat) < M.2.2.2.1) (k : zX w M R Q kc ks (pc + 1) (zSto false lv (i : Nat) (.ref x)) st μ) : zX w M R Q kc ks pc lv (.ref x :: st) μ := by
  intro p e s m args below meth c Qm C hK hret H locs ls hH hS hl
  obtain ⟨hx, hb, hml, hown, hts, hKn, hex, hb0, hlk, hr, hnm⟩ := id C
  exact lv_astore_n hx hb hd rfl hl hn rfl (fun ls' hl' => k p e s m args below meth c Qm C hK hret H locs ls' hH hS (zSto_has1 (v := .ref x) hl'))
theorem z_astore {i : Nat} {x : Nat} (hd : decode M.2.2.1 pc = .ok (.astore i, 2)) (hn : i < M.2.2.2.1) (k : zX w M R Q kc ks (pc + 2) (zSto false lv i (.ref x)) st μ) : zX w M R Q kc ks pc lv (.ref x :: st) μ := by
  intro p e s m args below meth c Qm C hK hret H locs ls hH hS hl
  obtain ⟨hx, hb, hml, hown, hts, hKn, hex, hb0, hlk, hr, hnm⟩ := id C
  exact lv_astore hx hb hd hl hn rfl (fun ls' hl' => k p e s m args below meth c Qm C hK hret H locs ls' hH hS (zSto_has1 (v := .ref x) hl'))
theorem z_iinc {i : Nat} {n : Int} {x : Int32} (hd : decode M.2.2.1 pc = .ok (.iinc i n, 3)) (hv : zLk lv i = some (.int x)) (hn : i < M.2.2.2.1) (k : zX w M R Q kc ks (pc + 3) (zSto false lv i (.int (x + Int32.ofInt n))) st μ) : zX w M R Q kc ks pc lv st μ := by
  intro p e s m args below meth c Qm C hK hret H locs ls hH hS hl
  obtain ⟨hx, hb, hml, hown, hts, hKn, hex, hb0, hlk, hr, hnm⟩ := id C
  have hl2 : lv_has ls M.2.2.2.1 ((i, Value.int x) :: zLv w lv) := ⟨hl.1, hl.2.1, fun q hq => (List.mem_cons.mp hq).elim (fun e => by rw [e]; exact zLk_at (v := .int x) hl hv) (hl.2.2 q)⟩
  refine lv_iinc (k := 0) (v := x + Int32.ofInt n) hx hb hd hl2 rfl rfl hn rfl (fun ls' hl' => k p e s m args below meth c Qm C hK hret H locs ls' hH hS (zSto_has1 (v := .int (x + Int32.ofInt n)) ?_))
  refine ⟨hl'.1, hl'.2.1, fun q hq => hl'.2.2 q ?_⟩
  rcases List.mem_cons.mp hq with e | h
  · rw [e]; exact List.mem_cons_self
  · refine List.mem_cons_of_mem _ ?_
    obtain ⟨h1, h2⟩ := List.mem_filter.mp h
    exact List.mem_filter.mpr ⟨List.mem_cons_of_mem _ h1, h2⟩
theorem z_iadd {x y : Int32} (hd : decode M.2.2.1 pc = .ok (.iadd, 1)) (k : zX w M R Q kc ks (pc + 1) lv (.int (x + y) :: st) μ) : zX w M R Q kc ks pc lv (.int y :: .int x :: st) μ := by
  intro p e s m args below meth c Qm C hK hret H locs ls hH hS hl
  obtain ⟨hx, hb, hml, hown, hts, hKn, hex, hb0, hlk, hr, hnm⟩ := id C
  exact lv_iadd hx hb hd (k p e s m args below meth c Qm C hK hret H locs ls hH hS hl)
theorem z_isub {x y : Int32} (hd : decode M.2.2.1 pc = .ok (.isub, 1)) (k : zX w M R Q kc ks (pc + 1) lv (.int (x - y) :: st) μ) : zX w M R Q kc ks pc lv (.int y :: .int x :: st) μ := by
  intro p e s m args below meth c Qm C hK hret H locs ls hH hS hl
  obtain ⟨hx, hb, hml, hown, hts, hKn, hex, hb0, hlk, hr, hnm⟩ := id C
  exact lv_isub hx hb hd (k p e s m args below meth c Qm C hK hret H locs ls hH hS hl)
theorem z_imul {x y : Int32} (hd : decode M.2.2.1 pc = .ok (.imul, 1)) (k : zX w M R Q kc ks (pc + 1) lv (.int (x * y) :: st) μ) : zX w M R Q kc ks pc lv (.int y :: .int x :: st) μ := by
  intro p e s m args below meth c Qm C hK hret H locs ls hH hS hl
  obtain ⟨hx, hb, hml, hown, hts, hKn, hex, hb0, hlk, hr, hnm⟩ := id C
  exact lv_imul hx hb hd (k p e s m args below meth c Qm C hK hret H locs ls hH hS hl)
theorem z_iand {x y : Int32} (hd : decode M.2.2.1 pc = .ok (.iand, 1)) (k : zX w M R Q kc ks (pc + 1) lv (.int (x &&& y) :: st) μ) : zX w M R Q kc ks pc lv (.int y :: .int x :: st) μ := by
  intro p e s m args below meth c Qm C hK hret H locs ls hH hS hl
  obtain ⟨hx, hb, hml, hown, hts, hKn, hex, hb0, hlk, hr, hnm⟩ := id C
  exact lv_iand hx hb hd (k p e s m args below meth c Qm C hK hret H locs ls hH hS hl)
theorem z_ior {x y : Int32} (hd : decode M.2.2.1 pc = .ok (.ior, 1)) (k : zX w M R Q kc ks (pc + 1) lv (.int (x ||| y) :: st) μ) : zX w M R Q kc ks pc lv (.int y :: .int x :: st) μ := by
  intro p e s m args below meth c Qm C hK hret H locs ls hH hS hl
  obtain ⟨hx, hb, hml, hown, hts, hKn, hex, hb0, hlk, hr, hnm⟩ := id C
  exact lv_ior hx hb hd (k p e s m args below meth c Qm C hK hret H locs ls hH hS hl)
theorem z_ixor {x y : Int32} (hd : decode M.2.2.1 pc = .ok (.ixor, 1)) (k : zX w M R Q kc ks (pc + 1) lv (.int (x ^^^ y) :: st) μ) : zX w M R Q kc ks pc lv (.int y :: .int x :: st) μ := by
  intro p e s m args below meth c Qm C hK hret H locs ls hH hS hl
  obtain ⟨hx, hb, hml, hown, hts, hKn, hex, hb0, hlk, hr, hnm⟩ := id C
  exact lv_ixor hx hb hd (k p e s m args below meth c Qm C hK hret H locs ls hH hS hl)
theorem z_ladd {x y : Int64} (hd : decode M.2.2.1 pc = .ok (.ladd, 1)) (k : zX w M R Q kc ks (pc + 1) lv (.long (x + y) :: st) μ) : zX w M R Q kc ks pc lv (.long y :: .long x :: st) μ := by
  intro p e s m args below meth c Qm C hK hret H locs ls hH hS hl
  obtain ⟨hx, hb, hml, hown, hts, hKn, hex, hb0, hlk, hr, hnm⟩ := id C
  exact lv_ladd hx hb hd (k p e s m args below meth c Qm C hK hret H locs ls hH hS hl)
theorem z_lsub {x y : Int64} (hd : decode M.2.2.1 pc = .ok (.lsub, 1)) (k : zX w M R Q kc ks (pc + 1) lv (.long (x - y) :: st) μ) : zX w M R Q kc ks pc lv (.long y :: .long x :: st) μ := by
  intro p e s m args below meth c Qm C hK hret H locs ls hH hS hl
  obtain ⟨hx, hb, hml, hown, hts, hKn, hex, hb0, hlk, hr, hnm⟩ := id C
  exact lv_lsub hx hb hd (k p e s m args below meth c Qm C hK hret H locs ls hH hS hl)
theorem z_lmul {x y : Int64} (hd : decode M.2.2.1 pc = .ok (.lmul, 1)) (k : zX w M R Q kc ks (pc + 1) lv (.long (x * y) :: st) μ) : zX w M R Q kc ks pc lv (.long y :: .long x :: st) μ := by
  intro p e s m args below meth c Qm C hK hret H locs ls hH hS hl
  obtain ⟨hx, hb, hml, hown, hts, hKn, hex, hb0, hlk, hr, hnm⟩ := id C
  exact lv_lmul hx hb hd (k p e s m args below meth c Qm C hK hret H locs ls hH hS hl)
theorem z_land {x y : Int64} (hd : decode M.2.2.1 pc = .ok (.land, 1)) (k : zX w M R Q kc ks (pc + 1) lv (.long (x &&& y) :: st) μ) : zX w M R Q kc ks pc lv (.long y :: .long x :: st) μ := by
  intro p e s m args below meth c Qm C hK hret H locs ls hH hS hl
  obtain ⟨hx, hb, hml, hown, hts, hKn, hex, hb0, hlk, hr, hnm⟩ := id C
  exact lv_land hx hb hd (k p e s m args below meth c Qm C hK hret H locs ls hH hS hl)
theorem z_lor {x y : Int64} (hd : decode M.2.2.1 pc = .ok (.lor, 1)) (k : zX w M R Q kc ks (pc + 1) lv (.long (x ||| y) :: st) μ) : zX w M R Q kc ks pc lv (.long y :: .long x :: st) μ := by
  intro p e s m args below meth c Qm C hK hret H locs ls hH hS hl
  obtain ⟨hx, hb, hml, hown, hts, hKn, hex, hb0, hlk, hr, hnm⟩ := id C
  exact lv_lor hx hb hd (k p e s m args below meth c Qm C hK hret H locs ls hH hS hl)
theorem z_lxor {x y : Int64} (hd : decode M.2.2.1 pc = .ok (.lxor, 1)) (k : zX w M R Q kc ks (pc + 1) lv (.long (x ^^^ y) :: st) μ) : zX w M R Q kc ks pc lv (.long y :: .long x :: st) μ := by
  intro p e s m args below meth c Qm C hK hret H locs ls hH hS hl
  obtain ⟨hx, hb, hml, hown, hts, hKn, hex, hb0, hlk, hr, hnm⟩ := id C
  exact lv_lxor hx hb hd (k p e s m args below meth c Qm C hK hret H locs ls hH hS hl)
theorem z_idiv {x y : Int32} (hd : decode M.2.2.1 pc = .ok (.idiv, 1)) (hne : ¬ y = 0) (k : zX w M R Q kc ks (pc + 1) lv (.int (x / y) :: st) μ) : zX w M R Q kc ks pc lv (.int y :: .int x :: st) μ := by
  intro p e s m args below meth c Qm C hK hret H locs ls hH hS hl
  obtain ⟨hx, hb, hml, hown, hts, hKn, hex, hb0, hlk, hr, hnm⟩ := id C
  exact lv_idiv hx hb hd hne (k p e s m args below meth c Qm C hK hret H locs ls hH hS hl)
theorem z_irem {x y : Int32} (hd : decode M.2.2.1 pc = .ok (.irem, 1)) (hne : ¬ y = 0) (k : zX w M R Q kc ks (pc + 1) lv (.int (x - x / y * y) :: st) μ) : zX w M R Q kc ks pc lv (.int y :: .int x :: st) μ := by
  intro p e s m args below meth c Qm C hK hret H locs ls hH hS hl
  obtain ⟨hx, hb, hml, hown, hts, hKn, hex, hb0, hlk, hr, hnm⟩ := id C
  exact lv_irem hx hb hd hne (k p e s m args below meth c Qm C hK hret H locs ls hH hS hl)
theorem z_ldiv {x y : Int64} (hd : decode M.2.2.1 pc = .ok (.ldiv, 1)) (hne : ¬ y = 0) (k : zX w M R Q kc ks (pc + 1) lv (.long (x / y) :: st) μ) : zX w M R Q kc ks pc lv (.long y :: .long x :: st) μ := by
  intro p e s m args below meth c Qm C hK hret H locs ls hH hS hl
  obtain ⟨hx, hb, hml, hown, hts, hKn, hex, hb0, hlk, hr, hnm⟩ := id C
  exact lv_ldiv hx hb hd hne (k p e s m args below meth c Qm C hK hret H locs ls hH hS hl)
theorem z_lrem {x y : Int64} (hd : decode M.2.2.1 pc = .ok (.lrem, 1)) (hne : ¬ y = 0) (k : zX w M R Q kc ks (pc + 1) lv (.long (x - x / y * y) :: st) μ) : zX w M R Q kc ks pc lv (.long y :: .long x :: st) μ := by
  intro p e s m args below meth c Qm C hK hret H locs ls hH hS hl
  obtain ⟨hx, hb, hml, hown, hts, hKn, hex, hb0, hlk, hr, hnm⟩ := id C
  exact lv_lrem hx hb hd hne (k p e s m args below meth c Qm C hK hret H locs ls hH hS hl)
theorem z_ineg {x : Int32} (hd : decode M.2.2.1 pc = .ok (.ineg, 1)) (k : zX w M R Q kc ks (pc + 1) lv (.int (-x) :: st) μ) : zX w M R Q kc ks pc lv (.int x :: st) μ := by
  intro p e s m args below meth c Qm C hK hret H locs ls hH hS hl
  obtain ⟨hx, hb, hml, hown, hts, hKn, hex, hb0, hlk, hr, hnm⟩ := id C
  exact lv_ineg hx hb hd (k p e s m args below meth c Qm C hK hret H locs ls hH hS hl)
theorem z_lneg {x : Int64} (hd : decode M.2.2.1 pc = .ok (.lneg, 1)) (k : zX w M R Q kc ks (pc + 1) lv (.long (-x) :: st) μ) : zX w M R Q kc ks pc lv (.long x :: st) μ := by
  intro p e s m args below meth c Qm C hK hret H locs ls hH hS hl
  obtain ⟨hx, hb, hml, hown, hts, hKn, hex, hb0, hlk, hr, hnm⟩ := id C
  exact lv_lneg hx hb hd (k p e s m args below meth c Qm C hK hret H locs ls hH hS hl)
theorem z_ishl {x y : Int32} (hd : decode M.2.2.1 pc = .ok (.ishl, 1)) (k : zX w M R Q kc ks (pc + 1) lv (.int (x <<< (y &&& 31)) :: st) μ) : zX w M R Q kc ks pc lv (.int y :: .int x :: st) μ := by
  intro p e s m args below meth c Qm C hK hret H locs ls hH hS hl
  obtain ⟨hx, hb, hml, hown, hts, hKn, hex, hb0, hlk, hr, hnm⟩ := id C
  exact lv_ishl hx hb hd (k p e s m args below meth c Qm C hK hret H locs ls hH hS hl)
theorem z_ishr {x y : Int32} (hd : decode M.2.2.1 pc = .ok (.ishr, 1)) (k : zX w M R Q kc ks (pc + 1) lv (.int (x >>> (y &&& 31)) :: st) μ) : zX w M R Q kc ks pc lv (.int y :: .int x :: st) μ := by
  intro p e s m args below meth c Qm C hK hret H locs ls hH hS hl
  obtain ⟨hx, hb, hml, hown, hts, hKn, hex, hb0, hlk, hr, hnm⟩ := id C
  exact lv_ishr hx hb hd (k p e s m args below meth c Qm C hK hret H locs ls hH hS hl)
theorem z_i2l {x : Int32} (hd : decode M.2.2.1 pc = .ok (.i2l, 1)) (k : zX w M R Q kc ks (pc + 1) lv (.long x.toInt64 :: st) μ) : zX w M R Q kc ks pc lv (.int x :: st) μ := by
  intro p e s m args below meth c Qm C hK hret H locs ls hH hS hl
  obtain ⟨hx, hb, hml, hown, hts, hKn, hex, hb0, hlk, hr, hnm⟩ := id C
  exact lv_i2l hx hb hd rfl (k p e s m args below meth c Qm C hK hret H locs ls hH hS hl)
theorem z_l2i {x : Int64} (hd : decode M.2.2.1 pc = .ok (.l2i, 1)) (k : zX w M R Q kc ks (pc + 1) lv (.int x.toInt32 :: st) μ) : zX w M R Q kc ks pc lv (.long x :: st) μ := by
  intro p e s m args below meth c Qm C hK hret H locs ls hH hS hl
  obtain ⟨hx, hb, hml, hown, hts, hKn, hex, hb0, hlk, hr, hnm⟩ := id C
  exact lv_l2i hx hb hd rfl (k p e s m args below meth c Qm C hK hret H locs ls hH hS hl)
theorem z_i2b {x : Int32} (hd : decode M.2.2.1 pc = .ok (.i2b, 1)) (k : zX w M R Q kc ks (pc + 1) lv (.int x.toInt8.toInt32 :: st) μ) : zX w M R Q kc ks pc lv (.int x :: st) μ := by
  intro p e s m args below meth c Qm C hK hret H locs ls hH hS hl
  obtain ⟨hx, hb, hml, hown, hts, hKn, hex, hb0, hlk, hr, hnm⟩ := id C
  exact lv_i2b hx hb hd rfl (k p e s m args below meth c Qm C hK hret H locs ls hH hS hl)
theorem z_lushr {x : Int64} {y : Int32} (hd : decode M.2.2.1 pc = .ok (.lushr, 1)) (k : zX w M R Q kc ks (pc + 1) lv (.long (x.toUInt64 >>> (y.toInt64.toUInt64 &&& Int64.toUInt64 63)).toInt64 :: st) μ) : zX w M R Q kc ks pc lv (.int y :: .long x :: st) μ := by
  intro p e s m args below meth c Qm C hK hret H locs ls hH hS hl
  obtain ⟨hx, hb, hml, hown, hts, hKn, hex, hb0, hlk, hr, hnm⟩ := id C
  exact lv_lushr hx hb hd rfl (k p e s m args below meth c Qm C hK hret H locs ls hH hS hl)
theorem z_lshl {x : Int64} {y : Int32} (hd : decode M.2.2.1 pc = .ok (.lshl, 1)) (k : zX w M R Q kc ks (pc + 1) lv (.long (x <<< (y.toInt64 &&& 63)) :: st) μ) : zX w M R Q kc ks pc lv (.int y :: .long x :: st) μ := by
  intro p e s m args below meth c Qm C hK hret H locs ls hH hS hl
  obtain ⟨hx, hb, hml, hown, hts, hKn, hex, hb0, hlk, hr, hnm⟩ := id C
  exact lv_lshl hx hb hd rfl (k p e s m args below meth c Qm C hK hret H locs ls hH hS hl)
theorem z_lshr {x : Int64} {y : Int32} (hd : decode M.2.2.1 pc = .ok (.lshr, 1)) (k : zX w M R Q kc ks (pc + 1) lv (.long (x >>> (y.toInt64 &&& 63)) :: st) μ) : zX w M R Q kc ks pc lv (.int y :: .long x :: st) μ := by
  intro p e s m args below meth c Qm C hK hret H locs ls hH hS hl
  obtain ⟨hx, hb, hml, hown, hts, hKn, hex, hb0, hlk, hr, hnm⟩ := id C
  exact lv_lshr hx hb hd rfl (k p e s m args below meth c Qm C hK hret H locs ls hH hS hl)
theorem z_lcmp {x y : Int64} (hd : decode M.2.2.1 pc = .ok (.lcmp, 1)) (k : zX w M R Q kc ks (pc + 1) lv (.int (lg_cmp x y) :: st) μ) : zX w M R Q kc ks pc lv (.long y :: .long x :: st) μ := by
  intro p e s m args below meth c Qm C hK hret H locs ls hH hS hl
  obtain ⟨hx, hb, hml, hown, hts, hKn, hex, hb0, hlk, hr, hnm⟩ := id C
  exact W.lcmp hx hb hd (k p e s m args below meth c Qm C hK hret H locs ls hH hS hl)
theorem z_dup {v : Value} (hd : decode M.2.2.1 pc = .ok (.dup, 1)) (h1 : v.category = 1) (k : zX w M R Q kc ks (pc + 1) lv (v :: v :: st) μ) : zX w M R Q kc ks pc lv (v :: st) μ := by
  intro p e s m args below meth c Qm C hK hret H locs ls hH hS hl
  obtain ⟨hx, hb, hml, hown, hts, hKn, hex, hb0, hlk, hr, hnm⟩ := id C
  exact lv_dup hx hb hd (by rw [zCv_cat]; exact h1) (k p e s m args below meth c Qm C hK hret H locs ls hH hS hl)
theorem z_pop {v : Value} (hd : decode M.2.2.1 pc = .ok (.pop, 1)) (h1 : v.category = 1) (k : zX w M R Q kc ks (pc + 1) lv (st) μ) : zX w M R Q kc ks pc lv (v :: st) μ := by
  intro p e s m args below meth c Qm C hK hret H locs ls hH hS hl
  obtain ⟨hx, hb, hml, hown, hts, hKn, hex, hb0, hlk, hr, hnm⟩ := id C
  exact lv_pop hx hb hd (by rw [zCv_cat]; exact h1) (k p e s m args below meth c Qm C hK hret H locs ls hH hS hl)
theorem z_dup2_2 {v : Value} (hd : decode M.2.2.1 pc = .ok (.dup2, 1)) (h1 : v.category = 2) (k : zX w M R Q kc ks (pc + 1) lv (v :: v :: st) μ) : zX w M R Q kc ks pc lv (v :: st) μ := by
  intro p e s m args below meth c Qm C hK hret H locs ls hH hS hl
  obtain ⟨hx, hb, hml, hown, hts, hKn, hex, hb0, hlk, hr, hnm⟩ := id C
  exact lv_dup2_2 hx hb hd (by rw [zCv_cat]; exact h1) (k p e s m args below meth c Qm C hK hret H locs ls hH hS hl)
theorem z_dup2_11 {v u : Value} (hd : decode M.2.2.1 pc = .ok (.dup2, 1)) (h1 : v.category = 1) (h2 : u.category = 1) (k : zX w M R Q kc ks (pc + 1) lv (v :: u :: v :: u :: st) μ) : zX w M R Q kc ks pc lv (v :: u :: st) μ := by
  intro p e s m args below meth c Qm C hK hret H locs ls hH hS hl
  obtain ⟨hx, hb, hml, hown, hts, hKn, hex, hb0, hlk, hr, hnm⟩ := id C
  exact lv_dup2_11 hx hb hd (by rw [zCv_cat]; exact h1) (by rw [zCv_cat]; exact h2) (k p e s m args below meth c Qm C hK hret H locs ls hH hS hl)
theorem z_pop2_2 {v : Value} (hd : decode M.2.2.1 pc = .ok (.pop2, 1)) (h1 : v.category = 2) (k : zX w M R Q kc ks (pc + 1) lv (st) μ) : zX w M R Q kc ks pc lv (v :: st) μ := by
  intro p e s m args below meth c Qm C hK hret H locs ls hH hS hl
  obtain ⟨hx, hb, hml, hown, hts, hKn, hex, hb0, hlk, hr, hnm⟩ := id C
  exact lv_pop2_2 hx hb hd (by rw [zCv_cat]; exact h1) (k p e s m args below meth c Qm C hK hret H locs ls hH hS hl)
theorem z_pop2_11 {v u : Value} (hd : decode M.2.2.1 pc = .ok (.pop2, 1)) (h1 : v.category = 1) (h2 : u.category = 1) (k : zX w M R Q kc ks (pc + 1) lv (st) μ) : zX w M R Q kc ks pc lv (v :: u :: st) μ := by
  intro p e s m args below meth c Qm C hK hret H locs ls hH hS hl
  obtain ⟨hx, hb, hml, hown, hts, hKn, hex, hb0, hlk, hr, hnm⟩ := id C
  exact lv_pop2_11 hx hb hd (by rw [zCv_cat]; exact h1) (by rw [zCv_cat]; exact h2) (k p e s m args below meth c Qm C hK hret H locs ls hH hS hl)
theorem z_dup_x1 {v u : Value} (hd : decode M.2.2.1 pc = .ok (.dup_x1, 1)) (h1 : v.category = 1) (h2 : u.category = 1) (k : zX w M R Q kc ks (pc + 1) lv (v :: u :: v :: st) μ) : zX w M R Q kc ks pc lv (v :: u :: st) μ := by
  intro p e s m args below meth c Qm C hK hret H locs ls hH hS hl
  obtain ⟨hx, hb, hml, hown, hts, hKn, hex, hb0, hlk, hr, hnm⟩ := id C
  exact lv_dup_x1 hx hb hd (by rw [zCv_cat]; exact h1) (by rw [zCv_cat]; exact h2) (k p e s m args below meth c Qm C hK hret H locs ls hH hS hl)
theorem z_if_eq {x : Int32} {off : Int} {tgt : Nat} (hd : decode M.2.2.1 pc = .ok (.ifCond .eq off, 3)) (ht : (pc : Int) + off = (tgt : Int)) (kt : x = 0 → zX w M R Q kc ks tgt lv st μ) (kf : ¬ x = 0 → zX w M R Q kc ks (pc + 3) lv st μ) : zX w M R Q kc ks pc lv (.int x :: st) μ := by
  intro p e s m args below meth c Qm C hK hret H locs ls hH hS hl
  obtain ⟨hx, hb, hml, hown, hts, hKn, hex, hb0, hlk, hr, hnm⟩ := id C
  exact lv_if_eq hx hb hd ht (fun h => kt h p e s m args below meth c Qm C hK hret H locs ls hH hS hl) (fun h => kf h p e s m args below meth c Qm C hK hret H locs ls hH hS hl)
theorem z_icmp_eq {x y : Int32} {off : Int} {tgt : Nat} (hd : decode M.2.2.1 pc = .ok (.if_icmp .eq off, 3)) (ht : (pc : Int) + off = (tgt : Int)) (kt : x = y → zX w M R Q kc ks tgt lv st μ) (kf : ¬ x = y → zX w M R Q kc ks (pc + 3) lv st μ) : zX w M R Q kc ks pc lv (.int y :: .int x :: st) μ := by
  intro p e s m args below meth c Qm C hK hret H locs ls hH hS hl
  obtain ⟨hx, hb, hml, hown, hts, hKn, hex, hb0, hlk, hr, hnm⟩ := id C
  exact lv_icmp_eq hx hb hd ht (fun h => kt h p e s m args below meth c Qm C hK hret H locs ls hH hS hl) (fun h => kf h p e s m args below meth c Qm C hK hret H locs ls hH hS hl)
theorem z_if_ne {x : Int32} {off : Int} {tgt : Nat} (hd : decode M.2.2.1 pc = .ok (.ifCond .ne off, 3)) (ht : (pc : Int) + off = (tgt : Int)) (kt : ¬ x = 0 → zX w M R Q kc ks tgt lv st μ) (kf : x = 0 → zX w M R Q kc ks (pc + 3) lv st μ) : zX w M R Q kc ks pc lv (.int x :: st) μ := by
  intro p e s m args below meth c Qm C hK hret H locs ls hH hS hl
  obtain ⟨hx, hb, hml, hown, hts, hKn, hex, hb0, hlk, hr, hnm⟩ := id C
  exact lv_if_ne hx hb hd ht (fun h => kt h p e s m args below meth c Qm C hK hret H locs ls hH hS hl) (fun h => kf h p e s m args below meth c Qm C hK hret H locs ls hH hS hl)
theorem z_icmp_ne {x y : Int32} {off : Int} {tgt : Nat} (hd : decode M.2.2.1 pc = .ok (.if_icmp .ne off, 3)) (ht : (pc : Int) + off = (tgt : Int)) (kt : ¬ x = y → zX w M R Q kc ks tgt lv st μ) (kf : x = y → zX w M R Q kc ks (pc + 3) lv st μ) : zX w M R Q kc ks pc lv (.int y :: .int x :: st) μ := by
  intro p e s m args below meth c Qm C hK hret H locs ls hH hS hl
  obtain ⟨hx, hb, hml, hown, hts, hKn, hex, hb0, hlk, hr, hnm⟩ := id C
  exact lv_icmp_ne hx hb hd ht (fun h => kt h p e s m args below meth c Qm C hK hret H locs ls hH hS hl) (fun h => kf h p e s m args below meth c Qm C hK hret H locs ls hH hS hl)
theorem z_if_lt {x : Int32} {off : Int} {tgt : Nat} (hd : decode M.2.2.1 pc = .ok (.ifCond .lt off, 3)) (ht : (pc : Int) + off = (tgt : Int)) (kt : x < 0 → zX w M R Q kc ks tgt lv st μ) (kf : ¬ x < 0 → zX w M R Q kc ks (pc + 3) lv st μ) : zX w M R Q kc ks pc lv (.int x :: st) μ := by
  intro p e s m args below meth c Qm C hK hret H locs ls hH hS hl
  obtain ⟨hx, hb, hml, hown, hts, hKn, hex, hb0, hlk, hr, hnm⟩ := id C
  exact lv_if_lt hx hb hd ht (fun h => kt h p e s m args below meth c Qm C hK hret H locs ls hH hS hl) (fun h => kf h p e s m args below meth c Qm C hK hret H locs ls hH hS hl)
theorem z_icmp_lt {x y : Int32} {off : Int} {tgt : Nat} (hd : decode M.2.2.1 pc = .ok (.if_icmp .lt off, 3)) (ht : (pc : Int) + off = (tgt : Int)) (kt : x < y → zX w M R Q kc ks tgt lv st μ) (kf : ¬ x < y → zX w M R Q kc ks (pc + 3) lv st μ) : zX w M R Q kc ks pc lv (.int y :: .int x :: st) μ := by
  intro p e s m args below meth c Qm C hK hret H locs ls hH hS hl
  obtain ⟨hx, hb, hml, hown, hts, hKn, hex, hb0, hlk, hr, hnm⟩ := id C
  exact lv_icmp_lt hx hb hd ht (fun h => kt h p e s m args below meth c Qm C hK hret H locs ls hH hS hl) (fun h => kf h p e s m args below meth c Qm C hK hret H locs ls hH hS hl)
theorem z_if_ge {x : Int32} {off : Int} {tgt : Nat} (hd : decode M.2.2.1 pc = .ok (.ifCond .ge off, 3)) (ht : (pc : Int) + off = (tgt : Int)) (kt : 0 ≤ x → zX w M R Q kc ks tgt lv st μ) (kf : ¬ 0 ≤ x → zX w M R Q kc ks (pc + 3) lv st μ) : zX w M R Q kc ks pc lv (.int x :: st) μ := by
  intro p e s m args below meth c Qm C hK hret H locs ls hH hS hl
  obtain ⟨hx, hb, hml, hown, hts, hKn, hex, hb0, hlk, hr, hnm⟩ := id C
  exact lv_if_ge hx hb hd ht (fun h => kt h p e s m args below meth c Qm C hK hret H locs ls hH hS hl) (fun h => kf h p e s m args below meth c Qm C hK hret H locs ls hH hS hl)
theorem z_icmp_ge {x y : Int32} {off : Int} {tgt : Nat} (hd : decode M.2.2.1 pc = .ok (.if_icmp .ge off, 3)) (ht : (pc : Int) + off = (tgt : Int)) (kt : y ≤ x → zX w M R Q kc ks tgt lv st μ) (kf : ¬ y ≤ x → zX w M R Q kc ks (pc + 3) lv st μ) : zX w M R Q kc ks pc lv (.int y :: .int x :: st) μ := by
  intro p e s m args below meth c Qm C hK hret H locs ls hH hS hl
  obtain ⟨hx, hb, hml, hown, hts, hKn, hex, hb0, hlk, hr, hnm⟩ := id C
  exact lv_icmp_ge hx hb hd ht (fun h => kt h p e s m args below meth c Qm C hK hret H locs ls hH hS hl) (fun h => kf h p e s m args below meth c Qm C hK hret H locs ls hH hS hl)
theorem z_if_gt {x : Int32} {off : Int} {tgt : Nat} (hd : decode M.2.2.1 pc = .ok (.ifCond .gt off, 3)) (ht : (pc : Int) + off = (tgt : Int)) (kt : 0 < x → zX w M R Q kc ks tgt lv st μ) (kf : ¬ 0 < x → zX w M R Q kc ks (pc + 3) lv st μ) : zX w M R Q kc ks pc lv (.int x :: st) μ := by
  intro p e s m args below meth c Qm C hK hret H locs ls hH hS hl
  obtain ⟨hx, hb, hml, hown, hts, hKn, hex, hb0, hlk, hr, hnm⟩ := id C
  exact lv_if_gt hx hb hd ht (fun h => kt h p e s m args below meth c Qm C hK hret H locs ls hH hS hl) (fun h => kf h p e s m args below meth c Qm C hK hret H locs ls hH hS hl)
theorem z_icmp_gt {x y : Int32} {off : Int} {tgt : Nat} (hd : decode M.2.2.1 pc = .ok (.if_icmp .gt off, 3)) (ht : (pc : Int) + off = (tgt : Int)) (kt : y < x → zX w M R Q kc ks tgt lv st μ) (kf : ¬ y < x → zX w M R Q kc ks (pc + 3) lv st μ) : zX w M R Q kc ks pc lv (.int y :: .int x :: st) μ := by
  intro p e s m args below meth c Qm C hK hret H locs ls hH hS hl
  obtain ⟨hx, hb, hml, hown, hts, hKn, hex, hb0, hlk, hr, hnm⟩ := id C
  exact lv_icmp_gt hx hb hd ht (fun h => kt h p e s m args below meth c Qm C hK hret H locs ls hH hS hl) (fun h => kf h p e s m args below meth c Qm C hK hret H locs ls hH hS hl)
theorem z_if_le {x : Int32} {off : Int} {tgt : Nat} (hd : decode M.2.2.1 pc = .ok (.ifCond .le off, 3)) (ht : (pc : Int) + off = (tgt : Int)) (kt : x ≤ 0 → zX w M R Q kc ks tgt lv st μ) (kf : ¬ x ≤ 0 → zX w M R Q kc ks (pc + 3) lv st μ) : zX w M R Q kc ks pc lv (.int x :: st) μ := by
  intro p e s m args below meth c Qm C hK hret H locs ls hH hS hl
  obtain ⟨hx, hb, hml, hown, hts, hKn, hex, hb0, hlk, hr, hnm⟩ := id C
  exact lv_if_le hx hb hd ht (fun h => kt h p e s m args below meth c Qm C hK hret H locs ls hH hS hl) (fun h => kf h p e s m args below meth c Qm C hK hret H locs ls hH hS hl)
theorem z_icmp_le {x y : Int32} {off : Int} {tgt : Nat} (hd : decode M.2.2.1 pc = .ok (.if_icmp .le off, 3)) (ht : (pc : Int) + off = (tgt : Int)) (kt : x ≤ y → zX w M R Q kc ks tgt lv st μ) (kf : ¬ x ≤ y → zX w M R Q kc ks (pc + 3) lv st μ) : zX w M R Q kc ks pc lv (.int y :: .int x :: st) μ := by
  intro p e s m args below meth c Qm C hK hret H locs ls hH hS hl
  obtain ⟨hx, hb, hml, hown, hts, hKn, hex, hb0, hlk, hr, hnm⟩ := id C
  exact lv_icmp_le hx hb hd ht (fun h => kt h p e s m args below meth c Qm C hK hret H locs ls hH hS hl) (fun h => kf h p e s m args below meth c Qm C hK hret H locs ls hH hS hl)
theorem z_goto {off : Int} {tgt : Nat} (hd : decode M.2.2.1 pc = .ok (.goto off, 3)) (ht : (pc : Int) + off = (tgt : Int)) (k : zX w M R Q kc ks tgt lv st μ) : zX w M R Q kc ks pc lv st μ := by
  intro p e s m args below meth c Qm C hK hret H locs ls hH hS hl
  obtain ⟨hx, hb, hml, hown, hts, hKn, hex, hb0, hlk, hr, hnm⟩ := id C
  exact lv_goto hx hb hd ht (k p e s m args below meth c Qm C hK hret H locs ls hH hS hl)
theorem z_lookup {dflt : Int} {ps : Array (Int × Int)} {len : Nat} {x : Int32} {off : Int} {tgt : Nat} (hd : decode M.2.2.1 pc = .ok (.lookupswitch dflt ps, len)) (hp : (ps.toList.zip (ps.toList.drop 1)).all (fun (a, next) => a.1 < next.1) = true) (ho : Op.lookupswitch.offset ps.toList dflt x.toInt = off) (ht : (pc : Int) + off = (tgt : Int)) (k : zX w M R Q kc ks tgt lv st μ) : zX w M R Q kc ks pc lv (.int x :: st) μ := by
  intro p e s m args below meth c Qm C hK hret H locs ls hH hS hl
  obtain ⟨hx, hb, hml, hown, hts, hKn, hex, hb0, hlk, hr, hnm⟩ := id C
  exact lv_lookup hx hb hd hp ho ht (k p e s m args below meth c Qm C hK hret H locs ls hH hS hl)
theorem z_tableOut {dflt lo hi : Int} {offs : Array Int} {len : Nat} {x : Int32} {tgt : Nat} (hd : decode M.2.2.1 pc = .ok (.tableswitch dflt lo hi offs, len)) (h : x.toInt < lo ∨ hi < x.toInt) (ht : (pc : Int) + dflt = (tgt : Int)) (k : zX w M R Q kc ks tgt lv st μ) : zX w M R Q kc ks pc lv (.int x :: st) μ := by
  intro p e s m args below meth c Qm C hK hret H locs ls hH hS hl
  obtain ⟨hx, hb, hml, hown, hts, hKn, hex, hb0, hlk, hr, hnm⟩ := id C
  exact lv_tableOut hx hb hd h ht (k p e s m args below meth c Qm C hK hret H locs ls hH hS hl)
theorem z_tableIn {dflt lo hi : Int} {offs : Array Int} {len : Nat} {x : Int32} {off : Int} {tgt : Nat} (hd : decode M.2.2.1 pc = .ok (.tableswitch dflt lo hi offs, len)) (h1 : ¬ x.toInt < lo) (h2 : ¬ hi < x.toInt) (ho : offs[(x.toInt - lo).toNat]? = some off) (ht : (pc : Int) + off = (tgt : Int)) (k : zX w M R Q kc ks tgt lv st μ) : zX w M R Q kc ks pc lv (.int x :: st) μ := by
  intro p e s m args below meth c Qm C hK hret H locs ls hH hS hl
  obtain ⟨hx, hb, hml, hown, hts, hKn, hex, hb0, hlk, hr, hnm⟩ := id C
  exact lv_tableIn hx hb hd h1 h2 ho ht (k p e s m args below meth c Qm C hK hret H locs ls hH hS hl)
theorem z_ret {v : Option Value} (hd : decode M.2.2.1 pc = .ok (zRetI v, 1)) (hok : zRetOk M.2.2.2.2 v) (hc : kc ≤ R.cells) (hs : ks ≤ R.slots) (hq : Q v μ) : zX w M R Q kc ks pc lv v.toList μ := by
  intro p e s m args below meth c Qm C hK hret H locs ls hH hS hl
  have h := hret v μ H locs kc ks pc ls hq hok hH hS hc hs hd
  cases v with
  | none => exact h
  | some v => exact h
theorem z_ldc {i : Nat} {v : Int32} (hd : decode M.2.2.1 pc = .ok (.ldc i, 2)) (hw : Cond.constant M.2.1.cls i v ∈ zG) (k : zX w M R Q kc ks (pc + 2) lv (.int v :: st) μ) : zX w M R Q kc ks pc lv st μ := by
  intro p e s m args below meth c Qm C hK hret H locs ls hH hS hl
  obtain ⟨hx, hb, hml, hown, hts, hKn, hex, hb0, hlk, hr, hnm⟩ := id C
  exact W.ldc hx hb hown (hts _ hw) rfl hd (k p e s m args below meth c Qm C hK hret H locs ls hH hS hl)
theorem z_ldcw {i : Nat} {v : Int32} (hd : decode M.2.2.1 pc = .ok (.ldc_w i, 3)) (hw : Cond.constant M.2.1.cls i v ∈ zG) (k : zX w M R Q kc ks (pc + 3) lv (.int v :: st) μ) : zX w M R Q kc ks pc lv st μ := by
  intro p e s m args below meth c Qm C hK hret H locs ls hH hS hl
  obtain ⟨hx, hb, hml, hown, hts, hKn, hex, hb0, hlk, hr, hnm⟩ := id C
  exact lv_ldcw hx hb hown (hts _ hw) hd (k p e s m args below meth c Qm C hK hret H locs ls hH hS hl)
theorem z_ldc2 {i : Nat} {v : Int64} (hd : decode M.2.2.1 pc = .ok (.ldc2_w i, 3)) (hw : Cond.constantLong M.2.1.cls i v ∈ zG) (k : zX w M R Q kc ks (pc + 3) lv (.long v :: st) μ) : zX w M R Q kc ks pc lv st μ := by
  intro p e s m args below meth c Qm C hK hret H locs ls hH hS hl
  obtain ⟨hx, hb, hml, hown, hts, hKn, hex, hb0, hlk, hr, hnm⟩ := id C
  exact W.ldc2 hx hb hown (hts _ hw) rfl hd (k p e s m args below meth c Qm C hK hret H locs ls hH hS hl)
end ZR
