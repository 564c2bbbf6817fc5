/-! ===== SEVERAL BLOCKS at once; switches ===== -/
def zFind : List (Nat × List zI) → Nat → Option (List zI)
  | [], _ => none
  | q :: r, pc => if q.1 = pc then some q.2 else zFind r pc
/-- where a jump leads: into a block of the table T, as long as n lasts; else to what 'base' says -/
def zKn (fin : Bool) (nL : Nat) (rt : Option FieldType) (Q : Option Value → zMem → Prop) (T : List (Nat × List zI)) (base : zK) : Nat → zK
  | 0 => base
  | n + 1 => fun pc lv st μ => match zFind T pc with
    | some blk => zRun fin nL rt Q (zKn fin nL rt Q T base n) pc blk lv st μ
    | none => base pc lv st μ
theorem zKn_0 {fin : Bool} {nL : Nat} {rt : Option FieldType} {Q : Option Value → zMem → Prop} {T : List (Nat × List zI)} {base : zK} {pc : Nat} {lv : zLoc} {st : List Value} {μ : zMem} : zKn fin nL rt Q T base 0 pc lv st μ = base pc lv st μ := rfl
theorem zKn_s {fin : Bool} {nL : Nat} {rt : Option FieldType} {Q : Option Value → zMem → Prop} {T : List (Nat × List zI)} {base : zK} {n pc : Nat} {lv : zLoc} {st : List Value} {μ : zMem} : zKn fin nL rt Q T base (n + 1) pc lv st μ = match zFind T pc with
    | some blk => zRun fin nL rt Q (zKn fin nL rt Q T base n) pc blk lv st μ
    | none => base pc lv st μ := rfl
def zChks (fin : Bool) (o : Nat) (cc : ByteArray) (T : List (Nat × List zI)) : Prop := ∀ q ∈ T, zChk fin o cc q.1 q.2 = true
theorem zChks_nil {fin : Bool} {o : Nat} {cc : ByteArray} : zChks fin o cc [] := fun _ h => nomatch h
theorem zChks_cons {fin : Bool} {o : Nat} {cc : ByteArray} {pc : Nat} {b : List zI} {T : List (Nat × List zI)} (h : zChk fin o cc pc b = true) (t : zChks fin o cc T) : zChks fin o cc ((pc, b) :: T) := fun q hq => (List.mem_cons.mp hq).elim (fun e => by rw [e]; exact h) (t q)
theorem zFind_mem : ∀ {T : List (Nat × List zI)} {pc : Nat} {b : List zI}, zFind T pc = some b → (pc, b) ∈ T
  | [], _, _, h => by simp [zFind] at h
  | q :: r, pc, b, h => by
    unfold zFind at h
    split at h
    · rename_i e
      cases h
      subst e
      exact List.mem_cons_self
    · exact List.mem_cons_of_mem _ (zFind_mem h)
section ZKN
variable {w : zP} {M : zMd} {R : Room} {Q : Option Value → zMem → Prop} {kc ks pc nL : Nat} {lv : zLoc} {st : List Value} {μ : zMem} {rt : Option FieldType} {fin : Bool} {T : List (Nat × List zI)}
theorem zKn_ok (ho : M.2.1.cls = zOwn M.1) (hfin : fin = true → M.2.1.name = "<init>") (hkc : kc ≤ R.cells) (hks : ks ≤ R.slots) (hT : zChks fin M.1 M.2.2.1 T) : ∀ (n pc : Nat) (lv : zLoc) (st : List Value) (μ : zMem), zKn fin M.2.2.2.1 M.2.2.2.2 Q T (fun pc' lv st μ => zX w M R Q kc ks pc' lv st μ) n pc lv st μ → zX w M R Q kc ks pc lv st μ
  | 0, _, _, _, _, h => h
  | n + 1, pc, lv, st, μ, h => by
    rw [zKn_s] at h
    split at h
    · rename_i blk e
      exact zRun_ok ho hfin hkc hks (zKn_ok ho hfin hkc hks hT n) blk pc lv st μ (hT _ (zFind_mem e)) h
    · exact h
theorem zBlkN (n : Nat) (hT : zChks false M.1 M.2.2.1 T) (ho : M.2.1.cls = zOwn M.1) (h1 : M.2.2.2.1 = nL) (h2 : M.2.2.2.2 = rt) (h : zKn false nL rt Q T (fun pc' lv st μ => zX w M R Q 0 0 pc' lv st μ) n pc lv st μ) : zX w M R Q 0 0 pc lv st μ := by
  subst h1; subst h2
  exact zKn_ok ho (fun h => by cases h) (Nat.zero_le _) (Nat.zero_le _) hT n pc lv st μ h
theorem zBlkNC (n : Nat) (hT : zChks true M.1 M.2.2.1 T) (ho : M.2.1.cls = zOwn M.1) (h1 : M.2.2.2.1 = nL) (h2 : M.2.2.2.2 = rt) (hn : M.2.1.name = "<init>") (hkc : kc ≤ R.cells) (hks : ks ≤ R.slots) (h : zKn true nL rt Q T (fun pc' lv st μ => zX w M R Q kc ks pc' lv st μ) n pc lv st μ) : zX w M R Q kc ks pc lv st μ := by
  subst h1; subst h2
  exact zKn_ok ho (fun _ => hn) hkc hks hT n pc lv st μ h
/-- a block of a method that was given new cells ahead -/
theorem zBlkNA (n : Nat) (hT : zChks false M.1 M.2.2.1 T) (ho : M.2.1.cls = zOwn M.1) (h1 : M.2.2.2.1 = nL) (h2 : M.2.2.2.2 = rt) (hkc : kc ≤ R.cells) (hks : ks ≤ R.slots) (h : zKn false nL rt Q T (fun pc' lv st μ => zX w M R Q kc ks pc' lv st μ) n pc lv st μ) : zX w M R Q kc ks pc lv st μ := by
  subst h1; subst h2
  exact zKn_ok ho (fun h => by cases h) hkc hks hT n pc lv st μ h
/-- a switch -/
def zSw (x : Int32) (K : Nat → Prop) (dt : Nat) : List (Int32 × Nat) → Prop
  | [] => K dt
  | q :: r => (x = q.1 → K q.2) ∧ (¬ x = q.1 → zSw x K dt r)
theorem zSw_nil {x : Int32} {K : Nat → Prop} {dt : Nat} : zSw x K dt [] = K dt := rfl
theorem zSw_cons {x c : Int32} {K : Nat → Prop} {dt t : Nat} {r : List (Int32 × Nat)} : zSw x K dt ((c, t) :: r) = ((x = c → K t) ∧ (¬ x = c → zSw x K dt r)) := rfl
def zSwL (pc : Nat) : List (Int × Int) → List (Int32 × Nat) → Bool
  | [], [] => true
  | (a, o) :: l, (c, t) :: r => decide (c.toInt = a) && decide ((pc : Int) + o = (t : Int)) && zSwL pc l r
  | _, _ => false
theorem zSwL_ok {x : Int32} {K : Nat → Prop} {dt : Nat} {d : Int} (hd : (pc : Int) + d = (dt : Int)) : ∀ (l : List (Int × Int)) (r : List (Int32 × Nat)), zSwL pc l r = true → zSw x K dt r → ∃ off tgt : _, Op.lookupswitch.offset l d x.toInt = off ∧ (pc : Int) + off = ((tgt : Nat) : Int) ∧ K tgt
  | [], [], _, h => ⟨d, dt, rfl, hd, h⟩
  | (a, o) :: l, (c, t) :: r, hc, h => by
    simp only [zSwL, Bool.and_eq_true, decide_eq_true_eq] at hc
    obtain ⟨⟨h1, h2⟩, h3⟩ := hc
    rw [Op.lookupswitch.offset_cons]
    by_cases hx : x = c
    · exact ⟨o, t, if_pos (by rw [hx, h1]), h2, h.1 hx⟩
    · obtain ⟨off, tgt, e1, e2, e3⟩ := zSwL_ok hd l r h3 (h.2 hx)
      refine ⟨off, tgt, ?_, e2, e3⟩
      rw [if_neg, e1]
      intro q
      exact hx (Int32.toInt_inj.mp (by rw [h1]; exact q.symm))
  | [], _ :: _, hc, _ => by simp [zSwL] at hc
  | _ :: _, [], hc, _ => by simp [zSwL] at hc
theorem z_lsw {dflt : Int} {ps : Array (Int × Int)} {len dt : Nat} {x : Int32} (r : List (Int32 × Nat)) (hd : decode M.2.2.1 pc = .ok (.lookupswitch dflt ps, len)) (hp : (ps.toList.zip (ps.toList.drop 1)).all (fun (a, next) => a.1 < next.1) = true) (hdt : (pc : Int) + dflt = (dt : Int)) (hc : zSwL pc ps.toList r = true) (h : zSw x (fun t => zX w M R Q kc ks t lv st μ) dt r) : zX w M R Q kc ks pc lv (.int x :: st) μ := by
  obtain ⟨off, tgt, e1, e2, e3⟩ := zSwL_ok hdt ps.toList r hc h
  exact z_lookup hd hp e1 e2 e3
def zSwT (pc : Nat) (lo : Int) : List Int → List (Int32 × Nat) → Bool
  | [], [] => true
  | o :: l, (c, t) :: r => decide (c.toInt = lo) && decide ((pc : Int) + o = (t : Int)) && zSwT pc (lo + 1) l r
  | _, _ => false
theorem zSwT_ok {x : Int32} {K : Nat → Prop} {dt : Nat} : ∀ (l : List Int) (lo : Int) (r : List (Int32 × Nat)), zSwT pc lo l r = true → zSw x K dt r → ((x.toInt < lo ∨ lo + l.length ≤ x.toInt) ∧ K dt) ∨ (lo ≤ x.toInt ∧ x.toInt < lo + l.length ∧ ∃ off tgt : _, l[(x.toInt - lo).toNat]? = some off ∧ (pc : Int) + off = ((tgt : Nat) : Int) ∧ K tgt)
  | [], lo, [], _, h => Or.inl ⟨by simp; omega, h⟩
  | o :: l, lo, (c, t) :: r, hc, h => by
    simp only [zSwT, Bool.and_eq_true, decide_eq_true_eq] at hc
    obtain ⟨⟨h1, h2⟩, h3⟩ := hc
    by_cases hx : x = c
    · subst hx
      refine Or.inr ⟨by omega, by simp; omega, o, t, ?_, h2, h.1 rfl⟩
      rw [h1]
      simp
    · have hne : x.toInt ≠ lo := fun q => hx (Int32.toInt_inj.mp (by rw [h1]; exact q))
      rcases zSwT_ok l (lo + 1) r h3 (h.2 hx) with ⟨h4, h5⟩ | ⟨h4, h5, off, tgt, e1, e2, e3⟩
      · refine Or.inl ⟨?_, h5⟩
        simp only [List.length_cons, Int.natCast_add, Int.natCast_one]
        omega
      · refine Or.inr ⟨by omega, by simp only [List.length_cons, Int.natCast_add, Int.natCast_one]; omega, off, tgt, ?_, e2, e3⟩
        have e : (x.toInt - lo).toNat = (x.toInt - (lo + 1)).toNat + 1 := by omega
        rw [e, List.getElem?_cons_succ]
        exact e1
  | [], _, _ :: _, hc, _ => by simp [zSwT] at hc
  | _ :: _, _, [], hc, _ => by simp [zSwT] at hc
theorem z_tsw {dflt lo hi : Int} {offs : Array Int} {len dt : Nat} {x : Int32} (r : List (Int32 × Nat)) (hd : decode M.2.2.1 pc = .ok (.tableswitch dflt lo hi offs, len)) (hhi : hi = lo + (offs.toList.length : Int) - 1) (hdt : (pc : Int) + dflt = (dt : Int)) (hc : zSwT pc lo offs.toList r = true) (h : zSw x (fun t => zX w M R Q kc ks t lv st μ) dt r) : zX w M R Q kc ks pc lv (.int x :: st) μ := by
  rcases zSwT_ok offs.toList lo r hc h with ⟨h1, h2⟩ | ⟨h1, h2, off, tgt, e1, e2, e3⟩
  · exact z_tableOut hd (by omega) hdt h2
  · exact z_tableIn hd (by omega) (by omega) (by rw [← Array.getElem?_toList]; exact e1) e2 e3
end ZKN
