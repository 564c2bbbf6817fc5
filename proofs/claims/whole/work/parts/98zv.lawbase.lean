/-! ===== THE LAW'S LOOP: what its cases stand on ===== -/
abbrev zArgD (pc j : Nat) : Prop := decode cL_law pc = .ok (.aload_n 0, 1) ∧ decode cL_law (pc + 1) = .ok (.iload 4, 2) ∧ decode cL_law (pc + 3) = .ok (.iconst (j : Int), 1) ∧ decode cL_law (pc + 4) = .ok (.iadd, 1) ∧ decode cL_law (pc + 5) = .ok (.iaload, 1)
/-- the loop's locals in its round i -/
def zLl (i : Nat) : zLoc := [(0, .float 50), (1, .ref 0), (2, .ref 87), (3, .ref 139), (4, .int (nI (6 * i)))]
section ZN98zv
variable {w : zP} {M : zMd} {R : Room} {Q : Option Value → zMem → Prop} {kc ks pc : Nat} {lv : zLoc} {st : List Value} {μ : zMem} {L i j : Nat} {xs : Nat → Int32} {nm : String} {a : Value} {rt : Option FieldType}
theorem z_arg (hsc : zSc w L xs) (hL : L ≤ 3072) (hi : 6 * i + 6 ≤ L) (hj : j < 6) (hd : zArgD pc j) (kk : zX w (mL_law nm) R Q kc ks (pc + 6) (zLl i) (.int (xs (6 * i + j)) :: st) μ) : zX w (mL_law nm) R Q kc ks pc (zLl i) st μ := by
  obtain ⟨d1, d2, d3, d4, d5⟩ := hd
  refine z_aload_nT (M := mL_law nm) (i := 0) (x := 50) d1 rfl ?_
  refine z_iload (M := mL_law nm) (x := nI (6 * i)) d2 rfl ?_
  refine z_iconst (M := mL_law nm) d3 ?_
  refine z_iadd (M := mL_law nm) d4 ?_
  have e : nI (6 * i) + Int32.ofInt (j : Int) = nI (6 * i + j) := by rw [show Int32.ofInt (j : Int) = nI j from rfl, nI_add]
  rw [e]
  refine z_sld (M := mL_law nm) hsc (zvn (by omega) (by omega)) d5 ?_
  rw [nI_clamp (by omega)]
  exact kk
theorem zX_ret (h : zX w M R (fun v μ' => zRetOk M.2.2.2.2 v → Q v μ') kc ks pc lv st μ) : zX w M R Q kc ks pc lv st μ := by
  intro p e s m args below meth c Qm C hK hret
  exact h p e s m args below meth c Qm C hK (fun v μ' H' locs' kc' ks' pc' ls' hq hok => hret v μ' H' locs' kc' ks' pc' ls' (hq hok) hok)
theorem zXM_ret {as : List Value} (h : zXM w M R as μ (fun v μ' => zRetOk M.2.2.2.2 v → Q v μ')) : zXM w M R as μ Q := zX_ret h
theorem zRet_i (hn : rt ≠ some .long) (h : zRetOk rt (some a)) : ∃ v, a = .int v := by
  cases a with
  | int v => exact ⟨v, rfl⟩
  | long v => exact absurd h hn
  | _ => exact absurd h (by simp [zRetOk])
end ZN98zv
