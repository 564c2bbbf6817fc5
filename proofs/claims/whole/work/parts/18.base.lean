/-! ===== PURE HELP ===== -/
theorem zu_at {α : Type} (f : Nat → Nat → α) (i k : Nat) (v : α) (a b : Nat) : zu f i k v a b = if a = i ∧ b = k then v else f a b := rfl
theorem zu_rd {α : Type} (f : Nat → Nat → α) (i k : Nat) (v : α) (a : Nat) : zu f i k v a = if a = i then (fun b => if b = k then v else f i b) else f a := by
  funext b
  by_cases h : a = i
  · subst h; simp [zu]
  · simp [zu, h]
/-- how many of the first n are so -/
def zCnt (P : Nat → Bool) : Nat → Nat
  | 0 => 0
  | n + 1 => zCnt P n + (if P n = true then 1 else 0)
theorem zCnt_le (P : Nat → Bool) : ∀ n, zCnt P n ≤ n
  | 0 => Nat.le_refl _
  | n + 1 => by
    have h := zCnt_le P n
    unfold zCnt
    split <;> omega
theorem nI_lit40 : (40 : Int32) = nI 40 := rfl
theorem zle_nat {a b : Nat} (ha : a < 2 ^ 31) (hb : b < 2 ^ 31) : (nI a ≤ nI b) = (a ≤ b) := propext (nI_leI ha hb)
theorem zlt_nat {a b : Nat} (ha : a < 2 ^ 31) (hb : b < 2 ^ 31) : (nI a < nI b) = (a < b) := propext (nI_ltI ha hb)
theorem zeq_nat {a b : Nat} (ha : a < 2 ^ 31) (hb : b < 2 ^ 31) : (nI a = nI b) = (a = b) := propext (nI_eq ha hb)
theorem zCnt_t {P : Nat → Bool} {n : Nat} (h : P n = true) : zCnt P (n + 1) = zCnt P n + 1 := by simp [zCnt, h]
theorem zCnt_f {P : Nat → Bool} {n : Nat} (h : P n = false) : zCnt P (n + 1) = zCnt P n := by simp [zCnt, h]
/-- a loop that counts up to n -/
theorem zLoop {P : Nat → Prop} {n : Nat} (h : ∀ c, c ≤ n → (c < n → P (c + 1)) → P c) : ∀ c, c ≤ n → P c := by
  have key : ∀ k c, c + k = n → P c := by
    intro k
    induction k with
    | zero => intro c hc; exact h c (by omega) (fun hl => absurd hl (by omega))
    | succ k ih => intro c hc; exact h c (by omega) (fun _ => ih (c + 1) (by omega))
  exact fun c hc => key (n - c) c (by omega)
theorem zvp {i : Int32} {n : Nat} (h : (decide (0 ≤ i.toInt) && decide (i.toInt < n)) = true) : vp_in i n := by
  simp only [Bool.and_eq_true, decide_eq_true_eq] at h
  exact vp_in_iff.mpr h
theorem zvn {j n : Nat} (h : j < n) (hn : n < 2 ^ 31) : vp_in (nI j) n := vp_in_nI h hn
theorem nI_a0 (x : Int32) : x + 0 = x := Int32.add_zero x
theorem zKdZ : zKd .boolean = 0 := rfl
theorem zKdO (C : String) : zKd (.object C) = 2 := rfl
theorem zB01 : ((0 : Int32) = 0 ∨ (0 : Int32) = 1) = True := by simp
theorem zB11 : ((1 : Int32) = 0 ∨ (1 : Int32) = 1) = True := by simp
def zRow {α : Type} (f : Nat → Nat → α) (a : Nat) (r : Nat → α) : Nat → Nat → α := fun x => if x = a then r else f x
theorem zRow_rd {α : Type} (f : Nat → Nat → α) (a : Nat) (r : Nat → α) (x : Nat) : zRow f a r x = if x = a then r else f x := rfl
section ZM0
variable {w : zP} {M M' : zMd} {R R' : Room} {Q : Option Value → zMem → Prop} {kc ks pc : Nat} {lv : zLoc} {st : List Value} {μ : zMem}
theorem z_cV0 {i ci idx : Nat} (As rest : List Value) (me : zMeV M' As.length ci) (lk : Cond.methodLink M.2.1.cls idx M'.2.1 ∈ zG) (hd : decode M.2.2.1 pc = .ok (.invokevirtual idx, 3)) (hln : (lg_sl (.ref i :: As)).length ≤ M'.2.2.2.1) (hfit : zFit R R' M' kc ks (rest.map fun v => v.category).sum) (hst : st = As.reverse ++ .ref i :: rest) (h0 : R'.cells = 0) (h1 : R'.slots = 0) (hsh : μ.1[i]? = some (.inr ci)) (h : zXM w M' R' (.ref i :: As) μ (fun v μ' => zX w M R Q kc ks (pc + 3) lv (v.toList ++ rest) μ')) : zX w M R Q kc ks pc lv st μ :=
  z_cV As rest me lk hd hln hfit hst hsh (by rw [h0, h1]; exact h)
theorem z_cS0 {idx : Nat} (As rest : List Value) (me : zMeS M' As.length) (lk : Cond.methodLink M.2.1.cls idx M'.2.1 ∈ zG) (hd : decode M.2.2.1 pc = .ok (.invokestatic idx, 3)) (hln : (lg_sl As).length ≤ M'.2.2.2.1) (hfit : zFit R R' M' kc ks (rest.map fun v => v.category).sum) (hst : st = As.reverse ++ rest) (h0 : R'.cells = 0) (h1 : R'.slots = 0) (h : zXM w M' R' As μ (fun v μ' => zX w M R Q kc ks (pc + 3) lv (v.toList ++ rest) μ')) : zX w M R Q kc ks pc lv st μ :=
  z_cS As rest me lk hd hln hfit hst (by rw [h0, h1]; exact h)
theorem z_cSN0 {idx : Nat} {host : String} (As rest : List Value) (me : zMeS M' As.length) (lk : ∀ (U : State) (H : Heap), zex w U H → va_Nw (.methodLinkNest M.2.1.cls idx M'.2.1 host) U) (hd : decode M.2.2.1 pc = .ok (.invokestatic idx, 3)) (hln : (lg_sl As).length ≤ M'.2.2.2.1) (hfit : zFit R R' M' kc ks (rest.map fun v => v.category).sum) (hst : st = As.reverse ++ rest) (h0 : R'.cells = 0) (h1 : R'.slots = 0) (h : zXM w M' R' As μ (fun v μ' => zX w M R Q kc ks (pc + 3) lv (v.toList ++ rest) μ')) : zX w M R Q kc ks pc lv st μ :=
  z_cSN As rest me lk hd hln hfit hst (by rw [h0, h1]; exact h)
end ZM0
