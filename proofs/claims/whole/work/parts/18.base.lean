/-! ===== PURE HELP ===== -/
theorem zu_at {α : Type} (f : Nat → Nat → α) (i k : Nat) (v : α) (a b : Nat) : zu f i k v a b = if a = i ∧ b = k then v else f a b := rfl
/-- how many of the first n are so -/
def zCnt (P : Nat → Bool) : Nat → Nat
  | 0 => 0
  | n + 1 => zCnt P n + (if P n = true then 1 else 0)
theorem zCnt_le (P : Nat → Bool) : ∀ n, zCnt P n ≤ n
  | 0 => Nat.le_refl _
  | n + 1 => by
    have h := zCnt_le P n
    unfold zCnt
    split <;> omega
theorem nI_lit40 : (40 : Int32) = nI 40 := rfl
theorem zle_nat {a b : Nat} (ha : a < 2 ^ 31) (hb : b < 2 ^ 31) : (nI a ≤ nI b) = (a ≤ b) := propext (nI_leI ha hb)
theorem zlt_nat {a b : Nat} (ha : a < 2 ^ 31) (hb : b < 2 ^ 31) : (nI a < nI b) = (a < b) := propext (nI_ltI ha hb)
theorem zeq_nat {a b : Nat} (ha : a < 2 ^ 31) (hb : b < 2 ^ 31) : (nI a = nI b) = (a = b) := propext (nI_eq ha hb)
theorem zCnt_t {P : Nat → Bool} {n : Nat} (h : P n = true) : zCnt P (n + 1) = zCnt P n + 1 := by simp [zCnt, h]
theorem zCnt_f {P : Nat → Bool} {n : Nat} (h : P n = false) : zCnt P (n + 1) = zCnt P n := by simp [zCnt, h]
/-- a loop that counts up to n -/
theorem zLoop {P : Nat → Prop} {n : Nat} (h : ∀ c, c ≤ n → (c < n → P (c + 1)) → P c) : ∀ c, c ≤ n → P c := by
  have key : ∀ k c, c + k = n → P c := by
    intro k
    induction k with
    | zero => intro c hc; exact h c (by omega) (fun hl => absurd hl (by omega))
    | succ k ih => intro c hc; exact h c (by omega) (fun _ => ih (c + 1) (by omega))
  exact fun c hc => key (n - c) c (by omega)
theorem zvp {i : Int32} {n : Nat} (h : (decide (0 ≤ i.toInt) && decide (i.toInt < n)) = true) : vp_in i n := by
  simp only [Bool.and_eq_true, decide_eq_true_eq] at h
  exact vp_in_iff.mpr h
theorem zvn {j n : Nat} (h : j < n) (hn : n < 2 ^ 31) : vp_in (nI j) n := vp_in_nI h hn
theorem nI_a0 (x : Int32) : x + 0 = x := Int32.add_zero x
