/-! ===== PURE HELP ===== -/
theorem zu_at {α : Type} (f : Nat → Nat → α) (i k : Nat) (v : α) (a b : Nat) : zu f i k v a b = if a = i ∧ b = k then v else f a b := rfl
/-- how many of the first n are so -/
def zCnt (P : Nat → Bool) : Nat → Nat
  | 0 => 0
  | n + 1 => zCnt P n + (if P n = true then 1 else 0)
theorem zCnt_le (P : Nat → Bool) : ∀ n, zCnt P n ≤ n
  | 0 => Nat.le_refl _
  | n + 1 => by
    have h := zCnt_le P n
    unfold zCnt
    split <;> omega
theorem nI_lit40 : (40 : Int32) = nI 40 := rfl
theorem zle_nat {a b : Nat} (ha : a < 2 ^ 31) (hb : b < 2 ^ 31) : (nI a ≤ nI b) = (a ≤ b) := propext (nI_leI ha hb)
theorem zlt_nat {a b : Nat} (ha : a < 2 ^ 31) (hb : b < 2 ^ 31) : (nI a < nI b) = (a < b) := propext (nI_ltI ha hb)
theorem zeq_nat {a b : Nat} (ha : a < 2 ^ 31) (hb : b < 2 ^ 31) : (nI a = nI b) = (a = b) := propext (nI_eq ha hb)
