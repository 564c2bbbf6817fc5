/-! ===== THE CLASS: where fronts, plans and walks lie ===== -/
def zBc (B : Nat) : Prop := B = 10 ∨ B = 19 ∨ B = 28
def zPc (p : Nat) : Prop := p = 55 ∨ p = 71
/-- a walk, its front, its terms -/
def zWc (W B T : Nat) : Prop := (W = 37 ∧ B = 10 ∧ T = 8) ∨ (W = 40 ∧ B = 19 ∧ T = 9)
/-- where a switch leads -/
def zSwF (x : Int32) (dt : Nat) : List (Int32 × Nat) → Nat
  | [] => dt
  | q :: r => if x = q.1 then q.2 else zSwF x dt r
theorem zSw_of {x : Int32} {K : Nat → Prop} {dt : Nat} : ∀ {r : List (Int32 × Nat)} {t : Nat}, zSwF x dt r = t → K t → zSw x K dt r
  | [], _, h, k => by rw [← h] at k; exact k
  | q :: r, t, h, k => by
    unfold zSwF at h
    refine ⟨fun e => ?_, fun e => ?_⟩
    · rw [if_pos e] at h; rw [h]; exact k
    · rw [if_neg e] at h; exact zSw_of h k
section ZF60
variable {B W T p q s : Nat} {r : Option Nat}
theorem fsh_0 (h : zBc B) : SH[B]? = some (.inr 2) := by rcases h with rfl | rfl | rfl <;> rfl
theorem fsh_1 (h : zBc B) : SH[B + 1]? = some (.inl (0, 40)) := by rcases h with rfl | rfl | rfl <;> rfl
theorem fsh_2 (h : zBc B) : SH[B + 2]? = some (.inl (0, 40)) := by rcases h with rfl | rfl | rfl <;> rfl
theorem fsh_3 (h : zBc B) : SH[B + 3]? = some (.inl (0, 40)) := by rcases h with rfl | rfl | rfl <;> rfl
theorem fsh_4 (h : zBc B) : SH[B + 4]? = some (.inl (0, 40)) := by rcases h with rfl | rfl | rfl <;> rfl
theorem fsh_5 (h : zBc B) : SH[B + 5]? = some (.inl (0, 40)) := by rcases h with rfl | rfl | rfl <;> rfl
theorem fsh_6 (h : zBc B) : SH[B + 6]? = some (.inl (0, 5)) := by rcases h with rfl | rfl | rfl <;> rfl
theorem fsh_7 (h : zBc B) : SH[B + 7]? = some (.inl (0, 5)) := by rcases h with rfl | rfl | rfl <;> rfl
theorem fsh_8 (h : zBc B) : SH[B + 8]? = some (.inl (0, 7)) := by rcases h with rfl | rfl | rfl <;> rfl
theorem frf_0 (h : zBc B) : RF p s r B 0 = some (B + 1) := by rcases h with rfl | rfl | rfl <;> rfl
theorem frf_1 (h : zBc B) : RF p s r B 1 = some (B + 2) := by rcases h with rfl | rfl | rfl <;> rfl
theorem frf_2 (h : zBc B) : RF p s r B 2 = some (B + 3) := by rcases h with rfl | rfl | rfl <;> rfl
theorem frf_3 (h : zBc B) : RF p s r B 3 = some (B + 4) := by rcases h with rfl | rfl | rfl <;> rfl
theorem frf_4 (h : zBc B) : RF p s r B 4 = some (B + 5) := by rcases h with rfl | rfl | rfl <;> rfl
theorem frf_5 (h : zBc B) : RF p s r B 5 = some (B + 6) := by rcases h with rfl | rfl | rfl <;> rfl
theorem frf_6 (h : zBc B) : RF p s r B 6 = some (B + 7) := by rcases h with rfl | rfl | rfl <;> rfl
theorem frf_7 (h : zBc B) : RF p s r B 7 = some (B + 8) := by rcases h with rfl | rfl | rfl <;> rfl
theorem psh_0 (h : zPc p) : SH[p]? = some (.inr 4) := by rcases h with rfl | rfl <;> rfl
theorem psh_1 (h : zPc p) : SH[p + 1]? = some (.inl (0, 5)) := by rcases h with rfl | rfl <;> rfl
theorem psh_2 (h : zPc p) : SH[p + 2]? = some (.inl (0, 5)) := by rcases h with rfl | rfl <;> rfl
theorem psh_3 (h : zPc p) : SH[p + 3]? = some (.inl (0, 5)) := by rcases h with rfl | rfl <;> rfl
theorem psh_4 (h : zPc p) : SH[p + 4]? = some (.inl (0, 5)) := by rcases h with rfl | rfl <;> rfl
theorem psh_5 (h : zPc p) : SH[p + 5]? = some (.inl (0, 16)) := by rcases h with rfl | rfl <;> rfl
theorem psh_6 (h : zPc p) : SH[p + 6]? = some (.inl (0, 16)) := by rcases h with rfl | rfl <;> rfl
theorem psh_7 (h : zPc p) : SH[p + 7]? = some (.inl (0, 96)) := by rcases h with rfl | rfl <;> rfl
theorem psh_8 (h : zPc p) : SH[p + 8]? = some (.inl (0, 2)) := by rcases h with rfl | rfl <;> rfl
theorem psh_9 (h : zPc p) : SH[p + 9]? = some (.inl (0, 2)) := by rcases h with rfl | rfl <;> rfl
theorem psh_10 (h : zPc p) : SH[p + 10]? = some (.inl (0, 2)) := by rcases h with rfl | rfl <;> rfl
theorem psh_11 (h : zPc p) : SH[p + 11]? = some (.inl (0, 7)) := by rcases h with rfl | rfl <;> rfl
theorem psh_12 (h : zPc p) : SH[p + 12]? = some (.inl (0, 4)) := by rcases h with rfl | rfl <;> rfl
theorem psh_13 (h : zPc p) : SH[p + 13]? = some (.inl (0, 64)) := by rcases h with rfl | rfl <;> rfl
theorem psh_14 (h : zPc p) : SH[p + 14]? = some (.inl (0, 3)) := by rcases h with rfl | rfl <;> rfl
theorem psh_15 (h : zPc p) : SH[p + 15]? = some (.inl (0, 3)) := by rcases h with rfl | rfl <;> rfl
theorem prf_1 (h : zPc p) : RF q s r p 1 = some (p + 1) := by rcases h with rfl | rfl <;> rfl
theorem prf_2 (h : zPc p) : RF q s r p 2 = some (p + 2) := by rcases h with rfl | rfl <;> rfl
theorem prf_3 (h : zPc p) : RF q s r p 3 = some (p + 3) := by rcases h with rfl | rfl <;> rfl
theorem prf_4 (h : zPc p) : RF q s r p 4 = some (p + 4) := by rcases h with rfl | rfl <;> rfl
theorem prf_6 (h : zPc p) : RF q s r p 6 = some (p + 5) := by rcases h with rfl | rfl <;> rfl
theorem prf_7 (h : zPc p) : RF q s r p 7 = some (p + 6) := by rcases h with rfl | rfl <;> rfl
theorem prf_8 (h : zPc p) : RF q s r p 8 = some (p + 7) := by rcases h with rfl | rfl <;> rfl
theorem prf_10 (h : zPc p) : RF q s r p 10 = some (p + 8) := by rcases h with rfl | rfl <;> rfl
theorem prf_11 (h : zPc p) : RF q s r p 11 = some (p + 9) := by rcases h with rfl | rfl <;> rfl
theorem prf_12 (h : zPc p) : RF q s r p 12 = some (p + 10) := by rcases h with rfl | rfl <;> rfl
theorem prf_13 (h : zPc p) : RF q s r p 13 = some (p + 11) := by rcases h with rfl | rfl <;> rfl
theorem prf_15 (h : zPc p) : RF q s r p 15 = some (p + 12) := by rcases h with rfl | rfl <;> rfl
theorem prf_17 (h : zPc p) : RF q s r p 17 = some (p + 13) := by rcases h with rfl | rfl <;> rfl
theorem prf_18 (h : zPc p) : RF q s r p 18 = some (p + 14) := by rcases h with rfl | rfl <;> rfl
theorem prf_19 (h : zPc p) : RF q s r p 19 = some (p + 15) := by rcases h with rfl | rfl <;> rfl
theorem wsh_0 (h : zWc W B T) : SH[W]? = some (.inr 8) := by rcases h with ⟨rfl, rfl, rfl⟩ | ⟨rfl, rfl, rfl⟩ <;> rfl
theorem wsh_1 (h : zWc W B T) : SH[W + 1]? = some (.inl (1, 64)) := by rcases h with ⟨rfl, rfl, rfl⟩ | ⟨rfl, rfl, rfl⟩ <;> rfl
theorem wsh_2 (h : zWc W B T) : SH[W + 2]? = some (.inl (1, 5)) := by rcases h with ⟨rfl, rfl, rfl⟩ | ⟨rfl, rfl, rfl⟩ <;> rfl
theorem wsh_3 (h : zWc W B T) : SH[T]? = some (.inr 6) := by rcases h with ⟨rfl, rfl, rfl⟩ | ⟨rfl, rfl, rfl⟩ <;> rfl
theorem wrf_0 (h : zWc W B T) : RF p s r W 0 = some B := by rcases h with ⟨rfl, rfl, rfl⟩ | ⟨rfl, rfl, rfl⟩ <;> rfl
theorem wrf_1 (h : zWc W B T) : RF p s r W 1 = some T := by rcases h with ⟨rfl, rfl, rfl⟩ | ⟨rfl, rfl, rfl⟩ <;> rfl
theorem wrf_2 (h : zWc W B T) : RF p s r W 2 = some (W + 1) := by rcases h with ⟨rfl, rfl, rfl⟩ | ⟨rfl, rfl, rfl⟩ <;> rfl
theorem wrf_3 (h : zWc W B T) : RF p s r W 3 = some (W + 2) := by rcases h with ⟨rfl, rfl, rfl⟩ | ⟨rfl, rfl, rfl⟩ <;> rfl
theorem wrf_4 (h : zWc W B T) : RF p s r W 4 = some p := by rcases h with ⟨rfl, rfl, rfl⟩ | ⟨rfl, rfl, rfl⟩ <;> rfl
theorem wB (h : zWc W B T) : zBc B := by rcases h with ⟨-, rfl, -⟩ | ⟨-, rfl, -⟩; exact Or.inl rfl; exact Or.inr (Or.inl rfl)
end ZF60
