-- needs: 40
/-! ===== for runs ===== -/
theorem nI_40 (b c : Nat) : (40 : Int32) * nI b + nI c = nI (40 * b + c) := by rw [nI_lit40, pk_mul, nI_add]
theorem nI_7 (b k : Nat) : (7 : Int32) * nI b + nI k = nI (7 * b + k) := by rw [show (7 : Int32) = nI 7 from rfl, pk_mul, nI_add]
theorem zN10 : ((1 : Int32) = 0) = False := by simp
theorem zN01 : ((0 : Int32) = 1) = False := by simp
theorem zb1_e0 (b : Bool) : (zb1 b = 0) = (b = false) := by cases b <;> simp [zb1]
theorem zb1_n0 (b : Bool) : (zb1 b = 1) = (b = true) := by cases b <;> simp [zb1]
section ZSUBS
variable {w : zP} {M : zMd} {R : Room} {Q : Option Value → zMem → Prop} {kc ks pc : Nat} {lv lv' : zLoc} {st : List Value} {μ : zMem}
theorem zX.sub' (h : zX w M R Q kc ks pc lv' st μ) (hs : ∀ q ∈ lv', q ∈ lv) : zX w M R Q kc ks pc lv st μ := zX.sub hs h
end ZSUBS
