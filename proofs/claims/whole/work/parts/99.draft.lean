section
/-! ===== TOKENS: words as numbers; the words of the reference ===== -/
def mWl : List Nat := [112, 108, 97, 99, 101, 32, 99, 104, 97, 105, 114, 115, 32, 99, 111, 109, 101, 32, 115, 107, 121, 32, 98, 97, 110, 100, 32, 112, 114, 105, 99, 101, 32, 119, 97, 103, 101, 32, 99, 97, 114, 114, 121, 32, 119, 101, 116, 115, 32, 99, 97, 110, 118, 97, 115, 32, 115, 101, 101, 100, 32, 115, 105, 103, 110, 32, 108, 97, 119, 32, 116, 105, 100, 101, 32, 115, 105, 116, 32, 115, 116, 97, 121, 32, 100, 111, 100, 103, 101, 32, 97, 110, 100, 32, 111, 114, 32, 110, 111, 116, 32, 118, 105, 101, 119, 32, 102, 97, 114, 32, 115, 117, 110, 32, 109, 117, 115, 105, 99, 32, 116, 97, 107, 101, 110, 32, 102, 114, 101, 101, 32, 116, 105, 99, 107, 32]
def mWa (k : Nat) : Nat := mWl.getD k 0
def mWf (k : Nat) : Nat := ([0, 6, 13, 18, 22, 27, 33, 38, 44, 49, 56, 61, 66, 70, 75, 79, 84, 90, 94, 97, 101, 106, 110, 114, 120, 126, 131, 136] : List Nat).getD k 0
def mWn (k : Nat) : Nat := ([5, 6, 4, 3, 4, 5, 4, 5, 4, 6, 4, 4, 3, 4, 3, 4, 5, 3, 2, 3, 4, 3, 3, 5, 5, 4, 4] : List Nat).getD k 0
/-- the class's words packed, in the class's order; which word of the reference each is -/
def cWp (k : Nat) : Nat := ([747822080, 202964992, 660013056, 458859616, 672503232, 220369920, 680635392, 556043424, 109094483, 773035008, 102320928, 777669632, 102193203, 642945024, 549489824, 680662016, 116823040, 649887744, 68620288, 647215104, 404455424, 647626752, 658564096, 150084768, 522190848, 48365568, 486146048] : List Nat).getD k 0
def mWp (k : Nat) : Nat := ([549489824, 109094483, 116823040, 649887744, 68620288, 556043424, 773035008, 102320928, 777669632, 102193203, 642945024, 647215104, 404455424, 680662016, 647626752, 658564096, 150084768, 48365568, 522190848, 486146048, 747822080, 202964992, 660013056, 458859616, 672503232, 220369920, 680635392] : List Nat).getD k 0
def cPm (k : Nat) : Nat := ([20, 21, 22, 23, 24, 25, 26, 5, 1, 6, 7, 8, 9, 10, 0, 13, 2, 3, 4, 11, 12, 14, 15, 16, 18, 17, 19] : List Nat).getD k 0
def cIv (k : Nat) : Nat := ([14, 8, 16, 17, 18, 7, 9, 10, 11, 12, 13, 19, 20, 15, 21, 22, 23, 25, 24, 26, 0, 1, 2, 3, 4, 5, 6] : List Nat).getD k 0
/-- six places of five bits -/
def pkW (f : Nat → Nat) : Nat → Nat
  | 0 => 0
  | k + 1 => pkW f k * 32 + f k
/-- how many letters -/
def oLn (T : Nat → Nat) : Nat → Nat → Nat
  | 0, _ => 0
  | n + 1, i => if oLet (T i) = true then oLn T n (i + 1) + 1 else 0
/-- letters from i to j -/
def oLf (T : Nat → Nat) (i j k : Nat) : Nat := if i + k < j then T (i + k) - 96 else 0
section ZN98n
variable {w : zP} {Q : Option Value → zMem → Prop} {μ : zMem} {I J : Nat → Nat → Int32} {L K : Nat → Nat → Int64} {p s : Nat} {r : Option Nat} {a b c i j k n e m : Nat} {x y v : Int32} {T : Nat → Nat} {W : Nat → Int32} {f g : Nat → Nat}
theorem pkW_lt (h : ∀ k, f k < 32) : ∀ n, pkW f n < 32 ^ n
  | 0 => by rw [pkW]; decide
  | n + 1 => by
    have := pkW_lt h n
    have h2 := h n
    rw [pkW, Nat.pow_succ]
    omega
theorem pkW_inj (hf : ∀ k, f k < 32) (hg : ∀ k, g k < 32) : ∀ n, pkW f n = pkW g n → ∀ k, k < n → f k = g k
  | 0, _, k, hk => absurd hk (by omega)
  | n + 1, h, k, hk => by
    have h1 := hf n
    have h2 := hg n
    rw [pkW, pkW] at h
    by_cases e : k = n
    · subst e; omega
    · exact pkW_inj hf hg n (by omega) k (by omega)
theorem pkW_congr : ∀ n, (∀ k, k < n → f k = g k) → pkW f n = pkW g n
  | 0, _ => rfl
  | n + 1, h => by rw [pkW, pkW, pkW_congr n (fun k hk => h k (by omega)), h n (by omega)]
theorem pkW_pad (h : ∀ k, n ≤ k → f k = 0) : ∀ d, pkW f (n + d) = pkW f n * 32 ^ d
  | 0 => by simp
  | d + 1 => by
    rw [← Nat.add_assoc, pkW, pkW_pad h d, h (n + d) (by omega), Nat.pow_succ, Nat.mul_assoc, Nat.add_zero]
theorem oLn_le {T : Nat → Nat} : ∀ n i, oLn T n i ≤ n
  | 0, _ => Nat.le_refl _
  | n + 1, i => by
    unfold oLn
    split
    · have := oLn_le (T := T) n (i + 1); omega
    · omega
theorem oLn_let {T : Nat → Nat} : ∀ n i k, k < oLn T n i → oLet (T (i + k)) = true
  | 0, _, k, h => absurd h (by unfold oLn; omega)
  | n + 1, i, k, h => by
    unfold oLn at h
    split at h
    · rename_i hl
      cases k with
      | zero => exact hl
      | succ k =>
        have := oLn_let (T := T) n (i + 1) k (by omega)
        rw [show i + (k + 1) = i + 1 + k by omega]; exact this
    · omega
theorem oLn_end {T : Nat → Nat} : ∀ n i, oLn T n i < n → oLet (T (i + oLn T n i)) = false
  | 0, _, h => absurd h (by omega)
  | n + 1, i, h => by
    unfold oLn at h ⊢
    split
    · rename_i hl
      rw [if_pos hl] at h
      have := oLn_end (T := T) n (i + 1) (by omega)
      rw [show i + (oLn T n (i + 1) + 1) = i + 1 + oLn T n (i + 1) by omega]; exact this
    · rename_i hl
      simpa using hl
theorem oLf_lt (h : ∀ k, k < j → oLet (T k) = true ∨ k < i) : oLf T i j k < 32 := by
  unfold oLf
  split
  · rename_i q
    rcases h (i + k) q with g | g
    · have := oLet_lo g; omega
    · omega
  · omega
theorem sh5 : ∀ m, m < 6 → (((5 : Int32) * (5 - nI m) &&& 31).toBitVec.smod 32).toNat = 5 * (5 - m) := by decide +kernel
theorem pw5 : ∀ m, m < 6 → 2 ^ (5 * (5 - m)) = 32 ^ (5 - m) := by decide
theorem pw6 : ∀ m, m < 6 → 32 ^ (6 - m) = 32 ^ (5 - m) * 32 := by decide
theorem pwA : ∀ m, m < 7 → 32 ^ m * 32 ^ (6 - m) = 2 ^ 30 := by decide
/-- one letter more in the class -/
theorem oLet_pk (hc : 97 ≤ c ∧ c ≤ 122) (hm : m < 6) (hx : a < 32 ^ m) : nI (a * 32 ^ (6 - m)) ||| zLett (nI c) (nI m) = nI ((a * 32 + (c - 96)) * 32 ^ (5 - m)) := by
  have hp : 32 ^ (5 - m) ≤ 32 ^ 5 := Nat.pow_le_pow_right (by decide) (by omega)
  have hq : (c - 96) * 2 ^ (5 * (5 - m)) < 2 ^ 32 := by
    rw [pw5 m hm]
    have : (c - 96) * 32 ^ (5 - m) ≤ 26 * 32 ^ 5 := Nat.mul_le_mul (by omega) hp
    omega
  have e : nI c - 97 + 1 = nI (c - 96) := by
    obtain ⟨d, hd⟩ : ∃ d, c = d + 97 := ⟨c - 97, by omega⟩
    subst hd
    rw [show (97 : Int32) = nI 97 from rfl, ← nI_add, Int32.add_sub_cancel, nI_1]
    congr 1
  unfold zLett
  rw [e, pk_shlN _ (5 * (5 - m)) (sh5 m hm) hq, fa_or, pw5 m hm]
  congr 1
  have hlt : (c - 96) * 32 ^ (5 - m) < 2 ^ (5 * (5 - m) + 5) := by
    rw [Nat.pow_add, pw5 m hm, Nat.mul_comm (32 ^ (5 - m))]
    have hpos : 0 < 32 ^ (5 - m) := Nat.pow_pos (by decide)
    exact (Nat.mul_lt_mul_right hpos).mpr (by omega)
  have h2 := Nat.two_pow_add_eq_or_of_lt hlt a
  have e6 : 2 ^ (5 * (5 - m) + 5) = 32 ^ (6 - m) := by rw [Nat.pow_add, pw5 m hm, pw6 m hm]
  rw [e6] at h2
  rw [Nat.mul_comm a, ← h2, pw6 m hm, Nat.add_mul]
  congr 1
  rw [Nat.mul_comm a 32, Nat.mul_comm (32 * a), Nat.mul_assoc]
theorem oWr_1 {T : Nat → Nat} : ∀ n i m v, (oWr T n i m v).1 = i + oLn T n i ∧ (oWr T n i m v).2.1 = m + oLn T n i
  | 0, i, m, v => ⟨rfl, rfl⟩
  | n + 1, i, m, v => by
    unfold oWr oLn
    split
    · have := oWr_1 (T := T) n (i + 1) (m + 1) (if m < 6 then v ||| zLett (nI (T i)) (nI m) else v)
      omega
    · exact ⟨rfl, rfl⟩
theorem oWr_v {T : Nat → Nat} {i0 j0 : Nat} : ∀ n i m v, i = i0 + m → m + oLn T n i ≤ 6 → i + oLn T n i ≤ j0 → (∀ k, i0 ≤ k → k < i → oLet (T k) = true) → v = nI (pkW (oLf T i0 j0) m * 32 ^ (6 - m)) → (oWr T n i m v).2.2 = nI (pkW (oLf T i0 j0) (m + oLn T n i) * 32 ^ (6 - (m + oLn T n i)))
  | 0, i, m, v, hi, h6, hj, hl, hv => hv
  | n + 1, i, m, v, hi, h6, hj, hl, hv => by
    unfold oWr
    unfold oLn at h6 hj ⊢
    split
    · rename_i ht
      rw [if_pos ht] at h6 hj
      rw [if_pos (by omega)]
      have hlt : pkW (oLf T i0 j0) m < 32 ^ m := by
        rw [pkW_congr (g := fun k => if k < m then oLf T i0 j0 k else 0) m (fun k hk => by rw [if_pos hk])]
        refine pkW_lt (fun k => ?_) m
        split
        · unfold oLf
          split
          · have := oLet_lo (hl (i0 + k) (by omega) (by omega)); omega
          · omega
        · omega
      have := oWr_v (T := T) (i0 := i0) (j0 := j0) n (i + 1) (m + 1) (v ||| zLett (nI (T i)) (nI m)) (by omega) (by omega) (by omega) (fun k h1 h2 => by
        by_cases e : k = i
        · subst e; exact ht
        · exact hl k h1 (by omega)) (by
        rw [hv, oLet_pk (oLet_lo ht) (by omega) hlt, pkW]
        have : oLf T i0 j0 m = T i - 96 := by unfold oLf; rw [← hi, if_pos (by omega)]
        rw [this, show 6 - (m + 1) = 5 - m by omega])
      rw [this, show m + 1 + oLn T n (i + 1) = m + (oLn T n (i + 1) + 1) by omega]
    · exact hv
/-- the class's word of at most six letters -/
theorem oWr_pk (h6 : oLn T n i ≤ 6) : (oWr T n i 0 0).2.2 = nI (pkW (oLf T i (i + oLn T n i)) 6) := by
  rw [oWr_v (i0 := i) (j0 := i + oLn T n i) n i 0 0 rfl (by omega) (Nat.le_refl _) (fun k h1 h2 => absurd h1 (by omega)) (by simp [pkW]; rfl), Nat.zero_add]
  congr 1
  obtain ⟨d, hd⟩ : ∃ d, 6 = oLn T n i + d := ⟨6 - oLn T n i, by omega⟩
  rw [hd, pkW_pad (n := oLn T n i) (fun k hk => by unfold oLf; rw [if_neg (by omega)])]
  congr 2
  omega
theorem oPck_pk (h : ∀ k, i ≤ k → k < j → oLet (T k) = true) : ∀ n, n ≤ 6 → oPck T i j n = nI (pkW (oLf T i j) n)
  | 0, _ => rfl
  | n + 1, hn => by
    have hf : ∀ k, oLf T i j k < 32 := fun k => by
      unfold oLf; split
      · have := oLet_lo (h (i + k) (by omega) (by omega)); omega
      · omega
    have hlt := pkW_lt hf n
    have hp : 32 ^ n ≤ 32 ^ 5 := Nat.pow_le_pow_right (by decide) (by omega)
    rw [oPck_s, oPck_pk h n (by omega), pk_shlN 5 5 (by decide) (by omega), pkW]
    have e : (if i + n < j then nI (T (i + n)) - 96 else 0) = nI (oLf T i j n) := by
      unfold oLf
      split
      · have hb := oLet_lo (h (i + n) (by omega) (by omega))
        obtain ⟨d, hd⟩ : ∃ d, T (i + n) = d + 96 := ⟨T (i + n) - 96, by omega⟩
        rw [hd, ← nI_add, show nI 96 = 96 from rfl, Int32.add_sub_cancel]; congr 1
      · rfl
    rw [e, fa_or]
    congr 1
    have := Nat.two_pow_add_eq_or_of_lt (i := 5) (hf n) (pkW (oLf T i j) n)
    rw [Nat.mul_comm, ← this, Nat.mul_comm]
/-- is the k-th word of the reference what stands from i to j -/
def mEq (T : Nat → Nat) (i j k : Nat) : Bool := decide (mWn k = j - i) && decide (∀ d, d < mWn k → mWa (mWf k + d) = T (i + d))
theorem mW_f : ∀ k, k < 27 → mWf (k + 1) = mWf k + mWn k + 1 ∧ mWf k + mWn k < 136 ∧ mWn k ≤ 6 ∧ mWa (mWf k + mWn k) = 32 := by decide +kernel
theorem mW_l : ∀ k, k < 27 → ∀ d, d < mWn k → 97 ≤ mWa (mWf k + d) ∧ mWa (mWf k + d) ≤ 122 := by decide +kernel
theorem mW_p : ∀ k, k < 27 → pkW (fun d => if d < mWn k then mWa (mWf k + d) - 96 else 0) 6 = mWp k := by decide +kernel
theorem mEq_pk (hk : k < 27) (hij : i ≤ j) (h : ∀ d, i ≤ d → d < j → oLet (T d) = true) (h6 : j - i ≤ 6) : mEq T i j k = decide (pkW (oLf T i j) 6 = mWp k) := by
  have hf : ∀ d, oLf T i j d < 32 := fun d => by
    unfold oLf; split
    · have := oLet_lo (h (i + d) (by omega) (by omega)); omega
    · omega
  have hg : ∀ d, (fun d => if d < mWn k then mWa (mWf k + d) - 96 else 0) d < 32 := fun d => by
    show (if d < mWn k then mWa (mWf k + d) - 96 else 0) < 32
    split
    · have := mW_l k hk d (by assumption); omega
    · omega
  have hn := (mW_f k hk).2.2.1
  rw [← mW_p k hk]
  by_cases e : pkW (oLf T i j) 6 = pkW (fun d => if d < mWn k then mWa (mWf k + d) - 96 else 0) 6
  · rw [decide_eq_true e]
    have hd := pkW_inj hf hg 6 e
    have hlen : mWn k = j - i := by
      rcases Nat.lt_trichotomy (mWn k) (j - i) with q | q | q
      · have := hd (mWn k) (by omega)
        simp only [oLf] at this
        rw [if_pos (by omega), if_neg (by omega)] at this
        have := oLet_lo (h (i + mWn k) (by omega) (by omega)); omega
      · exact q
      · have := hd (j - i) (by omega)
        simp only [oLf] at this
        rw [if_neg (by omega), if_pos (by omega)] at this
        have := mW_l k hk (j - i) q; omega
    unfold mEq
    rw [decide_eq_true hlen, decide_eq_true (fun d hdd => ?_)]
    · rfl
    · have := hd d (by omega)
      simp only [oLf] at this
      rw [if_pos (by omega), if_pos hdd] at this
      have := mW_l k hk d hdd
      have := oLet_lo (h (i + d) (by omega) (by omega))
      omega
  · rw [decide_eq_false e]
    cases hq : mEq T i j k with
    | false => rfl
    | true =>
      exfalso
      apply e
      unfold mEq at hq
      rw [Bool.and_eq_true, decide_eq_true_iff, decide_eq_true_iff] at hq
      refine pkW_congr 6 (fun d hd => ?_)
      show oLf T i j d = if d < mWn k then mWa (mWf k + d) - 96 else 0
      unfold oLf
      by_cases hdd : d < mWn k
      · rw [if_pos (by omega), if_pos hdd, hq.2 d hdd]
      · rw [if_neg (by omega), if_neg hdd]
/-- which word of the reference; 27: none -/
def mWk (T : Nat → Nat) (i j : Nat) : Nat := zFst (mEq T i j) 27
def mWi (n : Nat) : Int32 := if n < 27 then nI n else -1
set_option maxRecDepth 20000 in
theorem mo_wordAt (hij : i ≤ j) (hj : j ≤ 700) (hw : ∀ k, k < 136 → I 89 k = nI (mWa k)) (ht : ∀ k, k < j → I 88 k = nI (T k) ∧ T k < 256) (hQ : Q (some (.int (mWi (mWk T i j)))) (SH, I, L, RF p s r)) : zXM w mX10_wordAt rX10_wordAt [.ref 87, .int (nI i), .int (nI j)] (SH, I, L, RF p s r) Q := by
  unfold zXM
  have e136 : Int32.ofNat 136 = nI 136 := rfl
  refine zBlkR (M := mX10_wordAt) (nL := 8) (rt := (Option.some .int)) (blk := bX10_wordAt_0) (T := []) 0 hX10_wordAt_0 zChks_nil rfl rfl rfl (Nat.le_of_ble_eq_true rfl) (Nat.le_of_ble_eq_true rfl) ?_
  simp (implicitDefEqProofs := false) only [bX10_wordAt_0, zRun_cons, zRun_nil, zLk, zSto, zIns, zFil, zf0, zf1, zf2, zf3, List.filter_cons, List.filter_nil, Nat.reduceAdd, Nat.reduceEqDiff, Nat.reduceLT, Nat.reduceLeDiff, Nat.reduceBEq, Nat.reduceBNe, reduceIte, if_true, if_false, Bool.false_and, Bool.true_and, Bool.and_true, Bool.and_false, Bool.not_false, Bool.not_true, Bool.false_eq_true, beq_self_eq_true, BEq.rfl, zCat1, zCat2, zCat3, zKdI, zKdL, zKdR, true_and, and_true, zSI, zSL, zSR, zu_at, and_self, and_false, false_and, lv_args, zKdZ, zKdO, zB01, zB11, Option.toList_none, Option.toList_some, List.nil_append, List.cons_append, true_or, or_true, zRow_rd, zu_rd, zo_iconst, zo_istore_n, zo_istore, zi_0, zcl_0, zKn_0, zN10, zN01, not_true_eq_false, not_false_eq_true, false_implies, true_implies, implies_true, eq_self, nI_1, nI_40, nI_7, vz0, vz1, zb1_e0, zb1_n0]
  refine zLoop (n := 27) (P := fun k => (∀ d, d < k → mEq T i j d = false) → zX w mX10_wordAt rX10_wordAt Q 0 0 5 [(0, Value.ref 87), (1, Value.int (nI i)), (2, Value.int (nI j)), (3, Value.int (nI k)), (4, Value.int (nI (mWf k)))] [] (SH, I, L, RF p s r)) (fun k hk ih => ?_) 0 (Nat.zero_le _) (fun d hd => absurd hd (by omega))
  intro hno
  by_cases hke : k = 27
  · subst hke
    have hx : (nI 136 ≤ nI (mWf 27)) = True := eq_true (by decide)
    have hf : mWk T i j = 27 := zFst_none hno
    rw [hf] at hQ
    refine zBlkR (M := mX10_wordAt) (nL := 8) (rt := (Option.some .int)) (blk := bX10_wordAt_5) (T := [(126, bX10_wordAt_126)]) 1 hX10_wordAt_5 (zChks_cons hX10_wordAt_126 zChks_nil) rfl rfl rfl (Nat.le_of_ble_eq_true rfl) (Nat.le_of_ble_eq_true rfl) ?_
    simp (implicitDefEqProofs := false) only [bX10_wordAt_5, bX10_wordAt_126, zRun_cons, zRun_nil, zLk, zSto, zIns, zFil, zf0, zf1, zf2, zf3, List.filter_cons, List.filter_nil, Nat.reduceAdd, Nat.reduceEqDiff, Nat.reduceLT, Nat.reduceLeDiff, Nat.reduceBEq, Nat.reduceBNe, reduceIte, if_true, if_false, Bool.false_and, Bool.true_and, Bool.and_true, Bool.and_false, Bool.not_false, Bool.not_true, Bool.false_eq_true, beq_self_eq_true, BEq.rfl, zCat1, zCat2, zCat3, zKdI, zKdL, zKdR, true_and, and_true, zSI, zSL, zSR, zu_at, and_self, and_false, false_and, lv_args, zKdZ, zKdO, zB01, zB11, Option.toList_none, Option.toList_some, List.nil_append, List.cons_append, true_or, or_true, zRow_rd, zu_rd, zo_iload, zo_aload_n, zo_getfield, zo_arraylength, zo_icmp_ge, zo_iconst, zo_istore, zo_ireturn, zi_0, zi_m1, zKd_10_3, sh_87, rf_87_3, sh_89, zcl_0, zvi_0_136, zRt, zKn_s, zKn_0, zFind, e136, hx, zN10, zN01, not_true_eq_false, not_false_eq_true, false_implies, true_implies, implies_true, eq_self, nI_1, nI_40, nI_7, vz0, vz1, zb1_e0, zb1_n0]
    exact hQ
  · obtain ⟨f1, f2, f3, f4⟩ := mW_f k (by omega)
    have hx : (nI 136 ≤ nI (mWf k)) = False := eq_false (by rw [zle_nat (by omega) (by omega)]; omega)
    have e2 : nI j - nI i = nI (j - i) := by
      obtain ⟨d, hd⟩ : ∃ d, j = d + i := ⟨j - i, by omega⟩
      subst hd
      rw [← nI_add, Int32.add_sub_cancel, Nat.add_sub_cancel]
    refine zBlkR (M := mX10_wordAt) (nL := 8) (rt := (Option.some .int)) (blk := bX10_wordAt_5) (T := [(126, bX10_wordAt_126)]) 1 hX10_wordAt_5 (zChks_cons hX10_wordAt_126 zChks_nil) rfl rfl rfl (Nat.le_of_ble_eq_true rfl) (Nat.le_of_ble_eq_true rfl) ?_
    simp (implicitDefEqProofs := false) only [bX10_wordAt_5, bX10_wordAt_126, zRun_cons, zRun_nil, zLk, zSto, zIns, zFil, zf0, zf1, zf2, zf3, List.filter_cons, List.filter_nil, Nat.reduceAdd, Nat.reduceEqDiff, Nat.reduceLT, Nat.reduceLeDiff, Nat.reduceBEq, Nat.reduceBNe, reduceIte, if_true, if_false, Bool.false_and, Bool.true_and, Bool.and_true, Bool.and_false, Bool.not_false, Bool.not_true, Bool.false_eq_true, beq_self_eq_true, BEq.rfl, zCat1, zCat2, zCat3, zKdI, zKdL, zKdR, true_and, and_true, zSI, zSL, zSR, zu_at, and_self, and_false, false_and, lv_args, zKdZ, zKdO, zB01, zB11, Option.toList_none, Option.toList_some, List.nil_append, List.cons_append, true_or, or_true, zRow_rd, zu_rd, zo_iload, zo_aload_n, zo_getfield, zo_arraylength, zo_icmp_ge, zo_iconst, zo_istore, zo_ireturn, zi_0, zi_m1, zKd_10_3, sh_87, rf_87_3, sh_89, zcl_0, zvi_0_136, zRt, zKn_s, zKn_0, zFind, e136, hx, zN10, zN01, not_true_eq_false, not_false_eq_true, false_implies, true_implies, implies_true, eq_self, nI_1, nI_40, nI_7, vz0, vz1, zb1_e0, zb1_n0]
    suffices k18 : zX w mX10_wordAt rX10_wordAt Q 0 0 18 [(0, Value.ref 87), (1, Value.int (nI i)), (2, Value.int (nI j)), (3, Value.int (nI k)), (4, Value.int (nI (mWf k))), (5, Value.int (nI 0))] [] (SH, I, L, RF p s r) by exact k18
    refine zLoop (n := mWn k) (P := fun d => zX w mX10_wordAt rX10_wordAt Q 0 0 18 [(0, Value.ref 87), (1, Value.int (nI i)), (2, Value.int (nI j)), (3, Value.int (nI k)), (4, Value.int (nI (mWf k))), (5, Value.int (nI d))] [] (SH, I, L, RF p s r)) (fun d hd ih2 => ?_) 0 (Nat.zero_le _)
    have hv : vp_in (nI (mWf k + d)) 136 := zvn (by omega) (by omega)
    have hb := hw (mWf k + d) (by omega)
    have ea := nI_add (mWf k) d
    by_cases hde : d = mWn k
    · subst hde
      have hx2 : (nI (mWa (mWf k + mWn k)) = 32) = True := eq_true (by rw [f4]; rfl)
      -- behind the inner loop: what 'same' says decides
      have fin : ∀ (b : Bool) (c : Int32), b = mEq T i j k → zX w mX10_wordAt rX10_wordAt Q 0 0 104 [(0, Value.ref 87), (1, Value.int (nI i)), (2, Value.int (nI j)), (3, Value.int (nI k)), (4, Value.int (nI (mWf k))), (5, Value.int (nI (mWn k))), (6, Value.int (zb1 b)), (7, Value.int c)] [] (SH, I, L, RF p s r) := by
        intro b c hb
        cases b with
        | true =>
          have hf : mWk T i j = k := zFst_eq (by omega) hb.symm hno
          rw [hf] at hQ
          unfold mWi at hQ
          rw [if_pos (by omega)] at hQ
          refine zBlkR (M := mX10_wordAt) (nL := 8) (rt := (Option.some .int)) (blk := bX10_wordAt_104) (T := [(111, bX10_wordAt_111)]) 1 hX10_wordAt_104 (zChks_cons hX10_wordAt_111 zChks_nil) rfl rfl rfl (Nat.le_of_ble_eq_true rfl) (Nat.le_of_ble_eq_true rfl) ?_
          simp (implicitDefEqProofs := false) only [bX10_wordAt_104, bX10_wordAt_111, zRun_cons, zRun_nil, zLk, zSto, zIns, zFil, zf0, zf1, zf2, zf3, List.filter_cons, List.filter_nil, Nat.reduceAdd, Nat.reduceEqDiff, Nat.reduceLT, Nat.reduceLeDiff, Nat.reduceBEq, Nat.reduceBNe, reduceIte, if_true, if_false, Bool.false_and, Bool.true_and, Bool.and_true, Bool.and_false, Bool.not_false, Bool.not_true, Bool.false_eq_true, beq_self_eq_true, BEq.rfl, zCat1, zCat2, zCat3, zKdI, zKdL, zKdR, true_and, and_true, zSI, zSL, zSR, zu_at, and_self, and_false, false_and, lv_args, zKdZ, zKdO, zB01, zB11, Option.toList_none, Option.toList_some, List.nil_append, List.cons_append, true_or, or_true, zRow_rd, zu_rd, zo_iload, zo_if_eq, zo_iload_n, zo_ireturn, zo_iconst, zo_iadd, zo_istore, zo_iinc, zo_goto, zi_1, zcl_1, zRt, zKn_s, zKn_0, zFind, zb1_t, zN10, zN01, not_true_eq_false, not_false_eq_true, false_implies, true_implies, implies_true, eq_self, nI_1, nI_40, nI_7, vz0, vz1, zb1_e0, zb1_n0]
          exact hQ
        | false =>
          have e5 : nI (mWf k) + nI (mWn k + 1) = nI (mWf (k + 1)) := by rw [nI_add, f1]; congr 1
          refine zBlkR (M := mX10_wordAt) (nL := 8) (rt := (Option.some .int)) (blk := bX10_wordAt_104) (T := [(111, bX10_wordAt_111)]) 1 hX10_wordAt_104 (zChks_cons hX10_wordAt_111 zChks_nil) rfl rfl rfl (Nat.le_of_ble_eq_true rfl) (Nat.le_of_ble_eq_true rfl) ?_
          simp (implicitDefEqProofs := false) only [bX10_wordAt_104, bX10_wordAt_111, zRun_cons, zRun_nil, zLk, zSto, zIns, zFil, zf0, zf1, zf2, zf3, List.filter_cons, List.filter_nil, Nat.reduceAdd, Nat.reduceEqDiff, Nat.reduceLT, Nat.reduceLeDiff, Nat.reduceBEq, Nat.reduceBNe, reduceIte, if_true, if_false, Bool.false_and, Bool.true_and, Bool.and_true, Bool.and_false, Bool.not_false, Bool.not_true, Bool.false_eq_true, beq_self_eq_true, BEq.rfl, zCat1, zCat2, zCat3, zKdI, zKdL, zKdR, true_and, and_true, zSI, zSL, zSR, zu_at, and_self, and_false, false_and, lv_args, zKdZ, zKdO, zB01, zB11, Option.toList_none, Option.toList_some, List.nil_append, List.cons_append, true_or, or_true, zRow_rd, zu_rd, zo_iload, zo_if_eq, zo_iload_n, zo_ireturn, zo_iconst, zo_iadd, zo_istore, zo_iinc, zo_goto, zi_1, zcl_1, zRt, zKn_s, zKn_0, zFind, zb1_f, nI_1, e5, zN10, zN01, not_true_eq_false, not_false_eq_true, false_implies, true_implies, implies_true, eq_self, nI_1, nI_40, nI_7, vz0, vz1, zb1_e0, zb1_n0]
          refine zX.sub' (ih (by omega) (fun d hd => ?_)) (by simp)
          by_cases e : d = k
          · subst e; exact hb.symm
          · exact hno d (by omega)
      have l57 : mWn k = j - i → ∀ d, d ≤ mWn k → (∀ q, q < d → mWa (mWf k + q) = T (i + q)) → zX w mX10_wordAt rX10_wordAt Q 0 0 57 [(0, Value.ref 87), (1, Value.int (nI i)), (2, Value.int (nI j)), (3, Value.int (nI k)), (4, Value.int (nI (mWf k))), (5, Value.int (nI (mWn k))), (6, Value.int 1), (7, Value.int (nI d))] [] (SH, I, L, RF p s r) := by
        intro hlen d hd
        refine zLoop (n := mWn k) (P := fun d => (∀ q, q < d → mWa (mWf k + q) = T (i + q)) → zX w mX10_wordAt rX10_wordAt Q 0 0 57 [(0, Value.ref 87), (1, Value.int (nI i)), (2, Value.int (nI j)), (3, Value.int (nI k)), (4, Value.int (nI (mWf k))), (5, Value.int (nI (mWn k))), (6, Value.int 1), (7, Value.int (nI d))] [] (SH, I, L, RF p s r)) (fun d hd ih3 => ?_) d hd
        intro hall
        by_cases hdn : d = mWn k
        · subst hdn
          have hx3 : (nI (mWn k) ≤ nI (mWn k)) = True := eq_true (by rw [zle_nat (by omega) (by omega)]; omega)
          have key := fin true (nI (mWn k)) (by unfold mEq; rw [decide_eq_true hlen, decide_eq_true hall]; rfl)
          rw [zb1_t] at key
          refine zBlkR (M := mX10_wordAt) (nL := 8) (rt := (Option.some .int)) (blk := bX10_wordAt_57) (T := [(95, bX10_wordAt_95), (96, bX10_wordAt_96)]) 1 hX10_wordAt_57 (zChks_cons hX10_wordAt_95 (zChks_cons hX10_wordAt_96 zChks_nil)) rfl rfl rfl (Nat.le_of_ble_eq_true rfl) (Nat.le_of_ble_eq_true rfl) ?_
          simp (implicitDefEqProofs := false) only [bX10_wordAt_57, bX10_wordAt_95, bX10_wordAt_96, zRun_cons, zRun_nil, zLk, zSto, zIns, zFil, zf0, zf1, zf2, zf3, List.filter_cons, List.filter_nil, Nat.reduceAdd, Nat.reduceEqDiff, Nat.reduceLT, Nat.reduceLeDiff, Nat.reduceBEq, Nat.reduceBNe, reduceIte, if_true, if_false, Bool.false_and, Bool.true_and, Bool.and_true, Bool.and_false, Bool.not_false, Bool.not_true, Bool.false_eq_true, beq_self_eq_true, BEq.rfl, zCat1, zCat2, zCat3, zKdI, zKdL, zKdR, true_and, and_true, zSI, zSL, zSR, zu_at, and_self, and_false, false_and, lv_args, zKdZ, zKdO, zB01, zB11, Option.toList_none, Option.toList_some, List.nil_append, List.cons_append, true_or, or_true, zRow_rd, zu_rd, zo_iload, zo_icmp_ge, zo_if_eq, zo_aload_n, zo_getfield, zo_iadd, zo_iaload, zo_iload_n, zo_icmp_ne, zo_iconst, zo_goto, zo_istore, zo_iinc, zi_1, zi_0, zKd_10_3, zKd_10_0, sh_87, rf_87_3, sh_89, rf_87_0, sh_88, zcl_1, zcl_0, zvi_1_136, zvi_1_700, zvi_0_136, zvi_0_700, zKn_s, zKn_0, zFind, hx3, zN10, zN01, not_true_eq_false, not_false_eq_true, false_implies, true_implies, implies_true, eq_self, nI_1, nI_40, nI_7, vz0, vz1, zb1_e0, zb1_n0]
          exact key
        · have hx3 : (nI (mWn k) ≤ nI d) = False := eq_false (by rw [zle_nat (by omega) (by omega)]; omega)
          have v1 : vp_in (nI (mWf k + d)) 136 := zvn (by omega) (by omega)
          have v2 : vp_in (nI (i + d)) 700 := zvn (by omega) (by omega)
          have b1 := hw (mWf k + d) (by omega)
          obtain ⟨b2, b3⟩ := ht (i + d) (by omega)
          have a1 := nI_add (mWf k) d
          have a2 := nI_add i d
          have hm := mW_l k (by omega) d (by omega)
          have b4 : (nI (mWa (mWf k + d)) = nI (T (i + d))) = (mWa (mWf k + d) = T (i + d)) := zeq_nat (by omega) (by omega)
          by_cases hq : mWa (mWf k + d) = T (i + d)
          · have hx4 : (mWa (mWf k + d) = T (i + d)) = True := eq_true hq
            refine zBlkR (M := mX10_wordAt) (nL := 8) (rt := (Option.some .int)) (blk := bX10_wordAt_57) (T := [(95, bX10_wordAt_95), (96, bX10_wordAt_96)]) 1 hX10_wordAt_57 (zChks_cons hX10_wordAt_95 (zChks_cons hX10_wordAt_96 zChks_nil)) rfl rfl rfl (Nat.le_of_ble_eq_true rfl) (Nat.le_of_ble_eq_true rfl) ?_
            simp (implicitDefEqProofs := false) only [bX10_wordAt_57, bX10_wordAt_95, bX10_wordAt_96, zRun_cons, zRun_nil, zLk, zSto, zIns, zFil, zf0, zf1, zf2, zf3, List.filter_cons, List.filter_nil, Nat.reduceAdd, Nat.reduceEqDiff, Nat.reduceLT, Nat.reduceLeDiff, Nat.reduceBEq, Nat.reduceBNe, reduceIte, if_true, if_false, Bool.false_and, Bool.true_and, Bool.and_true, Bool.and_false, Bool.not_false, Bool.not_true, Bool.false_eq_true, beq_self_eq_true, BEq.rfl, zCat1, zCat2, zCat3, zKdI, zKdL, zKdR, true_and, and_true, zSI, zSL, zSR, zu_at, and_self, and_false, false_and, lv_args, zKdZ, zKdO, zB01, zB11, Option.toList_none, Option.toList_some, List.nil_append, List.cons_append, true_or, or_true, zRow_rd, zu_rd, zo_iload, zo_icmp_ge, zo_if_eq, zo_aload_n, zo_getfield, zo_iadd, zo_iaload, zo_iload_n, zo_icmp_ne, zo_iconst, zo_goto, zo_istore, zo_iinc, zi_1, zi_0, zKd_10_3, zKd_10_0, sh_87, rf_87_3, sh_89, rf_87_0, sh_88, zcl_1, zcl_0, zvi_1_136, zvi_1_700, zvi_0_136, zvi_0_700, zKn_s, zKn_0, zFind, hx3, v1, v2, b1, b2, a1, a2, b4, hx4, nI_clamp (n := mWf k + d) (by omega), nI_clamp (n := i + d) (by omega), zN10, zN01, not_true_eq_false, not_false_eq_true, false_implies, true_implies, implies_true, eq_self, nI_1, nI_40, nI_7, vz0, vz1, zb1_e0, zb1_n0]
            refine ih3 (by omega) (fun q hqq => ?_)
            by_cases e : q = d
            · subst e; exact hq
            · exact hall q (by omega)
          · have hx4 : (mWa (mWf k + d) = T (i + d)) = False := eq_false hq
            have key := fin false (nI (d + 1)) (by
              unfold mEq
              rw [show decide (∀ q, q < mWn k → mWa (mWf k + q) = T (i + q)) = false from decide_eq_false (fun g => hq (g d (by omega)))]
              simp)
            have k57 : zX w mX10_wordAt rX10_wordAt Q 0 0 57 [(0, Value.ref 87), (1, Value.int (nI i)), (2, Value.int (nI j)), (3, Value.int (nI k)), (4, Value.int (nI (mWf k))), (5, Value.int (nI (mWn k))), (6, Value.int 0), (7, Value.int (nI (d + 1)))] [] (SH, I, L, RF p s r) := by
              rw [zb1_f] at key
              by_cases hl : mWn k ≤ d + 1
              · have hx5 : (nI (mWn k) ≤ nI (d + 1)) = True := eq_true (by rw [zle_nat (by omega) (by omega)]; omega)
                refine zBlkR (M := mX10_wordAt) (nL := 8) (rt := (Option.some .int)) (blk := bX10_wordAt_57) (T := [(95, bX10_wordAt_95), (96, bX10_wordAt_96)]) 1 hX10_wordAt_57 (zChks_cons hX10_wordAt_95 (zChks_cons hX10_wordAt_96 zChks_nil)) rfl rfl rfl (Nat.le_of_ble_eq_true rfl) (Nat.le_of_ble_eq_true rfl) ?_
                simp (implicitDefEqProofs := false) only [bX10_wordAt_57, bX10_wordAt_95, bX10_wordAt_96, zRun_cons, zRun_nil, zLk, zSto, zIns, zFil, zf0, zf1, zf2, zf3, List.filter_cons, List.filter_nil, Nat.reduceAdd, Nat.reduceEqDiff, Nat.reduceLT, Nat.reduceLeDiff, Nat.reduceBEq, Nat.reduceBNe, reduceIte, if_true, if_false, Bool.false_and, Bool.true_and, Bool.and_true, Bool.and_false, Bool.not_false, Bool.not_true, Bool.false_eq_true, beq_self_eq_true, BEq.rfl, zCat1, zCat2, zCat3, zKdI, zKdL, zKdR, true_and, and_true, zSI, zSL, zSR, zu_at, and_self, and_false, false_and, lv_args, zKdZ, zKdO, zB01, zB11, Option.toList_none, Option.toList_some, List.nil_append, List.cons_append, true_or, or_true, zRow_rd, zu_rd, zo_iload, zo_icmp_ge, zo_if_eq, zo_aload_n, zo_getfield, zo_iadd, zo_iaload, zo_iload_n, zo_icmp_ne, zo_iconst, zo_goto, zo_istore, zo_iinc, zi_1, zi_0, zKd_10_3, zKd_10_0, sh_87, rf_87_3, sh_89, rf_87_0, sh_88, zcl_1, zcl_0, zvi_1_136, zvi_1_700, zvi_0_136, zvi_0_700, zKn_s, zKn_0, zFind, hx5, zN10, zN01, not_true_eq_false, not_false_eq_true, false_implies, true_implies, implies_true, eq_self, nI_1, nI_40, nI_7, vz0, vz1, zb1_e0, zb1_n0]
                exact key
              · have hx5 : (nI (mWn k) ≤ nI (d + 1)) = False := eq_false (by rw [zle_nat (by omega) (by omega)]; omega)
                refine zBlkR (M := mX10_wordAt) (nL := 8) (rt := (Option.some .int)) (blk := bX10_wordAt_57) (T := [(95, bX10_wordAt_95), (96, bX10_wordAt_96)]) 1 hX10_wordAt_57 (zChks_cons hX10_wordAt_95 (zChks_cons hX10_wordAt_96 zChks_nil)) rfl rfl rfl (Nat.le_of_ble_eq_true rfl) (Nat.le_of_ble_eq_true rfl) ?_
                simp (implicitDefEqProofs := false) only [bX10_wordAt_57, bX10_wordAt_95, bX10_wordAt_96, zRun_cons, zRun_nil, zLk, zSto, zIns, zFil, zf0, zf1, zf2, zf3, List.filter_cons, List.filter_nil, Nat.reduceAdd, Nat.reduceEqDiff, Nat.reduceLT, Nat.reduceLeDiff, Nat.reduceBEq, Nat.reduceBNe, reduceIte, if_true, if_false, Bool.false_and, Bool.true_and, Bool.and_true, Bool.and_false, Bool.not_false, Bool.not_true, Bool.false_eq_true, beq_self_eq_true, BEq.rfl, zCat1, zCat2, zCat3, zKdI, zKdL, zKdR, true_and, and_true, zSI, zSL, zSR, zu_at, and_self, and_false, false_and, lv_args, zKdZ, zKdO, zB01, zB11, Option.toList_none, Option.toList_some, List.nil_append, List.cons_append, true_or, or_true, zRow_rd, zu_rd, zo_iload, zo_icmp_ge, zo_if_eq, zo_aload_n, zo_getfield, zo_iadd, zo_iaload, zo_iload_n, zo_icmp_ne, zo_iconst, zo_goto, zo_istore, zo_iinc, zi_1, zi_0, zKd_10_3, zKd_10_0, sh_87, rf_87_3, sh_89, rf_87_0, sh_88, zcl_1, zcl_0, zvi_1_136, zvi_1_700, zvi_0_136, zvi_0_700, zKn_s, zKn_0, zFind, hx5, zN10, zN01, not_true_eq_false, not_false_eq_true, false_implies, true_implies, implies_true, eq_self, nI_1, nI_40, nI_7, vz0, vz1, zb1_e0, zb1_n0]
                exact key
            refine zBlkR (M := mX10_wordAt) (nL := 8) (rt := (Option.some .int)) (blk := bX10_wordAt_57) (T := [(95, bX10_wordAt_95), (96, bX10_wordAt_96)]) 1 hX10_wordAt_57 (zChks_cons hX10_wordAt_95 (zChks_cons hX10_wordAt_96 zChks_nil)) rfl rfl rfl (Nat.le_of_ble_eq_true rfl) (Nat.le_of_ble_eq_true rfl) ?_
            simp (implicitDefEqProofs := false) only [bX10_wordAt_57, bX10_wordAt_95, bX10_wordAt_96, zRun_cons, zRun_nil, zLk, zSto, zIns, zFil, zf0, zf1, zf2, zf3, List.filter_cons, List.filter_nil, Nat.reduceAdd, Nat.reduceEqDiff, Nat.reduceLT, Nat.reduceLeDiff, Nat.reduceBEq, Nat.reduceBNe, reduceIte, if_true, if_false, Bool.false_and, Bool.true_and, Bool.and_true, Bool.and_false, Bool.not_false, Bool.not_true, Bool.false_eq_true, beq_self_eq_true, BEq.rfl, zCat1, zCat2, zCat3, zKdI, zKdL, zKdR, true_and, and_true, zSI, zSL, zSR, zu_at, and_self, and_false, false_and, lv_args, zKdZ, zKdO, zB01, zB11, Option.toList_none, Option.toList_some, List.nil_append, List.cons_append, true_or, or_true, zRow_rd, zu_rd, zo_iload, zo_icmp_ge, zo_if_eq, zo_aload_n, zo_getfield, zo_iadd, zo_iaload, zo_iload_n, zo_icmp_ne, zo_iconst, zo_goto, zo_istore, zo_iinc, zi_1, zi_0, zKd_10_3, zKd_10_0, sh_87, rf_87_3, sh_89, rf_87_0, sh_88, zcl_1, zcl_0, zvi_1_136, zvi_1_700, zvi_0_136, zvi_0_700, zKn_s, zKn_0, zFind, hx3, v1, v2, b1, b2, a1, a2, b4, hx4, nI_1, nI_clamp (n := mWf k + d) (by omega), nI_clamp (n := i + d) (by omega), zN10, zN01, not_true_eq_false, not_false_eq_true, false_implies, true_implies, implies_true, eq_self, nI_1, nI_40, nI_7, vz0, vz1, zb1_e0, zb1_n0]
            exact k57
      by_cases hlen : mWn k = j - i
      · have hx4 : (nI (mWn k) = nI (j - i)) = True := eq_true (by rw [hlen])
        have key := l57 hlen 0 (Nat.zero_le _) (fun q hq => absurd hq (by omega))
        refine zBlkR (M := mX10_wordAt) (nL := 8) (rt := (Option.some .int)) (blk := bX10_wordAt_18) (T := [(39, bX10_wordAt_39), (51, bX10_wordAt_51), (52, bX10_wordAt_52)]) 2 hX10_wordAt_18 (zChks_cons hX10_wordAt_39 (zChks_cons hX10_wordAt_51 (zChks_cons hX10_wordAt_52 zChks_nil))) rfl rfl rfl (Nat.le_of_ble_eq_true rfl) (Nat.le_of_ble_eq_true rfl) ?_
        simp (implicitDefEqProofs := false) only [bX10_wordAt_18, bX10_wordAt_39, bX10_wordAt_51, bX10_wordAt_52, zRun_cons, zRun_nil, zLk, zSto, zIns, zFil, zf0, zf1, zf2, zf3, List.filter_cons, List.filter_nil, Nat.reduceAdd, Nat.reduceEqDiff, Nat.reduceLT, Nat.reduceLeDiff, Nat.reduceBEq, Nat.reduceBNe, reduceIte, if_true, if_false, Bool.false_and, Bool.true_and, Bool.and_true, Bool.and_false, Bool.not_false, Bool.not_true, Bool.false_eq_true, beq_self_eq_true, BEq.rfl, zCat1, zCat2, zCat3, zKdI, zKdL, zKdR, true_and, and_true, zSI, zSL, zSR, zu_at, and_self, and_false, false_and, lv_args, zKdZ, zKdO, zB01, zB11, Option.toList_none, Option.toList_some, List.nil_append, List.cons_append, true_or, or_true, zRow_rd, zu_rd, zo_aload_n, zo_getfield, zo_iload, zo_iadd, zo_iaload, zo_bipush, zo_icmp_eq, zo_iinc, zo_goto, zo_iload_n, zo_isub, zo_icmp_ne, zo_iconst, zo_istore, zb_32, zi_1, zi_0, zKd_10_3, sh_87, rf_87_3, sh_89, zcl_32, zcl_1, zcl_0, zvi_32_136, zvi_1_136, zvi_0_136, zKn_s, zKn_0, zFind, e2, hv, hb, ea, hx2, hx4, nI_clamp (n := mWf k + mWn k) (by omega), zN10, zN01, not_true_eq_false, not_false_eq_true, false_implies, true_implies, implies_true, eq_self, nI_1, nI_40, nI_7, vz0, vz1, zb1_e0, zb1_n0]
        exact key
      · have hx4 : (nI (mWn k) = nI (j - i)) = False := eq_false (by rw [zeq_nat (by omega) (by omega)]; exact hlen)
        have key := fin false 0 (by unfold mEq; rw [decide_eq_false hlen]; rfl)
        rw [zb1_f] at key
        have k57 : zX w mX10_wordAt rX10_wordAt Q 0 0 57 [(0, Value.ref 87), (1, Value.int (nI i)), (2, Value.int (nI j)), (3, Value.int (nI k)), (4, Value.int (nI (mWf k))), (5, Value.int (nI (mWn k))), (6, Value.int 0), (7, Value.int 0)] [] (SH, I, L, RF p s r) := by
          by_cases hl : nI (mWn k) ≤ 0
          · have hx5 : (nI (mWn k) ≤ 0) = True := eq_true hl
            refine zBlkR (M := mX10_wordAt) (nL := 8) (rt := (Option.some .int)) (blk := bX10_wordAt_57) (T := [(95, bX10_wordAt_95), (96, bX10_wordAt_96)]) 1 hX10_wordAt_57 (zChks_cons hX10_wordAt_95 (zChks_cons hX10_wordAt_96 zChks_nil)) rfl rfl rfl (Nat.le_of_ble_eq_true rfl) (Nat.le_of_ble_eq_true rfl) ?_
            simp (implicitDefEqProofs := false) only [bX10_wordAt_57, bX10_wordAt_95, bX10_wordAt_96, zRun_cons, zRun_nil, zLk, zSto, zIns, zFil, zf0, zf1, zf2, zf3, List.filter_cons, List.filter_nil, Nat.reduceAdd, Nat.reduceEqDiff, Nat.reduceLT, Nat.reduceLeDiff, Nat.reduceBEq, Nat.reduceBNe, reduceIte, if_true, if_false, Bool.false_and, Bool.true_and, Bool.and_true, Bool.and_false, Bool.not_false, Bool.not_true, Bool.false_eq_true, beq_self_eq_true, BEq.rfl, zCat1, zCat2, zCat3, zKdI, zKdL, zKdR, true_and, and_true, zSI, zSL, zSR, zu_at, and_self, and_false, false_and, lv_args, zKdZ, zKdO, zB01, zB11, Option.toList_none, Option.toList_some, List.nil_append, List.cons_append, true_or, or_true, zRow_rd, zu_rd, zo_iload, zo_icmp_ge, zo_if_eq, zo_aload_n, zo_getfield, zo_iadd, zo_iaload, zo_iload_n, zo_icmp_ne, zo_iconst, zo_goto, zo_istore, zo_iinc, zi_1, zi_0, zKd_10_3, zKd_10_0, sh_87, rf_87_3, sh_89, rf_87_0, sh_88, zcl_1, zcl_0, zvi_1_136, zvi_1_700, zvi_0_136, zvi_0_700, zKn_s, zKn_0, zFind, hx5, zN10, zN01, not_true_eq_false, not_false_eq_true, false_implies, true_implies, implies_true, eq_self, nI_1, nI_40, nI_7, vz0, vz1, zb1_e0, zb1_n0]
            exact key
          · have hx5 : (nI (mWn k) ≤ 0) = False := eq_false hl
            refine zBlkR (M := mX10_wordAt) (nL := 8) (rt := (Option.some .int)) (blk := bX10_wordAt_57) (T := [(95, bX10_wordAt_95), (96, bX10_wordAt_96)]) 1 hX10_wordAt_57 (zChks_cons hX10_wordAt_95 (zChks_cons hX10_wordAt_96 zChks_nil)) rfl rfl rfl (Nat.le_of_ble_eq_true rfl) (Nat.le_of_ble_eq_true rfl) ?_
            simp (implicitDefEqProofs := false) only [bX10_wordAt_57, bX10_wordAt_95, bX10_wordAt_96, zRun_cons, zRun_nil, zLk, zSto, zIns, zFil, zf0, zf1, zf2, zf3, List.filter_cons, List.filter_nil, Nat.reduceAdd, Nat.reduceEqDiff, Nat.reduceLT, Nat.reduceLeDiff, Nat.reduceBEq, Nat.reduceBNe, reduceIte, if_true, if_false, Bool.false_and, Bool.true_and, Bool.and_true, Bool.and_false, Bool.not_false, Bool.not_true, Bool.false_eq_true, beq_self_eq_true, BEq.rfl, zCat1, zCat2, zCat3, zKdI, zKdL, zKdR, true_and, and_true, zSI, zSL, zSR, zu_at, and_self, and_false, false_and, lv_args, zKdZ, zKdO, zB01, zB11, Option.toList_none, Option.toList_some, List.nil_append, List.cons_append, true_or, or_true, zRow_rd, zu_rd, zo_iload, zo_icmp_ge, zo_if_eq, zo_aload_n, zo_getfield, zo_iadd, zo_iaload, zo_iload_n, zo_icmp_ne, zo_iconst, zo_goto, zo_istore, zo_iinc, zi_1, zi_0, zKd_10_3, zKd_10_0, sh_87, rf_87_3, sh_89, rf_87_0, sh_88, zcl_1, zcl_0, zvi_1_136, zvi_1_700, zvi_0_136, zvi_0_700, zKn_s, zKn_0, zFind, hx5, zN10, zN01, not_true_eq_false, not_false_eq_true, false_implies, true_implies, implies_true, eq_self, nI_1, nI_40, nI_7, vz0, vz1, zb1_e0, zb1_n0]
            exact key
        refine zBlkR (M := mX10_wordAt) (nL := 8) (rt := (Option.some .int)) (blk := bX10_wordAt_18) (T := [(39, bX10_wordAt_39), (51, bX10_wordAt_51), (52, bX10_wordAt_52)]) 2 hX10_wordAt_18 (zChks_cons hX10_wordAt_39 (zChks_cons hX10_wordAt_51 (zChks_cons hX10_wordAt_52 zChks_nil))) rfl rfl rfl (Nat.le_of_ble_eq_true rfl) (Nat.le_of_ble_eq_true rfl) ?_
        simp (implicitDefEqProofs := false) only [bX10_wordAt_18, bX10_wordAt_39, bX10_wordAt_51, bX10_wordAt_52, zRun_cons, zRun_nil, zLk, zSto, zIns, zFil, zf0, zf1, zf2, zf3, List.filter_cons, List.filter_nil, Nat.reduceAdd, Nat.reduceEqDiff, Nat.reduceLT, Nat.reduceLeDiff, Nat.reduceBEq, Nat.reduceBNe, reduceIte, if_true, if_false, Bool.false_and, Bool.true_and, Bool.and_true, Bool.and_false, Bool.not_false, Bool.not_true, Bool.false_eq_true, beq_self_eq_true, BEq.rfl, zCat1, zCat2, zCat3, zKdI, zKdL, zKdR, true_and, and_true, zSI, zSL, zSR, zu_at, and_self, and_false, false_and, lv_args, zKdZ, zKdO, zB01, zB11, Option.toList_none, Option.toList_some, List.nil_append, List.cons_append, true_or, or_true, zRow_rd, zu_rd, zo_aload_n, zo_getfield, zo_iload, zo_iadd, zo_iaload, zo_bipush, zo_icmp_eq, zo_iinc, zo_goto, zo_iload_n, zo_isub, zo_icmp_ne, zo_iconst, zo_istore, zb_32, zi_1, zi_0, zKd_10_3, sh_87, rf_87_3, sh_89, zcl_32, zcl_1, zcl_0, zvi_32_136, zvi_1_136, zvi_0_136, zKn_s, zKn_0, zFind, e2, hv, hb, ea, hx2, hx4, nI_clamp (n := mWf k + mWn k) (by omega), zN10, zN01, not_true_eq_false, not_false_eq_true, false_implies, true_implies, implies_true, eq_self, nI_1, nI_40, nI_7, vz0, vz1, zb1_e0, zb1_n0]
        exact k57
    · have hm := mW_l k (by omega) d (by omega)
      have hx2 : (nI (mWa (mWf k + d)) = 32) = False := eq_false (by rw [show (32 : Int32) = nI 32 from rfl, zeq_nat (by omega) (by omega)]; omega)
      refine zBlkR (M := mX10_wordAt) (nL := 8) (rt := (Option.some .int)) (blk := bX10_wordAt_18) (T := [(39, bX10_wordAt_39), (51, bX10_wordAt_51), (52, bX10_wordAt_52)]) 2 hX10_wordAt_18 (zChks_cons hX10_wordAt_39 (zChks_cons hX10_wordAt_51 (zChks_cons hX10_wordAt_52 zChks_nil))) rfl rfl rfl (Nat.le_of_ble_eq_true rfl) (Nat.le_of_ble_eq_true rfl) ?_
      simp (implicitDefEqProofs := false) only [bX10_wordAt_18, bX10_wordAt_39, bX10_wordAt_51, bX10_wordAt_52, zRun_cons, zRun_nil, zLk, zSto, zIns, zFil, zf0, zf1, zf2, zf3, List.filter_cons, List.filter_nil, Nat.reduceAdd, Nat.reduceEqDiff, Nat.reduceLT, Nat.reduceLeDiff, Nat.reduceBEq, Nat.reduceBNe, reduceIte, if_true, if_false, Bool.false_and, Bool.true_and, Bool.and_true, Bool.and_false, Bool.not_false, Bool.not_true, Bool.false_eq_true, beq_self_eq_true, BEq.rfl, zCat1, zCat2, zCat3, zKdI, zKdL, zKdR, true_and, and_true, zSI, zSL, zSR, zu_at, and_self, and_false, false_and, lv_args, zKdZ, zKdO, zB01, zB11, Option.toList_none, Option.toList_some, List.nil_append, List.cons_append, true_or, or_true, zRow_rd, zu_rd, zo_aload_n, zo_getfield, zo_iload, zo_iadd, zo_iaload, zo_bipush, zo_icmp_eq, zo_iinc, zo_goto, zo_iload_n, zo_isub, zo_icmp_ne, zo_iconst, zo_istore, zb_32, zi_1, zi_0, zKd_10_3, sh_87, rf_87_3, sh_89, zcl_32, zcl_1, zcl_0, zvi_32_136, zvi_1_136, zvi_0_136, zKn_s, zKn_0, zFind, hv, hb, ea, hx2, nI_1, nI_clamp (n := mWf k + d) (by omega), zN10, zN01, not_true_eq_false, not_false_eq_true, false_implies, true_implies, implies_true, eq_self, nI_1, nI_40, nI_7, vz0, vz1, zb1_e0, zb1_n0]
      exact ih2 (by omega)
end ZN98n
end

section
/-! ===== TOKENS: one token of the reference ===== -/
def SRj (i k : Nat) : Prop := i = 87 ∧ 7 ≤ k ∧ k ≤ 10
def rKd (k : Nat) : Nat := if k = 0 then 0 else if k = 1 then 6 else if k = 2 then 3 else if k = 3 then 2 else if k < 7 then 4 else if k < 13 then 5 else if k < 20 then 4 else 1
def rWh (k : Nat) : Nat := ([0, 0, 0, 0, 59, 40, 41, 0, 1, 2, 3, 4, 5, 43, 45, 42, 47, 0, 0, 0, 20, 21, 22, 23, 24, 25, 26, 5, 1, 6, 7, 8, 9, 10, 0, 13, 2, 3, 4, 11, 12, 14, 15, 16, 18, 17, 19] : List Nat).getD k 0
/-- two readings of a number: alike, or both beyond every bound -/
def nRel (n m : Nat) : Prop := n ≤ 1000000 ∧ m ≤ 1000000 ∧ (n = m ∨ (99999 < n ∧ 99999 < m))
/-- the reference's token beside the class's -/
def tRel (k : Nat) (v kd wh : Int32) : Prop := k < 47 ∧ ((k = 1 ∧ kd = 4 ∧ wh = 37) ∨ (kd = nI (rKd k) ∧ (k = 2 → ∃ n m, v = nI n ∧ wh = nI m ∧ nRel n m) ∧ (k = 3 → wh = v) ∧ (4 ≤ k → wh = nI (rWh k))))
/-- digits as the reference reads them -/
def oNr (T : Nat → Nat) : Nat → Nat → Nat → Nat × Nat
  | 0, i, v => (i, v)
  | n + 1, i, v => if oDig (T i) = true then oNr T n (i + 1) (if 99999 < v then v else 10 * v + T i - 48) else (i, v)
section ZN98o
variable {w : zP} {Q : Option Value → zMem → Prop} {μ : zMem} {I J : Nat → Nat → Int32} {L K : Nat → Nat → Int64} {p s : Nat} {r : Option Nat} {a b c i j k n e m sp : Nat} {x y v kd wh : Int32} {T : Nat → Nat} {W : Nat → Int32} {f g : Nat → Nat}
theorem oNm_rel {T : Nat → Nat} : ∀ n i v u, nRel v u → (oNm T n i v).1 = (oNr T n i u).1 ∧ nRel (oNm T n i v).2 (oNr T n i u).2
  | 0, i, v, u, h => ⟨rfl, h⟩
  | n + 1, i, v, u, h => by
    unfold oNm oNr
    split
    · rename_i hd
      have hb := oDig_lo hd
      refine oNm_rel n (i + 1) _ _ ?_
      unfold nRel at h ⊢
      split <;> omega
    · exact ⟨rfl, h⟩
theorem rKd_lt : ∀ k, rKd k < 7 := fun k => by unfold rKd; repeat' split
                                               all_goals omega
theorem rWh_lt : ∀ k, k < 47 → rWh k < 60 := by decide +kernel
theorem rKd_4 : ∀ k, k < 47 → rKd k = 4 → 4 ≤ k := by decide +kernel
theorem rKd_1 : ∀ k, k < 47 → rKd k = 1 → 4 ≤ k := by decide +kernel
theorem tRel_sign {c kk : Nat} (hc : c < 1000) (h37 : c ≠ 37) (h : ∀ k, k < 47 → ((rKd k = 4 ∧ rWh k = c) ↔ k = kk)) (ht : tRel k v kd wh) : (decide (kd = 4) && decide (wh = nI c)) = decide (k = kk) := by
  obtain ⟨hk, h1 | ⟨h1, h2, h3, h4⟩⟩ := ht
  · obtain ⟨rfl, rfl, rfl⟩ := h1
    have e : (37 : Int32) = nI c ↔ False := ⟨fun q => h37 ((nI_eq (a := 37) (by omega) (by omega)).mp q).symm, False.elim⟩
    have := (h 1 (by omega))
    have n1 : ¬ (1 : Nat) = kk := fun q => by have := (this.mpr q).1; revert this; decide
    rw [decide_eq_false n1, decide_eq_false (p := (37 : Int32) = nI c) e.mp]; rfl
  · have hr := rKd_lt k
    by_cases g : rKd k = 4
    · have k4 := rKd_4 k hk g
      rw [h1, h4 k4, g]
      have hw := rWh_lt k hk
      rw [show decide (nI 4 = (4 : Int32)) = true from rfl, Bool.true_and]
      by_cases q : rWh k = c
      · rw [decide_eq_true ((h k hk).mp ⟨g, q⟩), q]; simp
      · rw [decide_eq_false (fun z => q ((h k hk).mpr z).2), decide_eq_false (fun z => q ((nI_eq (by omega) (by omega)).mp z))]
    · have n1 : ¬ kd = 4 := fun q => g ((nI_eq (b := 4) (by omega) (by omega)).mp (h1 ▸ q))
      rw [decide_eq_false n1, decide_eq_false (fun z => g ((h k hk).mpr z).1)]; rfl
theorem tRel_key {c kk : Nat} (hc : c < 1000) (h : ∀ k, k < 47 → ((rKd k = 1 ∧ rWh k = c) ↔ k = kk)) (ht : tRel k v kd wh) : (decide (kd = 1) && decide (wh = nI c)) = decide (k = kk) := by
  obtain ⟨hk, h1 | ⟨h1, h2, h3, h4⟩⟩ := ht
  · obtain ⟨rfl, rfl, rfl⟩ := h1
    have := (h 1 (by omega))
    have n1 : ¬ (1 : Nat) = kk := fun q => by have := (this.mpr q).1; revert this; decide
    rw [decide_eq_false n1]; rfl
  · have hr := rKd_lt k
    by_cases g : rKd k = 1
    · have k4 := rKd_1 k hk g
      rw [h1, h4 k4, g]
      have hw := rWh_lt k hk
      rw [show decide (nI 1 = (1 : Int32)) = true from rfl, Bool.true_and]
      by_cases q : rWh k = c
      · rw [decide_eq_true ((h k hk).mp ⟨g, q⟩), q]; simp
      · rw [decide_eq_false (fun z => q ((h k hk).mpr z).2), decide_eq_false (fun z => q ((nI_eq (by omega) (by omega)).mp z))]
    · have n1 : ¬ kd = 1 := fun q => g ((nI_eq (b := 1) (by omega) (by omega)).mp (h1 ▸ q))
      rw [decide_eq_false n1, decide_eq_false (fun z => g ((h k hk).mpr z).1)]; rfl
theorem tRel_kd {c kk : Nat} (hc : c < 7) (h4 : c ≠ 4) (h6 : c ≠ 6) (h : ∀ k, k < 47 → (rKd k = c ↔ k = kk)) (ht : tRel k v kd wh) : (kd = nI c) = (k = kk) := by
  obtain ⟨hk, h1 | ⟨h1, -⟩⟩ := ht
  · obtain ⟨rfl, rfl, -⟩ := h1
    refine propext ⟨fun q => absurd ((nI_eq (a := 4) (by omega) (by omega)).mp q).symm h4, fun q => ?_⟩
    have h0 := (h 1 (by omega)).mpr q
    exact absurd h0 (by rw [show rKd 1 = 6 from rfl]; exact fun z => h6 z.symm)
  · have hr := rKd_lt k
    rw [h1, zeq_nat (by omega) (by omega)]
    exact propext (h k hk)
theorem tS59 (ht : tRel k v kd wh) : (decide (kd = 4) && decide (wh = 59)) = decide (k = 4) := tRel_sign (c := 59) (by omega) (by omega) (by decide +kernel) ht
theorem tS40 (ht : tRel k v kd wh) : (decide (kd = 4) && decide (wh = 40)) = decide (k = 5) := tRel_sign (c := 40) (by omega) (by omega) (by decide +kernel) ht
theorem tS41 (ht : tRel k v kd wh) : (decide (kd = 4) && decide (wh = 41)) = decide (k = 6) := tRel_sign (c := 41) (by omega) (by omega) (by decide +kernel) ht
theorem tS43 (ht : tRel k v kd wh) : (decide (kd = 4) && decide (wh = 43)) = decide (k = 13) := tRel_sign (c := 43) (by omega) (by omega) (by decide +kernel) ht
theorem tS45 (ht : tRel k v kd wh) : (decide (kd = 4) && decide (wh = 45)) = decide (k = 14) := tRel_sign (c := 45) (by omega) (by omega) (by decide +kernel) ht
theorem tS42 (ht : tRel k v kd wh) : (decide (kd = 4) && decide (wh = 42)) = decide (k = 15) := tRel_sign (c := 42) (by omega) (by omega) (by decide +kernel) ht
theorem tS47 (ht : tRel k v kd wh) : (decide (kd = 4) && decide (wh = 47)) = decide (k = 16) := tRel_sign (c := 47) (by omega) (by omega) (by decide +kernel) ht
theorem tK13 (ht : tRel k v kd wh) : (decide (kd = 1) && decide (wh = 13)) = decide (k = 35) := tRel_key (c := 13) (by omega) (by decide +kernel) ht
theorem tK17 (ht : tRel k v kd wh) : (decide (kd = 1) && decide (wh = 17)) = decide (k = 45) := tRel_key (c := 17) (by omega) (by decide +kernel) ht
theorem tK18 (ht : tRel k v kd wh) : (decide (kd = 1) && decide (wh = 18)) = decide (k = 44) := tRel_key (c := 18) (by omega) (by decide +kernel) ht
theorem tK19 (ht : tRel k v kd wh) : (decide (kd = 1) && decide (wh = 19)) = decide (k = 46) := tRel_key (c := 19) (by omega) (by decide +kernel) ht
theorem tD0 (ht : tRel k v kd wh) : (kd = 0) = (k = 0) := tRel_kd (c := 0) (by omega) (by omega) (by omega) (by decide +kernel) ht
theorem tD3 (ht : tRel k v kd wh) : (kd = 3) = (k = 2) := tRel_kd (c := 3) (by omega) (by omega) (by omega) (by decide +kernel) ht
theorem tD2 (ht : tRel k v kd wh) : (kd = 2) = (k = 3) := tRel_kd (c := 2) (by omega) (by omega) (by omega) (by decide +kernel) ht
set_option maxRecDepth 20000 in
theorem mo_isSmallN (h6 : I 87 6 = nI e) (he : e ≤ 700) (hj : j ≤ e) (ht : ∀ k, k < e → I 88 k = nI (T k) ∧ T k < 256) (hQ : Q (some (.int (zb1 (decide (j < e) && oLet (T j))))) (SH, I, L, RF p s r)) : zXM w mX10_isSmall rX10_isSmall [.ref 87, .int (nI j)] (SH, I, L, RF p s r) Q := by
  refine mo_isSmall (by rw [show (nI j).toInt = (j : Int) from nI_toInt (by omega)]; omega) (by rw [h6, show (nI e).toInt = (e : Int) from nI_toInt (by omega)]; omega) ?_
  rw [h6, nI_clamp (by omega)]
  have x1 : decide (nI e ≤ nI j) = decide (e ≤ j) := by simp only [show (nI e ≤ nI j) = (e ≤ j) from zle_nat (by omega) (by omega)]
  rw [x1]
  by_cases hje : j < e
  · obtain ⟨t1, t2⟩ := ht j hje
    simp only [t1, show (97 : Int32) = nI 97 from rfl, show (122 : Int32) = nI 122 from rfl, zlt_nat (a := T j) (b := 97) (by omega) (by omega), zlt_nat (a := 122) (b := T j) (by omega) (by omega)]
    have e1 : (!decide (e ≤ j) && !decide (T j < 97) && !decide (122 < T j)) = (decide (j < e) && oLet (T j)) := by
      unfold oLet
      rw [show decide (e ≤ j) = false from decide_eq_false (by omega), decide_eq_true hje]
      by_cases g1 : T j < 97 <;> by_cases g2 : 122 < T j <;> simp [g1, g2] <;> omega
    rw [e1]; exact hQ
  · rw [show decide (e ≤ j) = true from decide_eq_true (by omega)]
    rw [decide_eq_false hje] at hQ
    exact hQ
set_option maxRecDepth 20000 in
theorem mo_isDigitN (h6 : I 87 6 = nI e) (he : e ≤ 700) (hj : j ≤ e) (ht : ∀ k, k < e → I 88 k = nI (T k) ∧ T k < 256) (hQ : Q (some (.int (zb1 (decide (j < e) && oDig (T j))))) (SH, I, L, RF p s r)) : zXM w mX10_isDigit rX10_isDigit [.ref 87, .int (nI j)] (SH, I, L, RF p s r) Q := by
  refine mo_isDigit (by rw [show (nI j).toInt = (j : Int) from nI_toInt (by omega)]; omega) (by rw [h6, show (nI e).toInt = (e : Int) from nI_toInt (by omega)]; omega) ?_
  rw [h6, nI_clamp (by omega)]
  have x1 : decide (nI e ≤ nI j) = decide (e ≤ j) := by simp only [show (nI e ≤ nI j) = (e ≤ j) from zle_nat (by omega) (by omega)]
  rw [x1]
  by_cases hje : j < e
  · obtain ⟨t1, t2⟩ := ht j hje
    simp only [t1, show (48 : Int32) = nI 48 from rfl, show (57 : Int32) = nI 57 from rfl, zlt_nat (a := T j) (b := 48) (by omega) (by omega), zlt_nat (a := 57) (b := T j) (by omega) (by omega)]
    have e1 : (!decide (e ≤ j) && !decide (T j < 48) && !decide (57 < T j)) = (decide (j < e) && oDig (T j)) := by
      unfold oDig
      rw [show decide (e ≤ j) = false from decide_eq_false (by omega), decide_eq_true hje]
      by_cases g1 : T j < 48 <;> by_cases g2 : 57 < T j <;> simp [g1, g2] <;> omega
    rw [e1]; exact hQ
  · rw [show decide (e ≤ j) = true from decide_eq_true (by omega)]
    rw [decide_eq_false hje] at hQ
    exact hQ
/-- a mark's kind and the reference's -/
theorem oMk_w0 : ∀ b, b < 256 → (b = 60 ∨ b = 62 ∨ b = 61 ∨ oMk b = 1 ∨ (oMk b < 47 ∧ 4 ≤ oMk b ∧ rKd (oMk b) = 4 ∧ rWh (oMk b) = b)) := by decide +kernel
theorem oMk_w (b : Nat) (hb : b < 256) (h1 : b ≠ 60) (h2 : b ≠ 62) (h3 : b ≠ 61) : oMk b = 1 ∨ (oMk b < 47 ∧ 4 ≤ oMk b ∧ rKd (oMk b) = 4 ∧ rWh (oMk b) = b) := by
  rcases oMk_w0 b hb with h | h | h | h
  · exact absurd h h1
  · exact absurd h h2
  · exact absurd h h3
  · exact h
theorem oMk_10 : ∀ b, b < 256 → (b = 61 ∨ (oMk b = 1 ↔ ¬ (b = 59 ∨ b = 40 ∨ b = 41 ∨ b = 43 ∨ b = 45 ∨ b = 42 ∨ b = 47))) := by decide +kernel
theorem oMk_1 (b : Nat) (hb : b < 256) (h1 : b ≠ 61) : (oMk b = 1 ↔ ¬ (b = 59 ∨ b = 40 ∨ b = 41 ∨ b = 43 ∨ b = 45 ∨ b = 42 ∨ b = 47)) := (oMk_10 b hb).resolve_left h1
set_option maxRecDepth 20000 in
theorem mo_signToken (h6 : I 87 6 = nI e) (h7 : I 87 7 = nI sp) (hs : sp < e) (he : e ≤ 700) (ht : ∀ k, k < e → I 88 k = nI (T k) ∧ T k < 256) (hQ : ∀ I', zKpt SRj I I' → I' 87 10 = I 87 10 → I' 87 7 = nI (oMr T e sp).1 → tRel (oMr T e sp).2 0 (I' 87 8) (I' 87 9) → Q none (SH, I', L, RF p s r)) : zXM w mX10_signToken rX10_signToken [.ref 87] (SH, I, L, RF p s r) Q := by
  unfold zXM
  obtain ⟨t1, t2⟩ := ht sp hs
  have hv : vp_in (nI sp) 700 := zvn (by omega) (by omega)
  have y : ∀ c, c < 256 → (nI (T sp) = nI c) = (T sp = c) := fun c hc => zeq_nat (by omega) (by omega)
  have y60 : (nI (T sp) = 60) = (T sp = 60) := y 60 (by omega)
  have y61 : (nI (T sp) = 61) = (T sp = 61) := y 61 (by omega)
  have y62 : (nI (T sp) = 62) = (T sp = 62) := y 62 (by omega)
  have kA : ∀ (x y z : Int32), zKpt SRj I (zu (zu (zu (zu I 87 9 x) 87 7 (nI (sp + 1))) 87 8 y) 87 9 z) := fun x y z => (((zKpt_rfl.u (by unfold SRj; omega)).u (by unfold SRj; omega)).u (by unfold SRj; omega)).u (by unfold SRj; omega)
  have kB : ∀ (x y z u : Int32), zKpt SRj I (zu (zu (zu (zu (zu I 87 9 x) 87 7 (nI (sp + 1))) 87 7 u) 87 8 y) 87 9 z) := fun x y z u => ((((zKpt_rfl.u (by unfold SRj; omega)).u (by unfold SRj; omega)).u (by unfold SRj; omega)).u (by unfold SRj; omega)).u (by unfold SRj; omega)
  by_cases hc : T sp = 60 ∨ T sp = 62 ∨ T sp = 61
  · by_cases hn : sp + 1 < e
    · have hx : (nI e ≤ nI (sp + 1)) = False := eq_false (by rw [zle_nat (by omega) (by omega)]; omega)
      have hv2 : vp_in (nI (sp + 1)) 700 := zvn (by omega) (by omega)
      obtain ⟨t3, t4⟩ := ht (sp + 1) hn
      have z61 : (nI (T (sp + 1)) = 61) = (T (sp + 1) = 61) := zeq_nat (b := 61) (by omega) (by omega)
      have z62 : (nI (T (sp + 1)) = 62) = (T (sp + 1) = 62) := zeq_nat (b := 62) (by omega) (by omega)
      rcases hc with g | g | g
      · have x1 : (T sp = 60) = True := eq_true g
        have x2 : (T sp = 61) = False := eq_false (by omega)
        have x3 : (T sp = 62) = False := eq_false (by omega)
        by_cases c1 : T (sp + 1) = 61
        · have q1 : (T (sp + 1) = 61) = True := eq_true c1
          have q2 : (T (sp + 1) = 62) = False := eq_false (by omega)
          have hm : oMr T e sp = (sp + 2, 8) := by
            unfold oMr; rw [if_pos (Or.inl g), if_pos hn]
            unfold oCp; simp [g, c1]
          rw [hm] at hQ
          refine zBlkR (M := mX10_signToken) (nL := 4) (rt := (Option.none : Option Jvm.ClassFile.FieldType)) (blk := bX10_signToken_0) (T := [(50, bX10_signToken_50), (73, bX10_signToken_73), (74, bX10_signToken_74), (94, bX10_signToken_94), (95, bX10_signToken_95), (115, bX10_signToken_115), (116, bX10_signToken_116), (125, bX10_signToken_125), (135, bX10_signToken_135), (154, bX10_signToken_154), (171, bX10_signToken_171), (179, bX10_signToken_179), (183, bX10_signToken_183), (191, bX10_signToken_191), (192, bX10_signToken_192), (198, bX10_signToken_198), (270, bX10_signToken_270), (274, bX10_signToken_274), (275, bX10_signToken_275), (285, bX10_signToken_285), (287, bX10_signToken_287), (290, bX10_signToken_290)]) 10 hX10_signToken_0 (zChks_cons hX10_signToken_50 (zChks_cons hX10_signToken_73 (zChks_cons hX10_signToken_74 (zChks_cons hX10_signToken_94 (zChks_cons hX10_signToken_95 (zChks_cons hX10_signToken_115 (zChks_cons hX10_signToken_116 (zChks_cons hX10_signToken_125 (zChks_cons hX10_signToken_135 (zChks_cons hX10_signToken_154 (zChks_cons hX10_signToken_171 (zChks_cons hX10_signToken_179 (zChks_cons hX10_signToken_183 (zChks_cons hX10_signToken_191 (zChks_cons hX10_signToken_192 (zChks_cons hX10_signToken_198 (zChks_cons hX10_signToken_270 (zChks_cons hX10_signToken_274 (zChks_cons hX10_signToken_275 (zChks_cons hX10_signToken_285 (zChks_cons hX10_signToken_287 (zChks_cons hX10_signToken_290 zChks_nil)))))))))))))))))))))) rfl rfl rfl (Nat.le_of_ble_eq_true rfl) (Nat.le_of_ble_eq_true rfl) ?_
          simp (implicitDefEqProofs := false) only [bX10_signToken_0, bX10_signToken_50, bX10_signToken_73, bX10_signToken_74, bX10_signToken_94, bX10_signToken_95, bX10_signToken_115, bX10_signToken_116, bX10_signToken_125, bX10_signToken_135, bX10_signToken_154, bX10_signToken_171, bX10_signToken_179, bX10_signToken_183, bX10_signToken_191, bX10_signToken_192, bX10_signToken_198, bX10_signToken_270, bX10_signToken_274, bX10_signToken_275, bX10_signToken_285, bX10_signToken_287, bX10_signToken_290, zRun_cons, zRun_nil, zLk, zSto, zIns, zFil, zf0, zf1, zf2, zf3, List.filter_cons, List.filter_nil, Nat.reduceAdd, Nat.reduceEqDiff, Nat.reduceLT, Nat.reduceLeDiff, Nat.reduceBEq, Nat.reduceBNe, reduceIte, if_true, if_false, Bool.false_and, Bool.true_and, Bool.and_true, Bool.and_false, Bool.not_false, Bool.not_true, Bool.false_eq_true, beq_self_eq_true, BEq.rfl, zCat1, zCat2, zCat3, zKdI, zKdL, zKdR, true_and, and_true, zSI, zSL, zSR, zu_at, and_self, and_false, false_and, lv_args, zKdZ, zKdO, zB01, zB11, Option.toList_none, Option.toList_some, List.nil_append, List.cons_append, true_or, or_true, zRow_rd, zu_rd, zo_aload_n, zo_getfield, zo_iaload, zo_putfield, zo_putfield_2, zo_putfield_3, zo_dup, zo_iconst, zo_iadd, zo_bipush, zo_icmp_eq, zo_icmp_ne, zo_icmp_ge, zo_goto, zo_istore_n, zo_iload_n, zo_if_ne, zo_if_eq, zo_return_, zi_1, zb_60, zb_62, zb_61, zi_0, zi_5, zi_2, zi_3, zi_4, zb_59, zb_40, zb_41, zb_43, zb_45, zb_42, zb_47, zb_37, zb_6, zKd_10_0, zKd_10_7, zKd_10_9, zTy_10_9, zTy_10_7, zKd_10_6, zKd_10_8, zTy_10_8, sh_87, rf_87_0, sh_88, zcl_1, zcl_60, zcl_62, zcl_61, zcl_0, zcl_5, zcl_2, zcl_3, zcl_4, zcl_59, zcl_40, zcl_41, zcl_43, zcl_45, zcl_42, zcl_47, zcl_37, zcl_6, zvi_1_700, zvi_60_700, zvi_62_700, zvi_61_700, zvi_0_700, zvi_5_700, zvi_2_700, zvi_3_700, zvi_4_700, zvi_59_700, zvi_40_700, zvi_41_700, zvi_43_700, zvi_45_700, zvi_42_700, zvi_47_700, zvi_37_700, zvi_6_700, zPutC, zKn_s, zKn_0, zFind, h6, h7, hv, t1, nI_1, y60, y61, y62, x1, x2, x3, hx, hv2, t3, z61, z62, q1, q2, nI_clamp (n := sp) (by omega), nI_clamp (n := sp + 1) (by omega), zN10, zN01, not_true_eq_false, not_false_eq_true, false_implies, true_implies, implies_true, eq_self, nI_1, nI_40, nI_7, vz0, vz1, zb1_e0, zb1_n0]
          exact hQ _ (kB _ _ _ _) (by simp [zu_at]) (by simp [zu_at]) (by simp [zu_at, tRel]; decide)
        · have q1 : (T (sp + 1) = 61) = False := eq_false c1
          by_cases c2 : T (sp + 1) = 62
          · have q2 : (T (sp + 1) = 62) = True := eq_true c2
            have hm : oMr T e sp = (sp + 2, 10) := by
              unfold oMr; rw [if_pos (Or.inl g), if_pos hn]
              unfold oCp; simp [g, c2]
            rw [hm] at hQ
            refine zBlkR (M := mX10_signToken) (nL := 4) (rt := (Option.none : Option Jvm.ClassFile.FieldType)) (blk := bX10_signToken_0) (T := [(50, bX10_signToken_50), (73, bX10_signToken_73), (74, bX10_signToken_74), (94, bX10_signToken_94), (95, bX10_signToken_95), (115, bX10_signToken_115), (116, bX10_signToken_116), (125, bX10_signToken_125), (135, bX10_signToken_135), (154, bX10_signToken_154), (171, bX10_signToken_171), (179, bX10_signToken_179), (183, bX10_signToken_183), (191, bX10_signToken_191), (192, bX10_signToken_192), (198, bX10_signToken_198), (270, bX10_signToken_270), (274, bX10_signToken_274), (275, bX10_signToken_275), (285, bX10_signToken_285), (287, bX10_signToken_287), (290, bX10_signToken_290)]) 10 hX10_signToken_0 (zChks_cons hX10_signToken_50 (zChks_cons hX10_signToken_73 (zChks_cons hX10_signToken_74 (zChks_cons hX10_signToken_94 (zChks_cons hX10_signToken_95 (zChks_cons hX10_signToken_115 (zChks_cons hX10_signToken_116 (zChks_cons hX10_signToken_125 (zChks_cons hX10_signToken_135 (zChks_cons hX10_signToken_154 (zChks_cons hX10_signToken_171 (zChks_cons hX10_signToken_179 (zChks_cons hX10_signToken_183 (zChks_cons hX10_signToken_191 (zChks_cons hX10_signToken_192 (zChks_cons hX10_signToken_198 (zChks_cons hX10_signToken_270 (zChks_cons hX10_signToken_274 (zChks_cons hX10_signToken_275 (zChks_cons hX10_signToken_285 (zChks_cons hX10_signToken_287 (zChks_cons hX10_signToken_290 zChks_nil)))))))))))))))))))))) rfl rfl rfl (Nat.le_of_ble_eq_true rfl) (Nat.le_of_ble_eq_true rfl) ?_
            simp (implicitDefEqProofs := false) only [bX10_signToken_0, bX10_signToken_50, bX10_signToken_73, bX10_signToken_74, bX10_signToken_94, bX10_signToken_95, bX10_signToken_115, bX10_signToken_116, bX10_signToken_125, bX10_signToken_135, bX10_signToken_154, bX10_signToken_171, bX10_signToken_179, bX10_signToken_183, bX10_signToken_191, bX10_signToken_192, bX10_signToken_198, bX10_signToken_270, bX10_signToken_274, bX10_signToken_275, bX10_signToken_285, bX10_signToken_287, bX10_signToken_290, zRun_cons, zRun_nil, zLk, zSto, zIns, zFil, zf0, zf1, zf2, zf3, List.filter_cons, List.filter_nil, Nat.reduceAdd, Nat.reduceEqDiff, Nat.reduceLT, Nat.reduceLeDiff, Nat.reduceBEq, Nat.reduceBNe, reduceIte, if_true, if_false, Bool.false_and, Bool.true_and, Bool.and_true, Bool.and_false, Bool.not_false, Bool.not_true, Bool.false_eq_true, beq_self_eq_true, BEq.rfl, zCat1, zCat2, zCat3, zKdI, zKdL, zKdR, true_and, and_true, zSI, zSL, zSR, zu_at, and_self, and_false, false_and, lv_args, zKdZ, zKdO, zB01, zB11, Option.toList_none, Option.toList_some, List.nil_append, List.cons_append, true_or, or_true, zRow_rd, zu_rd, zo_aload_n, zo_getfield, zo_iaload, zo_putfield, zo_putfield_2, zo_putfield_3, zo_dup, zo_iconst, zo_iadd, zo_bipush, zo_icmp_eq, zo_icmp_ne, zo_icmp_ge, zo_goto, zo_istore_n, zo_iload_n, zo_if_ne, zo_if_eq, zo_return_, zi_1, zb_60, zb_62, zb_61, zi_0, zi_5, zi_2, zi_3, zi_4, zb_59, zb_40, zb_41, zb_43, zb_45, zb_42, zb_47, zb_37, zb_6, zKd_10_0, zKd_10_7, zKd_10_9, zTy_10_9, zTy_10_7, zKd_10_6, zKd_10_8, zTy_10_8, sh_87, rf_87_0, sh_88, zcl_1, zcl_60, zcl_62, zcl_61, zcl_0, zcl_5, zcl_2, zcl_3, zcl_4, zcl_59, zcl_40, zcl_41, zcl_43, zcl_45, zcl_42, zcl_47, zcl_37, zcl_6, zvi_1_700, zvi_60_700, zvi_62_700, zvi_61_700, zvi_0_700, zvi_5_700, zvi_2_700, zvi_3_700, zvi_4_700, zvi_59_700, zvi_40_700, zvi_41_700, zvi_43_700, zvi_45_700, zvi_42_700, zvi_47_700, zvi_37_700, zvi_6_700, zPutC, zKn_s, zKn_0, zFind, h6, h7, hv, t1, nI_1, y60, y61, y62, x1, x2, x3, hx, hv2, t3, z61, z62, q1, q2, nI_clamp (n := sp) (by omega), nI_clamp (n := sp + 1) (by omega), zN10, zN01, not_true_eq_false, not_false_eq_true, false_implies, true_implies, implies_true, eq_self, nI_1, nI_40, nI_7, vz0, vz1, zb1_e0, zb1_n0]
            exact hQ _ (kB _ _ _ _) (by simp [zu_at]) (by simp [zu_at]) (by simp [zu_at, tRel]; decide)
          · have q2 : (T (sp + 1) = 62) = False := eq_false c2
            have hm : oMr T e sp = (sp + 1, 7) := by
              unfold oMr; rw [if_pos (Or.inl g), if_pos hn]
              unfold oCp; simp [g, c1, c2]
            rw [hm] at hQ
            refine zBlkR (M := mX10_signToken) (nL := 4) (rt := (Option.none : Option Jvm.ClassFile.FieldType)) (blk := bX10_signToken_0) (T := [(50, bX10_signToken_50), (73, bX10_signToken_73), (74, bX10_signToken_74), (94, bX10_signToken_94), (95, bX10_signToken_95), (115, bX10_signToken_115), (116, bX10_signToken_116), (125, bX10_signToken_125), (135, bX10_signToken_135), (154, bX10_signToken_154), (171, bX10_signToken_171), (179, bX10_signToken_179), (183, bX10_signToken_183), (191, bX10_signToken_191), (192, bX10_signToken_192), (198, bX10_signToken_198), (270, bX10_signToken_270), (274, bX10_signToken_274), (275, bX10_signToken_275), (285, bX10_signToken_285), (287, bX10_signToken_287), (290, bX10_signToken_290)]) 10 hX10_signToken_0 (zChks_cons hX10_signToken_50 (zChks_cons hX10_signToken_73 (zChks_cons hX10_signToken_74 (zChks_cons hX10_signToken_94 (zChks_cons hX10_signToken_95 (zChks_cons hX10_signToken_115 (zChks_cons hX10_signToken_116 (zChks_cons hX10_signToken_125 (zChks_cons hX10_signToken_135 (zChks_cons hX10_signToken_154 (zChks_cons hX10_signToken_171 (zChks_cons hX10_signToken_179 (zChks_cons hX10_signToken_183 (zChks_cons hX10_signToken_191 (zChks_cons hX10_signToken_192 (zChks_cons hX10_signToken_198 (zChks_cons hX10_signToken_270 (zChks_cons hX10_signToken_274 (zChks_cons hX10_signToken_275 (zChks_cons hX10_signToken_285 (zChks_cons hX10_signToken_287 (zChks_cons hX10_signToken_290 zChks_nil)))))))))))))))))))))) rfl rfl rfl (Nat.le_of_ble_eq_true rfl) (Nat.le_of_ble_eq_true rfl) ?_
            simp (implicitDefEqProofs := false) only [bX10_signToken_0, bX10_signToken_50, bX10_signToken_73, bX10_signToken_74, bX10_signToken_94, bX10_signToken_95, bX10_signToken_115, bX10_signToken_116, bX10_signToken_125, bX10_signToken_135, bX10_signToken_154, bX10_signToken_171, bX10_signToken_179, bX10_signToken_183, bX10_signToken_191, bX10_signToken_192, bX10_signToken_198, bX10_signToken_270, bX10_signToken_274, bX10_signToken_275, bX10_signToken_285, bX10_signToken_287, bX10_signToken_290, zRun_cons, zRun_nil, zLk, zSto, zIns, zFil, zf0, zf1, zf2, zf3, List.filter_cons, List.filter_nil, Nat.reduceAdd, Nat.reduceEqDiff, Nat.reduceLT, Nat.reduceLeDiff, Nat.reduceBEq, Nat.reduceBNe, reduceIte, if_true, if_false, Bool.false_and, Bool.true_and, Bool.and_true, Bool.and_false, Bool.not_false, Bool.not_true, Bool.false_eq_true, beq_self_eq_true, BEq.rfl, zCat1, zCat2, zCat3, zKdI, zKdL, zKdR, true_and, and_true, zSI, zSL, zSR, zu_at, and_self, and_false, false_and, lv_args, zKdZ, zKdO, zB01, zB11, Option.toList_none, Option.toList_some, List.nil_append, List.cons_append, true_or, or_true, zRow_rd, zu_rd, zo_aload_n, zo_getfield, zo_iaload, zo_putfield, zo_putfield_2, zo_putfield_3, zo_dup, zo_iconst, zo_iadd, zo_bipush, zo_icmp_eq, zo_icmp_ne, zo_icmp_ge, zo_goto, zo_istore_n, zo_iload_n, zo_if_ne, zo_if_eq, zo_return_, zi_1, zb_60, zb_62, zb_61, zi_0, zi_5, zi_2, zi_3, zi_4, zb_59, zb_40, zb_41, zb_43, zb_45, zb_42, zb_47, zb_37, zb_6, zKd_10_0, zKd_10_7, zKd_10_9, zTy_10_9, zTy_10_7, zKd_10_6, zKd_10_8, zTy_10_8, sh_87, rf_87_0, sh_88, zcl_1, zcl_60, zcl_62, zcl_61, zcl_0, zcl_5, zcl_2, zcl_3, zcl_4, zcl_59, zcl_40, zcl_41, zcl_43, zcl_45, zcl_42, zcl_47, zcl_37, zcl_6, zvi_1_700, zvi_60_700, zvi_62_700, zvi_61_700, zvi_0_700, zvi_5_700, zvi_2_700, zvi_3_700, zvi_4_700, zvi_59_700, zvi_40_700, zvi_41_700, zvi_43_700, zvi_45_700, zvi_42_700, zvi_47_700, zvi_37_700, zvi_6_700, zPutC, zKn_s, zKn_0, zFind, h6, h7, hv, t1, nI_1, y60, y61, y62, x1, x2, x3, hx, hv2, t3, z61, z62, q1, q2, nI_clamp (n := sp) (by omega), nI_clamp (n := sp + 1) (by omega), zN10, zN01, not_true_eq_false, not_false_eq_true, false_implies, true_implies, implies_true, eq_self, nI_1, nI_40, nI_7, vz0, vz1, zb1_e0, zb1_n0]
            exact hQ _ (kA _ _ _) (by simp [zu_at]) (by simp [zu_at]) (by simp [zu_at, tRel]; decide)
      · have x1 : (T sp = 60) = False := eq_false (by omega)
        have x2 : (T sp = 61) = False := eq_false (by omega)
        have x3 : (T sp = 62) = True := eq_true g
        by_cases c1 : T (sp + 1) = 61
        · have q1 : (T (sp + 1) = 61) = True := eq_true c1
          have q2 : (T (sp + 1) = 62) = False := eq_false (by omega)
          have hm : oMr T e sp = (sp + 2, 11) := by
            unfold oMr; rw [if_pos (Or.inr g), if_pos hn]
            unfold oCp; simp [g, c1]
          rw [hm] at hQ
          refine zBlkR (M := mX10_signToken) (nL := 4) (rt := (Option.none : Option Jvm.ClassFile.FieldType)) (blk := bX10_signToken_0) (T := [(50, bX10_signToken_50), (73, bX10_signToken_73), (74, bX10_signToken_74), (94, bX10_signToken_94), (95, bX10_signToken_95), (115, bX10_signToken_115), (116, bX10_signToken_116), (125, bX10_signToken_125), (135, bX10_signToken_135), (154, bX10_signToken_154), (171, bX10_signToken_171), (179, bX10_signToken_179), (183, bX10_signToken_183), (191, bX10_signToken_191), (192, bX10_signToken_192), (198, bX10_signToken_198), (270, bX10_signToken_270), (274, bX10_signToken_274), (275, bX10_signToken_275), (285, bX10_signToken_285), (287, bX10_signToken_287), (290, bX10_signToken_290)]) 10 hX10_signToken_0 (zChks_cons hX10_signToken_50 (zChks_cons hX10_signToken_73 (zChks_cons hX10_signToken_74 (zChks_cons hX10_signToken_94 (zChks_cons hX10_signToken_95 (zChks_cons hX10_signToken_115 (zChks_cons hX10_signToken_116 (zChks_cons hX10_signToken_125 (zChks_cons hX10_signToken_135 (zChks_cons hX10_signToken_154 (zChks_cons hX10_signToken_171 (zChks_cons hX10_signToken_179 (zChks_cons hX10_signToken_183 (zChks_cons hX10_signToken_191 (zChks_cons hX10_signToken_192 (zChks_cons hX10_signToken_198 (zChks_cons hX10_signToken_270 (zChks_cons hX10_signToken_274 (zChks_cons hX10_signToken_275 (zChks_cons hX10_signToken_285 (zChks_cons hX10_signToken_287 (zChks_cons hX10_signToken_290 zChks_nil)))))))))))))))))))))) rfl rfl rfl (Nat.le_of_ble_eq_true rfl) (Nat.le_of_ble_eq_true rfl) ?_
          simp (implicitDefEqProofs := false) only [bX10_signToken_0, bX10_signToken_50, bX10_signToken_73, bX10_signToken_74, bX10_signToken_94, bX10_signToken_95, bX10_signToken_115, bX10_signToken_116, bX10_signToken_125, bX10_signToken_135, bX10_signToken_154, bX10_signToken_171, bX10_signToken_179, bX10_signToken_183, bX10_signToken_191, bX10_signToken_192, bX10_signToken_198, bX10_signToken_270, bX10_signToken_274, bX10_signToken_275, bX10_signToken_285, bX10_signToken_287, bX10_signToken_290, zRun_cons, zRun_nil, zLk, zSto, zIns, zFil, zf0, zf1, zf2, zf3, List.filter_cons, List.filter_nil, Nat.reduceAdd, Nat.reduceEqDiff, Nat.reduceLT, Nat.reduceLeDiff, Nat.reduceBEq, Nat.reduceBNe, reduceIte, if_true, if_false, Bool.false_and, Bool.true_and, Bool.and_true, Bool.and_false, Bool.not_false, Bool.not_true, Bool.false_eq_true, beq_self_eq_true, BEq.rfl, zCat1, zCat2, zCat3, zKdI, zKdL, zKdR, true_and, and_true, zSI, zSL, zSR, zu_at, and_self, and_false, false_and, lv_args, zKdZ, zKdO, zB01, zB11, Option.toList_none, Option.toList_some, List.nil_append, List.cons_append, true_or, or_true, zRow_rd, zu_rd, zo_aload_n, zo_getfield, zo_iaload, zo_putfield, zo_putfield_2, zo_putfield_3, zo_dup, zo_iconst, zo_iadd, zo_bipush, zo_icmp_eq, zo_icmp_ne, zo_icmp_ge, zo_goto, zo_istore_n, zo_iload_n, zo_if_ne, zo_if_eq, zo_return_, zi_1, zb_60, zb_62, zb_61, zi_0, zi_5, zi_2, zi_3, zi_4, zb_59, zb_40, zb_41, zb_43, zb_45, zb_42, zb_47, zb_37, zb_6, zKd_10_0, zKd_10_7, zKd_10_9, zTy_10_9, zTy_10_7, zKd_10_6, zKd_10_8, zTy_10_8, sh_87, rf_87_0, sh_88, zcl_1, zcl_60, zcl_62, zcl_61, zcl_0, zcl_5, zcl_2, zcl_3, zcl_4, zcl_59, zcl_40, zcl_41, zcl_43, zcl_45, zcl_42, zcl_47, zcl_37, zcl_6, zvi_1_700, zvi_60_700, zvi_62_700, zvi_61_700, zvi_0_700, zvi_5_700, zvi_2_700, zvi_3_700, zvi_4_700, zvi_59_700, zvi_40_700, zvi_41_700, zvi_43_700, zvi_45_700, zvi_42_700, zvi_47_700, zvi_37_700, zvi_6_700, zPutC, zKn_s, zKn_0, zFind, h6, h7, hv, t1, nI_1, y60, y61, y62, x1, x2, x3, hx, hv2, t3, z61, z62, q1, q2, nI_clamp (n := sp) (by omega), nI_clamp (n := sp + 1) (by omega), zN10, zN01, not_true_eq_false, not_false_eq_true, false_implies, true_implies, implies_true, eq_self, nI_1, nI_40, nI_7, vz0, vz1, zb1_e0, zb1_n0]
          exact hQ _ (kB _ _ _ _) (by simp [zu_at]) (by simp [zu_at]) (by simp [zu_at, tRel]; decide)
        · have q1 : (T (sp + 1) = 61) = False := eq_false c1
          by_cases c2 : T (sp + 1) = 62
          · have q2 : (T (sp + 1) = 62) = True := eq_true c2
            have hm : oMr T e sp = (sp + 1, 12) := by
              unfold oMr; rw [if_pos (Or.inr g), if_pos hn]
              unfold oCp; simp [g, c2]
            rw [hm] at hQ
            refine zBlkR (M := mX10_signToken) (nL := 4) (rt := (Option.none : Option Jvm.ClassFile.FieldType)) (blk := bX10_signToken_0) (T := [(50, bX10_signToken_50), (73, bX10_signToken_73), (74, bX10_signToken_74), (94, bX10_signToken_94), (95, bX10_signToken_95), (115, bX10_signToken_115), (116, bX10_signToken_116), (125, bX10_signToken_125), (135, bX10_signToken_135), (154, bX10_signToken_154), (171, bX10_signToken_171), (179, bX10_signToken_179), (183, bX10_signToken_183), (191, bX10_signToken_191), (192, bX10_signToken_192), (198, bX10_signToken_198), (270, bX10_signToken_270), (274, bX10_signToken_274), (275, bX10_signToken_275), (285, bX10_signToken_285), (287, bX10_signToken_287), (290, bX10_signToken_290)]) 10 hX10_signToken_0 (zChks_cons hX10_signToken_50 (zChks_cons hX10_signToken_73 (zChks_cons hX10_signToken_74 (zChks_cons hX10_signToken_94 (zChks_cons hX10_signToken_95 (zChks_cons hX10_signToken_115 (zChks_cons hX10_signToken_116 (zChks_cons hX10_signToken_125 (zChks_cons hX10_signToken_135 (zChks_cons hX10_signToken_154 (zChks_cons hX10_signToken_171 (zChks_cons hX10_signToken_179 (zChks_cons hX10_signToken_183 (zChks_cons hX10_signToken_191 (zChks_cons hX10_signToken_192 (zChks_cons hX10_signToken_198 (zChks_cons hX10_signToken_270 (zChks_cons hX10_signToken_274 (zChks_cons hX10_signToken_275 (zChks_cons hX10_signToken_285 (zChks_cons hX10_signToken_287 (zChks_cons hX10_signToken_290 zChks_nil)))))))))))))))))))))) rfl rfl rfl (Nat.le_of_ble_eq_true rfl) (Nat.le_of_ble_eq_true rfl) ?_
            simp (implicitDefEqProofs := false) only [bX10_signToken_0, bX10_signToken_50, bX10_signToken_73, bX10_signToken_74, bX10_signToken_94, bX10_signToken_95, bX10_signToken_115, bX10_signToken_116, bX10_signToken_125, bX10_signToken_135, bX10_signToken_154, bX10_signToken_171, bX10_signToken_179, bX10_signToken_183, bX10_signToken_191, bX10_signToken_192, bX10_signToken_198, bX10_signToken_270, bX10_signToken_274, bX10_signToken_275, bX10_signToken_285, bX10_signToken_287, bX10_signToken_290, zRun_cons, zRun_nil, zLk, zSto, zIns, zFil, zf0, zf1, zf2, zf3, List.filter_cons, List.filter_nil, Nat.reduceAdd, Nat.reduceEqDiff, Nat.reduceLT, Nat.reduceLeDiff, Nat.reduceBEq, Nat.reduceBNe, reduceIte, if_true, if_false, Bool.false_and, Bool.true_and, Bool.and_true, Bool.and_false, Bool.not_false, Bool.not_true, Bool.false_eq_true, beq_self_eq_true, BEq.rfl, zCat1, zCat2, zCat3, zKdI, zKdL, zKdR, true_and, and_true, zSI, zSL, zSR, zu_at, and_self, and_false, false_and, lv_args, zKdZ, zKdO, zB01, zB11, Option.toList_none, Option.toList_some, List.nil_append, List.cons_append, true_or, or_true, zRow_rd, zu_rd, zo_aload_n, zo_getfield, zo_iaload, zo_putfield, zo_putfield_2, zo_putfield_3, zo_dup, zo_iconst, zo_iadd, zo_bipush, zo_icmp_eq, zo_icmp_ne, zo_icmp_ge, zo_goto, zo_istore_n, zo_iload_n, zo_if_ne, zo_if_eq, zo_return_, zi_1, zb_60, zb_62, zb_61, zi_0, zi_5, zi_2, zi_3, zi_4, zb_59, zb_40, zb_41, zb_43, zb_45, zb_42, zb_47, zb_37, zb_6, zKd_10_0, zKd_10_7, zKd_10_9, zTy_10_9, zTy_10_7, zKd_10_6, zKd_10_8, zTy_10_8, sh_87, rf_87_0, sh_88, zcl_1, zcl_60, zcl_62, zcl_61, zcl_0, zcl_5, zcl_2, zcl_3, zcl_4, zcl_59, zcl_40, zcl_41, zcl_43, zcl_45, zcl_42, zcl_47, zcl_37, zcl_6, zvi_1_700, zvi_60_700, zvi_62_700, zvi_61_700, zvi_0_700, zvi_5_700, zvi_2_700, zvi_3_700, zvi_4_700, zvi_59_700, zvi_40_700, zvi_41_700, zvi_43_700, zvi_45_700, zvi_42_700, zvi_47_700, zvi_37_700, zvi_6_700, zPutC, zKn_s, zKn_0, zFind, h6, h7, hv, t1, nI_1, y60, y61, y62, x1, x2, x3, hx, hv2, t3, z61, z62, q1, q2, nI_clamp (n := sp) (by omega), nI_clamp (n := sp + 1) (by omega), zN10, zN01, not_true_eq_false, not_false_eq_true, false_implies, true_implies, implies_true, eq_self, nI_1, nI_40, nI_7, vz0, vz1, zb1_e0, zb1_n0]
            exact hQ _ (kA _ _ _) (by simp [zu_at]) (by simp [zu_at]) (by simp [zu_at, tRel]; decide)
          · have q2 : (T (sp + 1) = 62) = False := eq_false c2
            have hm : oMr T e sp = (sp + 1, 12) := by
              unfold oMr; rw [if_pos (Or.inr g), if_pos hn]
              unfold oCp; simp [g, c1, c2]
            rw [hm] at hQ
            refine zBlkR (M := mX10_signToken) (nL := 4) (rt := (Option.none : Option Jvm.ClassFile.FieldType)) (blk := bX10_signToken_0) (T := [(50, bX10_signToken_50), (73, bX10_signToken_73), (74, bX10_signToken_74), (94, bX10_signToken_94), (95, bX10_signToken_95), (115, bX10_signToken_115), (116, bX10_signToken_116), (125, bX10_signToken_125), (135, bX10_signToken_135), (154, bX10_signToken_154), (171, bX10_signToken_171), (179, bX10_signToken_179), (183, bX10_signToken_183), (191, bX10_signToken_191), (192, bX10_signToken_192), (198, bX10_signToken_198), (270, bX10_signToken_270), (274, bX10_signToken_274), (275, bX10_signToken_275), (285, bX10_signToken_285), (287, bX10_signToken_287), (290, bX10_signToken_290)]) 10 hX10_signToken_0 (zChks_cons hX10_signToken_50 (zChks_cons hX10_signToken_73 (zChks_cons hX10_signToken_74 (zChks_cons hX10_signToken_94 (zChks_cons hX10_signToken_95 (zChks_cons hX10_signToken_115 (zChks_cons hX10_signToken_116 (zChks_cons hX10_signToken_125 (zChks_cons hX10_signToken_135 (zChks_cons hX10_signToken_154 (zChks_cons hX10_signToken_171 (zChks_cons hX10_signToken_179 (zChks_cons hX10_signToken_183 (zChks_cons hX10_signToken_191 (zChks_cons hX10_signToken_192 (zChks_cons hX10_signToken_198 (zChks_cons hX10_signToken_270 (zChks_cons hX10_signToken_274 (zChks_cons hX10_signToken_275 (zChks_cons hX10_signToken_285 (zChks_cons hX10_signToken_287 (zChks_cons hX10_signToken_290 zChks_nil)))))))))))))))))))))) rfl rfl rfl (Nat.le_of_ble_eq_true rfl) (Nat.le_of_ble_eq_true rfl) ?_
            simp (implicitDefEqProofs := false) only [bX10_signToken_0, bX10_signToken_50, bX10_signToken_73, bX10_signToken_74, bX10_signToken_94, bX10_signToken_95, bX10_signToken_115, bX10_signToken_116, bX10_signToken_125, bX10_signToken_135, bX10_signToken_154, bX10_signToken_171, bX10_signToken_179, bX10_signToken_183, bX10_signToken_191, bX10_signToken_192, bX10_signToken_198, bX10_signToken_270, bX10_signToken_274, bX10_signToken_275, bX10_signToken_285, bX10_signToken_287, bX10_signToken_290, zRun_cons, zRun_nil, zLk, zSto, zIns, zFil, zf0, zf1, zf2, zf3, List.filter_cons, List.filter_nil, Nat.reduceAdd, Nat.reduceEqDiff, Nat.reduceLT, Nat.reduceLeDiff, Nat.reduceBEq, Nat.reduceBNe, reduceIte, if_true, if_false, Bool.false_and, Bool.true_and, Bool.and_true, Bool.and_false, Bool.not_false, Bool.not_true, Bool.false_eq_true, beq_self_eq_true, BEq.rfl, zCat1, zCat2, zCat3, zKdI, zKdL, zKdR, true_and, and_true, zSI, zSL, zSR, zu_at, and_self, and_false, false_and, lv_args, zKdZ, zKdO, zB01, zB11, Option.toList_none, Option.toList_some, List.nil_append, List.cons_append, true_or, or_true, zRow_rd, zu_rd, zo_aload_n, zo_getfield, zo_iaload, zo_putfield, zo_putfield_2, zo_putfield_3, zo_dup, zo_iconst, zo_iadd, zo_bipush, zo_icmp_eq, zo_icmp_ne, zo_icmp_ge, zo_goto, zo_istore_n, zo_iload_n, zo_if_ne, zo_if_eq, zo_return_, zi_1, zb_60, zb_62, zb_61, zi_0, zi_5, zi_2, zi_3, zi_4, zb_59, zb_40, zb_41, zb_43, zb_45, zb_42, zb_47, zb_37, zb_6, zKd_10_0, zKd_10_7, zKd_10_9, zTy_10_9, zTy_10_7, zKd_10_6, zKd_10_8, zTy_10_8, sh_87, rf_87_0, sh_88, zcl_1, zcl_60, zcl_62, zcl_61, zcl_0, zcl_5, zcl_2, zcl_3, zcl_4, zcl_59, zcl_40, zcl_41, zcl_43, zcl_45, zcl_42, zcl_47, zcl_37, zcl_6, zvi_1_700, zvi_60_700, zvi_62_700, zvi_61_700, zvi_0_700, zvi_5_700, zvi_2_700, zvi_3_700, zvi_4_700, zvi_59_700, zvi_40_700, zvi_41_700, zvi_43_700, zvi_45_700, zvi_42_700, zvi_47_700, zvi_37_700, zvi_6_700, zPutC, zKn_s, zKn_0, zFind, h6, h7, hv, t1, nI_1, y60, y61, y62, x1, x2, x3, hx, hv2, t3, z61, z62, q1, q2, nI_clamp (n := sp) (by omega), nI_clamp (n := sp + 1) (by omega), zN10, zN01, not_true_eq_false, not_false_eq_true, false_implies, true_implies, implies_true, eq_self, nI_1, nI_40, nI_7, vz0, vz1, zb1_e0, zb1_n0]
            exact hQ _ (kA _ _ _) (by simp [zu_at]) (by simp [zu_at]) (by simp [zu_at, tRel]; decide)
      · have x1 : (T sp = 60) = False := eq_false (by omega)
        have x2 : (T sp = 61) = True := eq_true g
        have x3 : (T sp = 62) = False := eq_false (by omega)
        by_cases c1 : T (sp + 1) = 61
        · have q1 : (T (sp + 1) = 61) = True := eq_true c1
          have q2 : (T (sp + 1) = 62) = False := eq_false (by omega)
          have hm : oMr T e sp = (sp + 1, 9) := by
            unfold oMr; rw [if_neg (by omega), g]; rfl
          rw [hm] at hQ
          refine zBlkR (M := mX10_signToken) (nL := 4) (rt := (Option.none : Option Jvm.ClassFile.FieldType)) (blk := bX10_signToken_0) (T := [(50, bX10_signToken_50), (73, bX10_signToken_73), (74, bX10_signToken_74), (94, bX10_signToken_94), (95, bX10_signToken_95), (115, bX10_signToken_115), (116, bX10_signToken_116), (125, bX10_signToken_125), (135, bX10_signToken_135), (154, bX10_signToken_154), (171, bX10_signToken_171), (179, bX10_signToken_179), (183, bX10_signToken_183), (191, bX10_signToken_191), (192, bX10_signToken_192), (198, bX10_signToken_198), (270, bX10_signToken_270), (274, bX10_signToken_274), (275, bX10_signToken_275), (285, bX10_signToken_285), (287, bX10_signToken_287), (290, bX10_signToken_290)]) 10 hX10_signToken_0 (zChks_cons hX10_signToken_50 (zChks_cons hX10_signToken_73 (zChks_cons hX10_signToken_74 (zChks_cons hX10_signToken_94 (zChks_cons hX10_signToken_95 (zChks_cons hX10_signToken_115 (zChks_cons hX10_signToken_116 (zChks_cons hX10_signToken_125 (zChks_cons hX10_signToken_135 (zChks_cons hX10_signToken_154 (zChks_cons hX10_signToken_171 (zChks_cons hX10_signToken_179 (zChks_cons hX10_signToken_183 (zChks_cons hX10_signToken_191 (zChks_cons hX10_signToken_192 (zChks_cons hX10_signToken_198 (zChks_cons hX10_signToken_270 (zChks_cons hX10_signToken_274 (zChks_cons hX10_signToken_275 (zChks_cons hX10_signToken_285 (zChks_cons hX10_signToken_287 (zChks_cons hX10_signToken_290 zChks_nil)))))))))))))))))))))) rfl rfl rfl (Nat.le_of_ble_eq_true rfl) (Nat.le_of_ble_eq_true rfl) ?_
          simp (implicitDefEqProofs := false) only [bX10_signToken_0, bX10_signToken_50, bX10_signToken_73, bX10_signToken_74, bX10_signToken_94, bX10_signToken_95, bX10_signToken_115, bX10_signToken_116, bX10_signToken_125, bX10_signToken_135, bX10_signToken_154, bX10_signToken_171, bX10_signToken_179, bX10_signToken_183, bX10_signToken_191, bX10_signToken_192, bX10_signToken_198, bX10_signToken_270, bX10_signToken_274, bX10_signToken_275, bX10_signToken_285, bX10_signToken_287, bX10_signToken_290, zRun_cons, zRun_nil, zLk, zSto, zIns, zFil, zf0, zf1, zf2, zf3, List.filter_cons, List.filter_nil, Nat.reduceAdd, Nat.reduceEqDiff, Nat.reduceLT, Nat.reduceLeDiff, Nat.reduceBEq, Nat.reduceBNe, reduceIte, if_true, if_false, Bool.false_and, Bool.true_and, Bool.and_true, Bool.and_false, Bool.not_false, Bool.not_true, Bool.false_eq_true, beq_self_eq_true, BEq.rfl, zCat1, zCat2, zCat3, zKdI, zKdL, zKdR, true_and, and_true, zSI, zSL, zSR, zu_at, and_self, and_false, false_and, lv_args, zKdZ, zKdO, zB01, zB11, Option.toList_none, Option.toList_some, List.nil_append, List.cons_append, true_or, or_true, zRow_rd, zu_rd, zo_aload_n, zo_getfield, zo_iaload, zo_putfield, zo_putfield_2, zo_putfield_3, zo_dup, zo_iconst, zo_iadd, zo_bipush, zo_icmp_eq, zo_icmp_ne, zo_icmp_ge, zo_goto, zo_istore_n, zo_iload_n, zo_if_ne, zo_if_eq, zo_return_, zi_1, zb_60, zb_62, zb_61, zi_0, zi_5, zi_2, zi_3, zi_4, zb_59, zb_40, zb_41, zb_43, zb_45, zb_42, zb_47, zb_37, zb_6, zKd_10_0, zKd_10_7, zKd_10_9, zTy_10_9, zTy_10_7, zKd_10_6, zKd_10_8, zTy_10_8, sh_87, rf_87_0, sh_88, zcl_1, zcl_60, zcl_62, zcl_61, zcl_0, zcl_5, zcl_2, zcl_3, zcl_4, zcl_59, zcl_40, zcl_41, zcl_43, zcl_45, zcl_42, zcl_47, zcl_37, zcl_6, zvi_1_700, zvi_60_700, zvi_62_700, zvi_61_700, zvi_0_700, zvi_5_700, zvi_2_700, zvi_3_700, zvi_4_700, zvi_59_700, zvi_40_700, zvi_41_700, zvi_43_700, zvi_45_700, zvi_42_700, zvi_47_700, zvi_37_700, zvi_6_700, zPutC, zKn_s, zKn_0, zFind, h6, h7, hv, t1, nI_1, y60, y61, y62, x1, x2, x3, hx, hv2, t3, z61, z62, q1, q2, nI_clamp (n := sp) (by omega), nI_clamp (n := sp + 1) (by omega), zN10, zN01, not_true_eq_false, not_false_eq_true, false_implies, true_implies, implies_true, eq_self, nI_1, nI_40, nI_7, vz0, vz1, zb1_e0, zb1_n0]
          exact hQ _ (kA _ _ _) (by simp [zu_at]) (by simp [zu_at]) (by simp [zu_at, tRel]; decide)
        · have q1 : (T (sp + 1) = 61) = False := eq_false c1
          by_cases c2 : T (sp + 1) = 62
          · have q2 : (T (sp + 1) = 62) = True := eq_true c2
            have hm : oMr T e sp = (sp + 1, 9) := by
              unfold oMr; rw [if_neg (by omega), g]; rfl
            rw [hm] at hQ
            refine zBlkR (M := mX10_signToken) (nL := 4) (rt := (Option.none : Option Jvm.ClassFile.FieldType)) (blk := bX10_signToken_0) (T := [(50, bX10_signToken_50), (73, bX10_signToken_73), (74, bX10_signToken_74), (94, bX10_signToken_94), (95, bX10_signToken_95), (115, bX10_signToken_115), (116, bX10_signToken_116), (125, bX10_signToken_125), (135, bX10_signToken_135), (154, bX10_signToken_154), (171, bX10_signToken_171), (179, bX10_signToken_179), (183, bX10_signToken_183), (191, bX10_signToken_191), (192, bX10_signToken_192), (198, bX10_signToken_198), (270, bX10_signToken_270), (274, bX10_signToken_274), (275, bX10_signToken_275), (285, bX10_signToken_285), (287, bX10_signToken_287), (290, bX10_signToken_290)]) 10 hX10_signToken_0 (zChks_cons hX10_signToken_50 (zChks_cons hX10_signToken_73 (zChks_cons hX10_signToken_74 (zChks_cons hX10_signToken_94 (zChks_cons hX10_signToken_95 (zChks_cons hX10_signToken_115 (zChks_cons hX10_signToken_116 (zChks_cons hX10_signToken_125 (zChks_cons hX10_signToken_135 (zChks_cons hX10_signToken_154 (zChks_cons hX10_signToken_171 (zChks_cons hX10_signToken_179 (zChks_cons hX10_signToken_183 (zChks_cons hX10_signToken_191 (zChks_cons hX10_signToken_192 (zChks_cons hX10_signToken_198 (zChks_cons hX10_signToken_270 (zChks_cons hX10_signToken_274 (zChks_cons hX10_signToken_275 (zChks_cons hX10_signToken_285 (zChks_cons hX10_signToken_287 (zChks_cons hX10_signToken_290 zChks_nil)))))))))))))))))))))) rfl rfl rfl (Nat.le_of_ble_eq_true rfl) (Nat.le_of_ble_eq_true rfl) ?_
            simp (implicitDefEqProofs := false) only [bX10_signToken_0, bX10_signToken_50, bX10_signToken_73, bX10_signToken_74, bX10_signToken_94, bX10_signToken_95, bX10_signToken_115, bX10_signToken_116, bX10_signToken_125, bX10_signToken_135, bX10_signToken_154, bX10_signToken_171, bX10_signToken_179, bX10_signToken_183, bX10_signToken_191, bX10_signToken_192, bX10_signToken_198, bX10_signToken_270, bX10_signToken_274, bX10_signToken_275, bX10_signToken_285, bX10_signToken_287, bX10_signToken_290, zRun_cons, zRun_nil, zLk, zSto, zIns, zFil, zf0, zf1, zf2, zf3, List.filter_cons, List.filter_nil, Nat.reduceAdd, Nat.reduceEqDiff, Nat.reduceLT, Nat.reduceLeDiff, Nat.reduceBEq, Nat.reduceBNe, reduceIte, if_true, if_false, Bool.false_and, Bool.true_and, Bool.and_true, Bool.and_false, Bool.not_false, Bool.not_true, Bool.false_eq_true, beq_self_eq_true, BEq.rfl, zCat1, zCat2, zCat3, zKdI, zKdL, zKdR, true_and, and_true, zSI, zSL, zSR, zu_at, and_self, and_false, false_and, lv_args, zKdZ, zKdO, zB01, zB11, Option.toList_none, Option.toList_some, List.nil_append, List.cons_append, true_or, or_true, zRow_rd, zu_rd, zo_aload_n, zo_getfield, zo_iaload, zo_putfield, zo_putfield_2, zo_putfield_3, zo_dup, zo_iconst, zo_iadd, zo_bipush, zo_icmp_eq, zo_icmp_ne, zo_icmp_ge, zo_goto, zo_istore_n, zo_iload_n, zo_if_ne, zo_if_eq, zo_return_, zi_1, zb_60, zb_62, zb_61, zi_0, zi_5, zi_2, zi_3, zi_4, zb_59, zb_40, zb_41, zb_43, zb_45, zb_42, zb_47, zb_37, zb_6, zKd_10_0, zKd_10_7, zKd_10_9, zTy_10_9, zTy_10_7, zKd_10_6, zKd_10_8, zTy_10_8, sh_87, rf_87_0, sh_88, zcl_1, zcl_60, zcl_62, zcl_61, zcl_0, zcl_5, zcl_2, zcl_3, zcl_4, zcl_59, zcl_40, zcl_41, zcl_43, zcl_45, zcl_42, zcl_47, zcl_37, zcl_6, zvi_1_700, zvi_60_700, zvi_62_700, zvi_61_700, zvi_0_700, zvi_5_700, zvi_2_700, zvi_3_700, zvi_4_700, zvi_59_700, zvi_40_700, zvi_41_700, zvi_43_700, zvi_45_700, zvi_42_700, zvi_47_700, zvi_37_700, zvi_6_700, zPutC, zKn_s, zKn_0, zFind, h6, h7, hv, t1, nI_1, y60, y61, y62, x1, x2, x3, hx, hv2, t3, z61, z62, q1, q2, nI_clamp (n := sp) (by omega), nI_clamp (n := sp + 1) (by omega), zN10, zN01, not_true_eq_false, not_false_eq_true, false_implies, true_implies, implies_true, eq_self, nI_1, nI_40, nI_7, vz0, vz1, zb1_e0, zb1_n0]
            exact hQ _ (kA _ _ _) (by simp [zu_at]) (by simp [zu_at]) (by simp [zu_at, tRel]; decide)
          · have q2 : (T (sp + 1) = 62) = False := eq_false c2
            have hm : oMr T e sp = (sp + 1, 9) := by
              unfold oMr; rw [if_neg (by omega), g]; rfl
            rw [hm] at hQ
            refine zBlkR (M := mX10_signToken) (nL := 4) (rt := (Option.none : Option Jvm.ClassFile.FieldType)) (blk := bX10_signToken_0) (T := [(50, bX10_signToken_50), (73, bX10_signToken_73), (74, bX10_signToken_74), (94, bX10_signToken_94), (95, bX10_signToken_95), (115, bX10_signToken_115), (116, bX10_signToken_116), (125, bX10_signToken_125), (135, bX10_signToken_135), (154, bX10_signToken_154), (171, bX10_signToken_171), (179, bX10_signToken_179), (183, bX10_signToken_183), (191, bX10_signToken_191), (192, bX10_signToken_192), (198, bX10_signToken_198), (270, bX10_signToken_270), (274, bX10_signToken_274), (275, bX10_signToken_275), (285, bX10_signToken_285), (287, bX10_signToken_287), (290, bX10_signToken_290)]) 10 hX10_signToken_0 (zChks_cons hX10_signToken_50 (zChks_cons hX10_signToken_73 (zChks_cons hX10_signToken_74 (zChks_cons hX10_signToken_94 (zChks_cons hX10_signToken_95 (zChks_cons hX10_signToken_115 (zChks_cons hX10_signToken_116 (zChks_cons hX10_signToken_125 (zChks_cons hX10_signToken_135 (zChks_cons hX10_signToken_154 (zChks_cons hX10_signToken_171 (zChks_cons hX10_signToken_179 (zChks_cons hX10_signToken_183 (zChks_cons hX10_signToken_191 (zChks_cons hX10_signToken_192 (zChks_cons hX10_signToken_198 (zChks_cons hX10_signToken_270 (zChks_cons hX10_signToken_274 (zChks_cons hX10_signToken_275 (zChks_cons hX10_signToken_285 (zChks_cons hX10_signToken_287 (zChks_cons hX10_signToken_290 zChks_nil)))))))))))))))))))))) rfl rfl rfl (Nat.le_of_ble_eq_true rfl) (Nat.le_of_ble_eq_true rfl) ?_
            simp (implicitDefEqProofs := false) only [bX10_signToken_0, bX10_signToken_50, bX10_signToken_73, bX10_signToken_74, bX10_signToken_94, bX10_signToken_95, bX10_signToken_115, bX10_signToken_116, bX10_signToken_125, bX10_signToken_135, bX10_signToken_154, bX10_signToken_171, bX10_signToken_179, bX10_signToken_183, bX10_signToken_191, bX10_signToken_192, bX10_signToken_198, bX10_signToken_270, bX10_signToken_274, bX10_signToken_275, bX10_signToken_285, bX10_signToken_287, bX10_signToken_290, zRun_cons, zRun_nil, zLk, zSto, zIns, zFil, zf0, zf1, zf2, zf3, List.filter_cons, List.filter_nil, Nat.reduceAdd, Nat.reduceEqDiff, Nat.reduceLT, Nat.reduceLeDiff, Nat.reduceBEq, Nat.reduceBNe, reduceIte, if_true, if_false, Bool.false_and, Bool.true_and, Bool.and_true, Bool.and_false, Bool.not_false, Bool.not_true, Bool.false_eq_true, beq_self_eq_true, BEq.rfl, zCat1, zCat2, zCat3, zKdI, zKdL, zKdR, true_and, and_true, zSI, zSL, zSR, zu_at, and_self, and_false, false_and, lv_args, zKdZ, zKdO, zB01, zB11, Option.toList_none, Option.toList_some, List.nil_append, List.cons_append, true_or, or_true, zRow_rd, zu_rd, zo_aload_n, zo_getfield, zo_iaload, zo_putfield, zo_putfield_2, zo_putfield_3, zo_dup, zo_iconst, zo_iadd, zo_bipush, zo_icmp_eq, zo_icmp_ne, zo_icmp_ge, zo_goto, zo_istore_n, zo_iload_n, zo_if_ne, zo_if_eq, zo_return_, zi_1, zb_60, zb_62, zb_61, zi_0, zi_5, zi_2, zi_3, zi_4, zb_59, zb_40, zb_41, zb_43, zb_45, zb_42, zb_47, zb_37, zb_6, zKd_10_0, zKd_10_7, zKd_10_9, zTy_10_9, zTy_10_7, zKd_10_6, zKd_10_8, zTy_10_8, sh_87, rf_87_0, sh_88, zcl_1, zcl_60, zcl_62, zcl_61, zcl_0, zcl_5, zcl_2, zcl_3, zcl_4, zcl_59, zcl_40, zcl_41, zcl_43, zcl_45, zcl_42, zcl_47, zcl_37, zcl_6, zvi_1_700, zvi_60_700, zvi_62_700, zvi_61_700, zvi_0_700, zvi_5_700, zvi_2_700, zvi_3_700, zvi_4_700, zvi_59_700, zvi_40_700, zvi_41_700, zvi_43_700, zvi_45_700, zvi_42_700, zvi_47_700, zvi_37_700, zvi_6_700, zPutC, zKn_s, zKn_0, zFind, h6, h7, hv, t1, nI_1, y60, y61, y62, x1, x2, x3, hx, hv2, t3, z61, z62, q1, q2, nI_clamp (n := sp) (by omega), nI_clamp (n := sp + 1) (by omega), zN10, zN01, not_true_eq_false, not_false_eq_true, false_implies, true_implies, implies_true, eq_self, nI_1, nI_40, nI_7, vz0, vz1, zb1_e0, zb1_n0]
            exact hQ _ (kA _ _ _) (by simp [zu_at]) (by simp [zu_at]) (by simp [zu_at, tRel]; decide)
    · have hx : (nI e ≤ nI (sp + 1)) = True := eq_true (by rw [zle_nat (by omega) (by omega)]; omega)
      have z61 : ((0 : Int32) = 61) = False := eq_false (by decide)
      have z62 : ((0 : Int32) = 62) = False := eq_false (by decide)
      rcases hc with g | g | g
      · have x1 : (T sp = 60) = True := eq_true g
        have x2 : (T sp = 61) = False := eq_false (by omega)
        have x3 : (T sp = 62) = False := eq_false (by omega)
        have hm : oMr T e sp = (sp + 1, 7) := by
          unfold oMr; rw [if_pos (Or.inl g), if_neg hn]
          unfold oCp; simp [g]
        rw [hm] at hQ
        refine zBlkR (M := mX10_signToken) (nL := 4) (rt := (Option.none : Option Jvm.ClassFile.FieldType)) (blk := bX10_signToken_0) (T := [(50, bX10_signToken_50), (73, bX10_signToken_73), (74, bX10_signToken_74), (94, bX10_signToken_94), (95, bX10_signToken_95), (115, bX10_signToken_115), (116, bX10_signToken_116), (125, bX10_signToken_125), (135, bX10_signToken_135), (154, bX10_signToken_154), (171, bX10_signToken_171), (179, bX10_signToken_179), (183, bX10_signToken_183), (191, bX10_signToken_191), (192, bX10_signToken_192), (198, bX10_signToken_198), (270, bX10_signToken_270), (274, bX10_signToken_274), (275, bX10_signToken_275), (285, bX10_signToken_285), (287, bX10_signToken_287), (290, bX10_signToken_290)]) 10 hX10_signToken_0 (zChks_cons hX10_signToken_50 (zChks_cons hX10_signToken_73 (zChks_cons hX10_signToken_74 (zChks_cons hX10_signToken_94 (zChks_cons hX10_signToken_95 (zChks_cons hX10_signToken_115 (zChks_cons hX10_signToken_116 (zChks_cons hX10_signToken_125 (zChks_cons hX10_signToken_135 (zChks_cons hX10_signToken_154 (zChks_cons hX10_signToken_171 (zChks_cons hX10_signToken_179 (zChks_cons hX10_signToken_183 (zChks_cons hX10_signToken_191 (zChks_cons hX10_signToken_192 (zChks_cons hX10_signToken_198 (zChks_cons hX10_signToken_270 (zChks_cons hX10_signToken_274 (zChks_cons hX10_signToken_275 (zChks_cons hX10_signToken_285 (zChks_cons hX10_signToken_287 (zChks_cons hX10_signToken_290 zChks_nil)))))))))))))))))))))) rfl rfl rfl (Nat.le_of_ble_eq_true rfl) (Nat.le_of_ble_eq_true rfl) ?_
        simp (implicitDefEqProofs := false) only [bX10_signToken_0, bX10_signToken_50, bX10_signToken_73, bX10_signToken_74, bX10_signToken_94, bX10_signToken_95, bX10_signToken_115, bX10_signToken_116, bX10_signToken_125, bX10_signToken_135, bX10_signToken_154, bX10_signToken_171, bX10_signToken_179, bX10_signToken_183, bX10_signToken_191, bX10_signToken_192, bX10_signToken_198, bX10_signToken_270, bX10_signToken_274, bX10_signToken_275, bX10_signToken_285, bX10_signToken_287, bX10_signToken_290, zRun_cons, zRun_nil, zLk, zSto, zIns, zFil, zf0, zf1, zf2, zf3, List.filter_cons, List.filter_nil, Nat.reduceAdd, Nat.reduceEqDiff, Nat.reduceLT, Nat.reduceLeDiff, Nat.reduceBEq, Nat.reduceBNe, reduceIte, if_true, if_false, Bool.false_and, Bool.true_and, Bool.and_true, Bool.and_false, Bool.not_false, Bool.not_true, Bool.false_eq_true, beq_self_eq_true, BEq.rfl, zCat1, zCat2, zCat3, zKdI, zKdL, zKdR, true_and, and_true, zSI, zSL, zSR, zu_at, and_self, and_false, false_and, lv_args, zKdZ, zKdO, zB01, zB11, Option.toList_none, Option.toList_some, List.nil_append, List.cons_append, true_or, or_true, zRow_rd, zu_rd, zo_aload_n, zo_getfield, zo_iaload, zo_putfield, zo_putfield_2, zo_putfield_3, zo_dup, zo_iconst, zo_iadd, zo_bipush, zo_icmp_eq, zo_icmp_ne, zo_icmp_ge, zo_goto, zo_istore_n, zo_iload_n, zo_if_ne, zo_if_eq, zo_return_, zi_1, zb_60, zb_62, zb_61, zi_0, zi_5, zi_2, zi_3, zi_4, zb_59, zb_40, zb_41, zb_43, zb_45, zb_42, zb_47, zb_37, zb_6, zKd_10_0, zKd_10_7, zKd_10_9, zTy_10_9, zTy_10_7, zKd_10_6, zKd_10_8, zTy_10_8, sh_87, rf_87_0, sh_88, zcl_1, zcl_60, zcl_62, zcl_61, zcl_0, zcl_5, zcl_2, zcl_3, zcl_4, zcl_59, zcl_40, zcl_41, zcl_43, zcl_45, zcl_42, zcl_47, zcl_37, zcl_6, zvi_1_700, zvi_60_700, zvi_62_700, zvi_61_700, zvi_0_700, zvi_5_700, zvi_2_700, zvi_3_700, zvi_4_700, zvi_59_700, zvi_40_700, zvi_41_700, zvi_43_700, zvi_45_700, zvi_42_700, zvi_47_700, zvi_37_700, zvi_6_700, zPutC, zKn_s, zKn_0, zFind, h6, h7, hv, t1, nI_1, y60, y61, y62, x1, x2, x3, hx, z61, z62, nI_clamp (n := sp) (by omega), zN10, zN01, not_true_eq_false, not_false_eq_true, false_implies, true_implies, implies_true, eq_self, nI_1, nI_40, nI_7, vz0, vz1, zb1_e0, zb1_n0]
        exact hQ _ (kA _ _ _) (by simp [zu_at]) (by simp [zu_at]) (by simp [zu_at, tRel]; decide)
      · have x1 : (T sp = 60) = False := eq_false (by omega)
        have x2 : (T sp = 61) = False := eq_false (by omega)
        have x3 : (T sp = 62) = True := eq_true g
        have hm : oMr T e sp = (sp + 1, 12) := by
          unfold oMr; rw [if_pos (Or.inr g), if_neg hn]
          unfold oCp; simp [g]
        rw [hm] at hQ
        refine zBlkR (M := mX10_signToken) (nL := 4) (rt := (Option.none : Option Jvm.ClassFile.FieldType)) (blk := bX10_signToken_0) (T := [(50, bX10_signToken_50), (73, bX10_signToken_73), (74, bX10_signToken_74), (94, bX10_signToken_94), (95, bX10_signToken_95), (115, bX10_signToken_115), (116, bX10_signToken_116), (125, bX10_signToken_125), (135, bX10_signToken_135), (154, bX10_signToken_154), (171, bX10_signToken_171), (179, bX10_signToken_179), (183, bX10_signToken_183), (191, bX10_signToken_191), (192, bX10_signToken_192), (198, bX10_signToken_198), (270, bX10_signToken_270), (274, bX10_signToken_274), (275, bX10_signToken_275), (285, bX10_signToken_285), (287, bX10_signToken_287), (290, bX10_signToken_290)]) 10 hX10_signToken_0 (zChks_cons hX10_signToken_50 (zChks_cons hX10_signToken_73 (zChks_cons hX10_signToken_74 (zChks_cons hX10_signToken_94 (zChks_cons hX10_signToken_95 (zChks_cons hX10_signToken_115 (zChks_cons hX10_signToken_116 (zChks_cons hX10_signToken_125 (zChks_cons hX10_signToken_135 (zChks_cons hX10_signToken_154 (zChks_cons hX10_signToken_171 (zChks_cons hX10_signToken_179 (zChks_cons hX10_signToken_183 (zChks_cons hX10_signToken_191 (zChks_cons hX10_signToken_192 (zChks_cons hX10_signToken_198 (zChks_cons hX10_signToken_270 (zChks_cons hX10_signToken_274 (zChks_cons hX10_signToken_275 (zChks_cons hX10_signToken_285 (zChks_cons hX10_signToken_287 (zChks_cons hX10_signToken_290 zChks_nil)))))))))))))))))))))) rfl rfl rfl (Nat.le_of_ble_eq_true rfl) (Nat.le_of_ble_eq_true rfl) ?_
        simp (implicitDefEqProofs := false) only [bX10_signToken_0, bX10_signToken_50, bX10_signToken_73, bX10_signToken_74, bX10_signToken_94, bX10_signToken_95, bX10_signToken_115, bX10_signToken_116, bX10_signToken_125, bX10_signToken_135, bX10_signToken_154, bX10_signToken_171, bX10_signToken_179, bX10_signToken_183, bX10_signToken_191, bX10_signToken_192, bX10_signToken_198, bX10_signToken_270, bX10_signToken_274, bX10_signToken_275, bX10_signToken_285, bX10_signToken_287, bX10_signToken_290, zRun_cons, zRun_nil, zLk, zSto, zIns, zFil, zf0, zf1, zf2, zf3, List.filter_cons, List.filter_nil, Nat.reduceAdd, Nat.reduceEqDiff, Nat.reduceLT, Nat.reduceLeDiff, Nat.reduceBEq, Nat.reduceBNe, reduceIte, if_true, if_false, Bool.false_and, Bool.true_and, Bool.and_true, Bool.and_false, Bool.not_false, Bool.not_true, Bool.false_eq_true, beq_self_eq_true, BEq.rfl, zCat1, zCat2, zCat3, zKdI, zKdL, zKdR, true_and, and_true, zSI, zSL, zSR, zu_at, and_self, and_false, false_and, lv_args, zKdZ, zKdO, zB01, zB11, Option.toList_none, Option.toList_some, List.nil_append, List.cons_append, true_or, or_true, zRow_rd, zu_rd, zo_aload_n, zo_getfield, zo_iaload, zo_putfield, zo_putfield_2, zo_putfield_3, zo_dup, zo_iconst, zo_iadd, zo_bipush, zo_icmp_eq, zo_icmp_ne, zo_icmp_ge, zo_goto, zo_istore_n, zo_iload_n, zo_if_ne, zo_if_eq, zo_return_, zi_1, zb_60, zb_62, zb_61, zi_0, zi_5, zi_2, zi_3, zi_4, zb_59, zb_40, zb_41, zb_43, zb_45, zb_42, zb_47, zb_37, zb_6, zKd_10_0, zKd_10_7, zKd_10_9, zTy_10_9, zTy_10_7, zKd_10_6, zKd_10_8, zTy_10_8, sh_87, rf_87_0, sh_88, zcl_1, zcl_60, zcl_62, zcl_61, zcl_0, zcl_5, zcl_2, zcl_3, zcl_4, zcl_59, zcl_40, zcl_41, zcl_43, zcl_45, zcl_42, zcl_47, zcl_37, zcl_6, zvi_1_700, zvi_60_700, zvi_62_700, zvi_61_700, zvi_0_700, zvi_5_700, zvi_2_700, zvi_3_700, zvi_4_700, zvi_59_700, zvi_40_700, zvi_41_700, zvi_43_700, zvi_45_700, zvi_42_700, zvi_47_700, zvi_37_700, zvi_6_700, zPutC, zKn_s, zKn_0, zFind, h6, h7, hv, t1, nI_1, y60, y61, y62, x1, x2, x3, hx, z61, z62, nI_clamp (n := sp) (by omega), zN10, zN01, not_true_eq_false, not_false_eq_true, false_implies, true_implies, implies_true, eq_self, nI_1, nI_40, nI_7, vz0, vz1, zb1_e0, zb1_n0]
        exact hQ _ (kA _ _ _) (by simp [zu_at]) (by simp [zu_at]) (by simp [zu_at, tRel]; decide)
      · have x1 : (T sp = 60) = False := eq_false (by omega)
        have x2 : (T sp = 61) = True := eq_true g
        have x3 : (T sp = 62) = False := eq_false (by omega)
        have hm : oMr T e sp = (sp + 1, 9) := by
          unfold oMr; rw [if_neg (by omega), g]; rfl
        rw [hm] at hQ
        refine zBlkR (M := mX10_signToken) (nL := 4) (rt := (Option.none : Option Jvm.ClassFile.FieldType)) (blk := bX10_signToken_0) (T := [(50, bX10_signToken_50), (73, bX10_signToken_73), (74, bX10_signToken_74), (94, bX10_signToken_94), (95, bX10_signToken_95), (115, bX10_signToken_115), (116, bX10_signToken_116), (125, bX10_signToken_125), (135, bX10_signToken_135), (154, bX10_signToken_154), (171, bX10_signToken_171), (179, bX10_signToken_179), (183, bX10_signToken_183), (191, bX10_signToken_191), (192, bX10_signToken_192), (198, bX10_signToken_198), (270, bX10_signToken_270), (274, bX10_signToken_274), (275, bX10_signToken_275), (285, bX10_signToken_285), (287, bX10_signToken_287), (290, bX10_signToken_290)]) 10 hX10_signToken_0 (zChks_cons hX10_signToken_50 (zChks_cons hX10_signToken_73 (zChks_cons hX10_signToken_74 (zChks_cons hX10_signToken_94 (zChks_cons hX10_signToken_95 (zChks_cons hX10_signToken_115 (zChks_cons hX10_signToken_116 (zChks_cons hX10_signToken_125 (zChks_cons hX10_signToken_135 (zChks_cons hX10_signToken_154 (zChks_cons hX10_signToken_171 (zChks_cons hX10_signToken_179 (zChks_cons hX10_signToken_183 (zChks_cons hX10_signToken_191 (zChks_cons hX10_signToken_192 (zChks_cons hX10_signToken_198 (zChks_cons hX10_signToken_270 (zChks_cons hX10_signToken_274 (zChks_cons hX10_signToken_275 (zChks_cons hX10_signToken_285 (zChks_cons hX10_signToken_287 (zChks_cons hX10_signToken_290 zChks_nil)))))))))))))))))))))) rfl rfl rfl (Nat.le_of_ble_eq_true rfl) (Nat.le_of_ble_eq_true rfl) ?_
        simp (implicitDefEqProofs := false) only [bX10_signToken_0, bX10_signToken_50, bX10_signToken_73, bX10_signToken_74, bX10_signToken_94, bX10_signToken_95, bX10_signToken_115, bX10_signToken_116, bX10_signToken_125, bX10_signToken_135, bX10_signToken_154, bX10_signToken_171, bX10_signToken_179, bX10_signToken_183, bX10_signToken_191, bX10_signToken_192, bX10_signToken_198, bX10_signToken_270, bX10_signToken_274, bX10_signToken_275, bX10_signToken_285, bX10_signToken_287, bX10_signToken_290, zRun_cons, zRun_nil, zLk, zSto, zIns, zFil, zf0, zf1, zf2, zf3, List.filter_cons, List.filter_nil, Nat.reduceAdd, Nat.reduceEqDiff, Nat.reduceLT, Nat.reduceLeDiff, Nat.reduceBEq, Nat.reduceBNe, reduceIte, if_true, if_false, Bool.false_and, Bool.true_and, Bool.and_true, Bool.and_false, Bool.not_false, Bool.not_true, Bool.false_eq_true, beq_self_eq_true, BEq.rfl, zCat1, zCat2, zCat3, zKdI, zKdL, zKdR, true_and, and_true, zSI, zSL, zSR, zu_at, and_self, and_false, false_and, lv_args, zKdZ, zKdO, zB01, zB11, Option.toList_none, Option.toList_some, List.nil_append, List.cons_append, true_or, or_true, zRow_rd, zu_rd, zo_aload_n, zo_getfield, zo_iaload, zo_putfield, zo_putfield_2, zo_putfield_3, zo_dup, zo_iconst, zo_iadd, zo_bipush, zo_icmp_eq, zo_icmp_ne, zo_icmp_ge, zo_goto, zo_istore_n, zo_iload_n, zo_if_ne, zo_if_eq, zo_return_, zi_1, zb_60, zb_62, zb_61, zi_0, zi_5, zi_2, zi_3, zi_4, zb_59, zb_40, zb_41, zb_43, zb_45, zb_42, zb_47, zb_37, zb_6, zKd_10_0, zKd_10_7, zKd_10_9, zTy_10_9, zTy_10_7, zKd_10_6, zKd_10_8, zTy_10_8, sh_87, rf_87_0, sh_88, zcl_1, zcl_60, zcl_62, zcl_61, zcl_0, zcl_5, zcl_2, zcl_3, zcl_4, zcl_59, zcl_40, zcl_41, zcl_43, zcl_45, zcl_42, zcl_47, zcl_37, zcl_6, zvi_1_700, zvi_60_700, zvi_62_700, zvi_61_700, zvi_0_700, zvi_5_700, zvi_2_700, zvi_3_700, zvi_4_700, zvi_59_700, zvi_40_700, zvi_41_700, zvi_43_700, zvi_45_700, zvi_42_700, zvi_47_700, zvi_37_700, zvi_6_700, zPutC, zKn_s, zKn_0, zFind, h6, h7, hv, t1, nI_1, y60, y61, y62, x1, x2, x3, hx, z61, z62, nI_clamp (n := sp) (by omega), zN10, zN01, not_true_eq_false, not_false_eq_true, false_implies, true_implies, implies_true, eq_self, nI_1, nI_40, nI_7, vz0, vz1, zb1_e0, zb1_n0]
        exact hQ _ (kA _ _ _) (by simp [zu_at]) (by simp [zu_at]) (by simp [zu_at, tRel]; decide)
  · have x1 : (T sp = 60) = False := eq_false (by omega)
    have x2 : (T sp = 61) = False := eq_false (by omega)
    have x3 : (T sp = 62) = False := eq_false (by omega)
    have hm : oMr T e sp = (sp + 1, oMk (T sp)) := by
      unfold oMr
      rw [if_neg (by omega)]
    rw [hm] at hQ
    have y59 : (nI (T sp) = 59) = (T sp = 59) := y 59 (by omega)
    have y40 : (nI (T sp) = 40) = (T sp = 40) := y 40 (by omega)
    have y41 : (nI (T sp) = 41) = (T sp = 41) := y 41 (by omega)
    have y43 : (nI (T sp) = 43) = (T sp = 43) := y 43 (by omega)
    have y45 : (nI (T sp) = 45) = (T sp = 45) := y 45 (by omega)
    have y42 : (nI (T sp) = 42) = (T sp = 42) := y 42 (by omega)
    have y47 : (nI (T sp) = 47) = (T sp = 47) := y 47 (by omega)
    have y37 : (nI (T sp) = 37) = (T sp = 37) := y 37 (by omega)
    have kC : ∀ (x y : Int32), zKpt SRj I (zu (zu (zu I 87 9 x) 87 7 (nI (sp + 1))) 87 8 y) := fun x y => ((zKpt_rfl.u (by unfold SRj; omega)).u (by unfold SRj; omega)).u (by unfold SRj; omega)
    have qY : (T sp = 59 ∨ T sp = 40 ∨ T sp = 41 ∨ T sp = 43 ∨ T sp = 45 ∨ T sp = 42 ∨ T sp = 47 ∨ T sp = 37) → Q none (SH, zu (zu (zu I 87 9 (nI (T sp))) 87 7 (nI (sp + 1))) 87 8 4, L, RF p s r) := by
      intro g
      refine hQ _ (kC _ _) (by simp [zu_at]) (by simp [zu_at]) ?_
      simp only [zu_at]
      simp only [Nat.reduceEqDiff, and_false, and_self, if_true, if_false]
      rcases oMk_w (T sp) t2 (by omega) (by omega) (by omega) with q | ⟨q1, q2, q3, q4⟩
      · have := (oMk_1 (T sp) t2 (by omega)).mp q
        have g37 : T sp = 37 := by omega
        rw [q, g37]
        exact ⟨by omega, Or.inl ⟨rfl, rfl, rfl⟩⟩
      · exact ⟨q1, Or.inr ⟨by rw [q3]; rfl, fun h => absurd h (by omega), fun h => absurd h (by omega), fun _ => by rw [q4]⟩⟩
    have qN : ¬ (T sp = 59 ∨ T sp = 40 ∨ T sp = 41 ∨ T sp = 43 ∨ T sp = 45 ∨ T sp = 42 ∨ T sp = 47 ∨ T sp = 37) → Q none (SH, zu (zu (zu I 87 9 (nI (T sp))) 87 7 (nI (sp + 1))) 87 8 6, L, RF p s r) := by
      intro g
      refine hQ _ (kC _ _) (by simp [zu_at]) (by simp [zu_at]) ?_
      simp only [zu_at]
      simp only [Nat.reduceEqDiff, and_false, and_self, if_true, if_false]
      rw [(oMk_1 (T sp) t2 (by omega)).mpr (by omega)]
      exact ⟨by omega, Or.inr ⟨rfl, fun h => absurd h (by omega), fun h => absurd h (by omega), fun h => absurd h (by omega)⟩⟩
    refine zBlkR (M := mX10_signToken) (nL := 4) (rt := (Option.none : Option Jvm.ClassFile.FieldType)) (blk := bX10_signToken_0) (T := [(50, bX10_signToken_50), (73, bX10_signToken_73), (74, bX10_signToken_74), (94, bX10_signToken_94), (95, bX10_signToken_95), (115, bX10_signToken_115), (116, bX10_signToken_116), (125, bX10_signToken_125), (135, bX10_signToken_135), (154, bX10_signToken_154), (171, bX10_signToken_171), (179, bX10_signToken_179), (183, bX10_signToken_183), (191, bX10_signToken_191), (192, bX10_signToken_192), (198, bX10_signToken_198), (270, bX10_signToken_270), (274, bX10_signToken_274), (275, bX10_signToken_275), (285, bX10_signToken_285), (287, bX10_signToken_287), (290, bX10_signToken_290)]) 10 hX10_signToken_0 (zChks_cons hX10_signToken_50 (zChks_cons hX10_signToken_73 (zChks_cons hX10_signToken_74 (zChks_cons hX10_signToken_94 (zChks_cons hX10_signToken_95 (zChks_cons hX10_signToken_115 (zChks_cons hX10_signToken_116 (zChks_cons hX10_signToken_125 (zChks_cons hX10_signToken_135 (zChks_cons hX10_signToken_154 (zChks_cons hX10_signToken_171 (zChks_cons hX10_signToken_179 (zChks_cons hX10_signToken_183 (zChks_cons hX10_signToken_191 (zChks_cons hX10_signToken_192 (zChks_cons hX10_signToken_198 (zChks_cons hX10_signToken_270 (zChks_cons hX10_signToken_274 (zChks_cons hX10_signToken_275 (zChks_cons hX10_signToken_285 (zChks_cons hX10_signToken_287 (zChks_cons hX10_signToken_290 zChks_nil)))))))))))))))))))))) rfl rfl rfl (Nat.le_of_ble_eq_true rfl) (Nat.le_of_ble_eq_true rfl) ?_
    simp (implicitDefEqProofs := false) only [bX10_signToken_0, bX10_signToken_50, bX10_signToken_73, bX10_signToken_74, bX10_signToken_94, bX10_signToken_95, bX10_signToken_115, bX10_signToken_116, bX10_signToken_125, bX10_signToken_135, bX10_signToken_154, bX10_signToken_171, bX10_signToken_179, bX10_signToken_183, bX10_signToken_191, bX10_signToken_192, bX10_signToken_198, bX10_signToken_270, bX10_signToken_274, bX10_signToken_275, bX10_signToken_285, bX10_signToken_287, bX10_signToken_290, zRun_cons, zRun_nil, zLk, zSto, zIns, zFil, zf0, zf1, zf2, zf3, List.filter_cons, List.filter_nil, Nat.reduceAdd, Nat.reduceEqDiff, Nat.reduceLT, Nat.reduceLeDiff, Nat.reduceBEq, Nat.reduceBNe, reduceIte, if_true, if_false, Bool.false_and, Bool.true_and, Bool.and_true, Bool.and_false, Bool.not_false, Bool.not_true, Bool.false_eq_true, beq_self_eq_true, BEq.rfl, zCat1, zCat2, zCat3, zKdI, zKdL, zKdR, true_and, and_true, zSI, zSL, zSR, zu_at, and_self, and_false, false_and, lv_args, zKdZ, zKdO, zB01, zB11, Option.toList_none, Option.toList_some, List.nil_append, List.cons_append, true_or, or_true, zRow_rd, zu_rd, zo_aload_n, zo_getfield, zo_iaload, zo_putfield, zo_putfield_2, zo_putfield_3, zo_dup, zo_iconst, zo_iadd, zo_bipush, zo_icmp_eq, zo_icmp_ne, zo_icmp_ge, zo_goto, zo_istore_n, zo_iload_n, zo_if_ne, zo_if_eq, zo_return_, zi_1, zb_60, zb_62, zb_61, zi_0, zi_5, zi_2, zi_3, zi_4, zb_59, zb_40, zb_41, zb_43, zb_45, zb_42, zb_47, zb_37, zb_6, zKd_10_0, zKd_10_7, zKd_10_9, zTy_10_9, zTy_10_7, zKd_10_6, zKd_10_8, zTy_10_8, sh_87, rf_87_0, sh_88, zcl_1, zcl_60, zcl_62, zcl_61, zcl_0, zcl_5, zcl_2, zcl_3, zcl_4, zcl_59, zcl_40, zcl_41, zcl_43, zcl_45, zcl_42, zcl_47, zcl_37, zcl_6, zvi_1_700, zvi_60_700, zvi_62_700, zvi_61_700, zvi_0_700, zvi_5_700, zvi_2_700, zvi_3_700, zvi_4_700, zvi_59_700, zvi_40_700, zvi_41_700, zvi_43_700, zvi_45_700, zvi_42_700, zvi_47_700, zvi_37_700, zvi_6_700, zPutC, zKn_s, zKn_0, zFind, h7, hv, t1, nI_1, y60, y61, y62, x1, x2, x3, y59, y40, y41, y43, y45, y42, y47, y37, nI_clamp (n := sp) (by omega), zN10, zN01, not_true_eq_false, not_false_eq_true, false_implies, true_implies, implies_true, eq_self, nI_1, nI_40, nI_7, vz0, vz1, zb1_e0, zb1_n0]
    by_cases g1 : T sp = 59
    · simp [g1] at qY ⊢; exact qY
    · by_cases g2 : T sp = 40
      · simp [g2] at qY ⊢; exact qY
      · by_cases g3 : T sp = 41
        · simp [g3] at qY ⊢; exact qY
        · by_cases g4 : T sp = 43
          · simp [g4] at qY ⊢; exact qY
          · by_cases g5 : T sp = 45
            · simp [g5] at qY ⊢; exact qY
            · by_cases g6 : T sp = 42
              · simp [g6] at qY ⊢; exact qY
              · by_cases g7 : T sp = 47
                · simp [g7] at qY ⊢; exact qY
                · by_cases g8 : T sp = 37
                  · simp [g8] at qY ⊢; exact qY
                  · simp only [g1, g2, g3, g4, g5, g6, g7, g8, false_implies, true_implies, not_false_eq_true, true_and, or_false, false_or] at qN ⊢; simp [g1, g2, g3, g4, g5, g6, g7, g8] at qN ⊢; exact qN
end ZN98o
end

section
/-! ===== TOKENS: the reference's token, whole ===== -/
section ZN98p
variable {w : zP} {Q : Option Value → zMem → Prop} {μ : zMem} {I J : Nat → Nat → Int32} {L K : Nat → Nat → Int64} {p s : Nat} {r : Option Nat} {a b c i j k n e m sp : Nat} {x y v kd wh : Int32} {T : Nat → Nat} {W : Nat → Int32} {f g : Nat → Nat}
theorem cW_in : ∀ i, i < 27 → cWp i = mWp (cPm i) ∧ cPm i < 27 ∧ cIv (cPm i) = i ∧ rWh (20 + i) = cPm i := by decide +kernel
theorem mW_in : ∀ i, i < 27 → mWp i = cWp (cIv i) ∧ cIv i < 27 ∧ cPm (cIv i) = i ∧ rWh (20 + cIv i) = i := by decide +kernel
theorem cW_d : ∀ i, i < 27 → ∀ j, j < 27 → cWp i = cWp j → i = j := by decide +kernel
theorem mW_d : ∀ i, i < 27 → ∀ j, j < 27 → mWp i = mWp j → i = j := by decide +kernel
theorem cW_lt : ∀ i, i < 27 → cWp i < 2 ^ 31 := by decide +kernel
/-- the class's kind of a word of at most six letters, beside the reference's word -/
theorem word_rel {x : Nat} (hx : x < 2 ^ 31) (hW : ∀ i, i < 27 → W i = nI (cWp i)) (hm : ∀ k, k < 27 → mEq T i j k = decide (x = mWp k)) : (mWk T i j < 27 ∧ oWk W (nI x) < 47 ∧ 20 ≤ oWk W (nI x) ∧ rWh (oWk W (nI x)) = mWk T i j) ∨ (mWk T i j = 27 ∧ oWk W (nI x) = 3) := by
  by_cases h : mWk T i j < 27
  · left
    have h1 : mEq T i j (mWk T i j) = true := zFst_lt h
    rw [hm _ h, decide_eq_true_iff] at h1
    obtain ⟨g1, g2, g3, g4⟩ := mW_in _ h
    have hf : zFst (fun k => W k == nI x) 27 = cIv (mWk T i j) := by
      refine zFst_eq g2 ?_ (fun d hd => ?_)
      · show (W (cIv (mWk T i j)) == nI x) = true
        rw [hW _ g2, ← g1, ← h1]; simp
      · show (W d == nI x) = false
        rw [hW d (by omega)]
        rw [beq_eq_false_iff_ne]
        intro q
        have q2 := (nI_eq (cW_lt d (by omega)) hx).mp q
        rw [h1, g1] at q2
        have := cW_d d (by omega) _ g2 q2
        omega
    refine ⟨h, ?_⟩
    unfold oWk
    rw [hf, if_pos g2]
    exact ⟨by omega, by omega, g4⟩
  · right
    have hle : mWk T i j ≤ 27 := zFst_le _ _
    refine ⟨by omega, ?_⟩
    unfold oWk
    rw [if_neg]
    intro q
    have q1 := zFst_lt q
    have q2 : (W (zFst (fun k => W k == nI x) 27) == nI x) = true := q1
    generalize zFst (fun k => W k == nI x) 27 = d at q q2
    rw [hW d q, beq_iff_eq, nI_eq (cW_lt d q) hx] at q2
    obtain ⟨g1, g2, g3, g4⟩ := cW_in d q
    have : mEq T i j (cPm d) = true := by rw [hm _ g2, ← g1, q2]; simp
    have h2 : zFst (mEq T i j) 27 ≤ cPm d := by
      rcases Nat.lt_or_ge (cPm d) (zFst (mEq T i j) 27) with z | z
      · have z2 := zFst_no z
        rw [z2] at this
        cases this
      · exact z
    have : mWk T i j ≤ cPm d := h2
    omega
theorem mWk_long (h : 6 < j - i) : mWk T i j = 27 := by
  refine zFst_none (fun d hd => ?_)
  unfold mEq
  have := (mW_f d hd).2.2.1
  rw [decide_eq_false (by omega)]; rfl
set_option maxRecDepth 20000 in
theorem mo_tkWord (h6 : I 87 6 = nI e) (h10 : I 87 10 = nI sp) (hs : sp < e) (he : e ≤ 700) (hw : ∀ k, k < 136 → I 89 k = nI (mWa k)) (ht : ∀ k, k < e → I 88 k = nI (T k) ∧ T k < 256) (hW : ∀ i, i < 27 → W i = nI (cWp i)) (hQ : ∀ I', zKpt SRj I I' → I' 87 10 = nI sp → I' 87 7 = nI (oWr T (e - sp) sp 0 0).1 → tRel (if (oWr T (e - sp) sp 0 0).2.1 ≤ 6 then oWk W (oWr T (e - sp) sp 0 0).2.2 else 1) (oWr T (e - sp) sp 0 0).2.2 (I' 87 8) (I' 87 9) → Q none (SH, I', L, RF p s r)) : ∀ m, m ≤ oLn T (e - sp) sp → ∀ J, zKpt SRj I J → J 87 10 = nI sp → J 87 7 = nI (sp + m) → zX w mX10_token rX10_token Q 0 0 90 [(0, Value.ref 87)] [] (SH, J, L, RF p s r) := by
  have hM := oLn_le (T := T) (e - sp) sp
  obtain ⟨w1, w2⟩ := oWr_1 (T := T) (e - sp) sp 0 0
  intro m hm
  refine zLoop (n := oLn T (e - sp) sp) (P := fun m => ∀ J, zKpt SRj I J → J 87 10 = nI sp → J 87 7 = nI (sp + m) → zX w mX10_token rX10_token Q 0 0 90 [(0, Value.ref 87)] [] (SH, J, L, RF p s r)) (fun m hm ih => ?_) m hm
  intro J kJ j10 j7
  have j6 : J 87 6 = nI e := by rw [kJ 87 6 (by unfold SRj; omega)]; exact h6
  have jt : ∀ k, k < e → J 88 k = nI (T k) ∧ T k < 256 := fun k hk => by rw [kJ 88 k (by unfold SRj; omega)]; exact ht k hk
  refine zBlkR (M := mX10_token) (nL := 1) (rt := (Option.none : Option Jvm.ClassFile.FieldType)) (blk := bX10_token_90) (T := []) 0 hX10_token_90 zChks_nil rfl rfl rfl (Nat.le_of_ble_eq_true rfl) (Nat.le_of_ble_eq_true rfl) ?_
  simp (implicitDefEqProofs := false) only [bX10_token_90, zRun_cons, zRun_nil, zLk, zSto, zIns, zFil, zf0, zf1, zf2, zf3, List.filter_cons, List.filter_nil, Nat.reduceAdd, Nat.reduceEqDiff, Nat.reduceLT, Nat.reduceLeDiff, Nat.reduceBEq, Nat.reduceBNe, reduceIte, if_true, if_false, Bool.false_and, Bool.true_and, Bool.and_true, Bool.and_false, Bool.not_false, Bool.not_true, Bool.false_eq_true, beq_self_eq_true, BEq.rfl, zCat1, zCat2, zCat3, zKdI, zKdL, zKdR, true_and, and_true, zSI, zSL, zSR, zu_at, and_self, and_false, false_and, lv_args, zKdZ, zKdO, zB01, zB11, Option.toList_none, Option.toList_some, List.nil_append, List.cons_append, true_or, or_true, zRow_rd, zu_rd, zo_aload_n, zo_getfield, zKd_10_7, sh_87, zKn_0, j7, zN10, zN01, not_true_eq_false, not_false_eq_true, false_implies, true_implies, implies_true, eq_self, nI_1, nI_40, nI_7, vz0, vz1, zb1_e0, zb1_n0]
  refine z_cV0 (M' := mX10_isSmall) (R' := rX10_isSmall) (i := 87) [.int (nI (sp + m))] [] eX10_isSmall k10_199 (by decide +kernel : decode cX10_token 95 = .ok (.invokevirtual 199, 3)) (Nat.le_of_ble_eq_true rfl) ⟨Nat.le_of_ble_eq_true rfl, Nat.le_of_ble_eq_true rfl, Nat.le_of_ble_eq_true rfl, Nat.le_of_ble_eq_true rfl, Nat.le_of_ble_eq_true rfl⟩ rfl rfl rfl sh_87 ?_
  refine mo_isSmallN (T := T) j6 he (by omega) jt ?_
  by_cases hme : m = oLn T (e - sp) sp
  · have hno : (decide (sp + m < e) && oLet (T (sp + m))) = false := by
      by_cases q : sp + m < e
      · have := oLn_end (T := T) (e - sp) sp (by omega)
        rw [hme, this, Bool.and_false]
      · rw [decide_eq_false q]; rfl
    rw [hno]
    refine zBlkR (M := mX10_token) (nL := 1) (rt := (Option.none : Option Jvm.ClassFile.FieldType)) (blk := bX10_token_98) (T := [(114, bX10_token_114)]) 1 hX10_token_98 (zChks_cons hX10_token_114 zChks_nil) rfl rfl rfl (Nat.le_of_ble_eq_true rfl) (Nat.le_of_ble_eq_true rfl) ?_
    simp (implicitDefEqProofs := false) only [bX10_token_98, bX10_token_114, zRun_cons, zRun_nil, zLk, zSto, zIns, zFil, zf0, zf1, zf2, zf3, List.filter_cons, List.filter_nil, Nat.reduceAdd, Nat.reduceEqDiff, Nat.reduceLT, Nat.reduceLeDiff, Nat.reduceBEq, Nat.reduceBNe, reduceIte, if_true, if_false, Bool.false_and, Bool.true_and, Bool.and_true, Bool.and_false, Bool.not_false, Bool.not_true, Bool.false_eq_true, beq_self_eq_true, BEq.rfl, zCat1, zCat2, zCat3, zKdI, zKdL, zKdR, true_and, and_true, zSI, zSL, zSR, zu_at, and_self, and_false, false_and, lv_args, zKdZ, zKdO, zB01, zB11, Option.toList_none, Option.toList_some, List.nil_append, List.cons_append, true_or, or_true, zRow_rd, zu_rd, zo_if_eq, zo_aload_n, zo_dup, zo_getfield, zo_iconst, zo_iadd, zo_putfield, zo_putfield_2, zo_putfield_3, zo_goto, zi_1, zKd_10_7, zTy_10_7, zKd_10_10, sh_87, zcl_1, zPutC, zKn_s, zKn_0, zFind, zb1_f, j7, j10, zN10, zN01, not_true_eq_false, not_false_eq_true, false_implies, true_implies, implies_true, eq_self, nI_1, nI_40, nI_7, vz0, vz1, zb1_e0, zb1_n0]
    refine z_cV0 (M' := mX10_wordAt) (R' := rX10_wordAt) (i := 87) [.int (nI sp), .int (nI (sp + m))] [.ref 87] eX10_wordAt k10_203 (by decide +kernel : decode cX10_token 124 = .ok (.invokevirtual 203, 3)) (Nat.le_of_ble_eq_true rfl) ⟨Nat.le_of_ble_eq_true rfl, Nat.le_of_ble_eq_true rfl, Nat.le_of_ble_eq_true rfl, Nat.le_of_ble_eq_true rfl, Nat.le_of_ble_eq_true rfl⟩ rfl rfl rfl sh_87 ?_
    have jw : ∀ k, k < 136 → J 89 k = nI (mWa k) := fun k hk => by rw [kJ 89 k (by unfold SRj; omega)]; exact hw k hk
    refine mo_wordAt (T := T) (by omega) (by omega) jw (fun k hk => jt k (by omega)) ?_
    rw [← hme, Nat.zero_add] at w2
    rw [← hme] at w1
    have hlet : ∀ d, sp ≤ d → d < sp + m → oLet (T d) = true := fun d h1 h2 => by
      have := oLn_let (T := T) (e - sp) sp (d - sp) (by omega)
      rw [show sp + (d - sp) = d by omega] at this; exact this
    have esub : nI (sp + m) - nI sp = nI m := by rw [Nat.add_comm, ← nI_add, Int32.add_sub_cancel]
    by_cases h6m : m ≤ 6
    · -- at most six letters
      have hpk := oWr_pk (T := T) (n := e - sp) (i := sp) (by omega)
      rw [← hme] at hpk
      have hlf : ∀ k, oLf T sp (sp + m) k < 32 := fun k => by
        unfold oLf; split
        · have := oLet_lo (hlet (sp + k) (by omega) (by omega)); omega
        · omega
      have hxl : pkW (oLf T sp (sp + m)) 6 < 2 ^ 31 := Nat.lt_trans (pkW_lt hlf 6) (by decide)
      have hrel := word_rel (W := W) (T := T) (i := sp) (j := sp + m) hxl hW (fun k hk => mEq_pk hk (by omega) hlet (by omega))
      rw [w2, if_pos h6m, w1, hpk] at hQ
      rcases hrel with ⟨r1, r2, r3, r4⟩ | ⟨r1, r2⟩
      · -- a word of the language
        have e1 : mWi (mWk T sp (sp + m)) = nI (mWk T sp (sp + m)) := by unfold mWi; rw [if_pos r1]
        have x1 : (nI (mWk T sp (sp + m)) < 0) = False := eq_false (nI_nn (by omega))
        have x3 : ((1 : Int32) = 2) = False := eq_false (by decide)
        rw [e1]
        refine zBlkR (M := mX10_token) (nL := 1) (rt := (Option.none : Option Jvm.ClassFile.FieldType)) (blk := bX10_token_127) (T := [(142, bX10_token_142), (161, bX10_token_161), (162, bX10_token_162), (281, bX10_token_281)]) 3 hX10_token_127 (zChks_cons hX10_token_142 (zChks_cons hX10_token_161 (zChks_cons hX10_token_162 (zChks_cons hX10_token_281 zChks_nil)))) rfl rfl rfl (Nat.le_of_ble_eq_true rfl) (Nat.le_of_ble_eq_true rfl) ?_
        simp (implicitDefEqProofs := false) only [bX10_token_127, bX10_token_142, bX10_token_161, bX10_token_162, bX10_token_281, zRun_cons, zRun_nil, zLk, zSto, zIns, zFil, zf0, zf1, zf2, zf3, List.filter_cons, List.filter_nil, Nat.reduceAdd, Nat.reduceEqDiff, Nat.reduceLT, Nat.reduceLeDiff, Nat.reduceBEq, Nat.reduceBNe, reduceIte, if_true, if_false, Bool.false_and, Bool.true_and, Bool.and_true, Bool.and_false, Bool.not_false, Bool.not_true, Bool.false_eq_true, beq_self_eq_true, BEq.rfl, zCat1, zCat2, zCat3, zKdI, zKdL, zKdR, true_and, and_true, zSI, zSL, zSR, zu_at, and_self, and_false, false_and, lv_args, zKdZ, zKdO, zB01, zB11, Option.toList_none, Option.toList_some, List.nil_append, List.cons_append, true_or, or_true, zRow_rd, zu_rd, zo_putfield, zo_putfield_2, zo_putfield_3, zo_aload_n, zo_getfield, zo_if_lt, zo_iconst, zo_goto, zo_isub, zo_bipush, zo_icmp_le, zo_icmp_ne, zo_return_, zi_1, zb_6, zi_2, zKd_10_9, zTy_10_9, zKd_10_7, zKd_10_10, zKd_10_8, zTy_10_8, sh_87, zcl_1, zcl_6, zcl_2, zPutC, zKn_s, zKn_0, zFind, x1, x3, zN10, zN01, not_true_eq_false, not_false_eq_true, false_implies, true_implies, implies_true, eq_self, nI_1, nI_40, nI_7, vz0, vz1, zb1_e0, zb1_n0]
        refine hQ _ ((kJ.u (by unfold SRj; omega)).u (by unfold SRj; omega)) (by simp [zu_at]; exact j10) (by simp [zu_at]; exact j7) ?_
        simp only [zu_at, Nat.reduceEqDiff, and_false, and_self, if_true, if_false]
        have r5 : rKd (oWk W (nI (pkW (oLf T sp (sp + m)) 6))) = 1 := by
          clear hQ
          generalize oWk W (nI (pkW (oLf T sp (sp + m)) 6)) = q at r2 r3 r4
          unfold rKd
          rw [if_neg (by omega), if_neg (by omega), if_neg (by omega), if_neg (by omega), if_neg (by omega), if_neg (by omega), if_neg (by omega)]
        unfold tRel
        refine ⟨r2, Or.inr ⟨?_, ?_, ?_, ?_⟩⟩
        · rw [r5]; rfl
        · intro h; omega
        · intro h; omega
        · intro _; rw [r4]
      · -- a name
        have e1 : mWi (mWk T sp (sp + m)) = -1 := by unfold mWi; rw [if_neg (by omega)]
        have x1 : ((-1 : Int32) < 0) = True := eq_true (by decide)
        have x2 : (nI m ≤ 6) = True := eq_true (by rw [show (6 : Int32) = nI 6 from rfl, zle_nat (by omega) (by omega)]; omega)
        rw [e1]
        refine zBlkR (M := mX10_token) (nL := 1) (rt := (Option.none : Option Jvm.ClassFile.FieldType)) (blk := bX10_token_127) (T := [(142, bX10_token_142), (161, bX10_token_161), (162, bX10_token_162), (281, bX10_token_281)]) 3 hX10_token_127 (zChks_cons hX10_token_142 (zChks_cons hX10_token_161 (zChks_cons hX10_token_162 (zChks_cons hX10_token_281 zChks_nil)))) rfl rfl rfl (Nat.le_of_ble_eq_true rfl) (Nat.le_of_ble_eq_true rfl) ?_
        simp (implicitDefEqProofs := false) only [bX10_token_127, bX10_token_142, bX10_token_161, bX10_token_162, bX10_token_281, zRun_cons, zRun_nil, zLk, zSto, zIns, zFil, zf0, zf1, zf2, zf3, List.filter_cons, List.filter_nil, Nat.reduceAdd, Nat.reduceEqDiff, Nat.reduceLT, Nat.reduceLeDiff, Nat.reduceBEq, Nat.reduceBNe, reduceIte, if_true, if_false, Bool.false_and, Bool.true_and, Bool.and_true, Bool.and_false, Bool.not_false, Bool.not_true, Bool.false_eq_true, beq_self_eq_true, BEq.rfl, zCat1, zCat2, zCat3, zKdI, zKdL, zKdR, true_and, and_true, zSI, zSL, zSR, zu_at, and_self, and_false, false_and, lv_args, zKdZ, zKdO, zB01, zB11, Option.toList_none, Option.toList_some, List.nil_append, List.cons_append, true_or, or_true, zRow_rd, zu_rd, zo_putfield, zo_putfield_2, zo_putfield_3, zo_aload_n, zo_getfield, zo_if_lt, zo_iconst, zo_goto, zo_isub, zo_bipush, zo_icmp_le, zo_icmp_ne, zo_return_, zi_1, zb_6, zi_2, zKd_10_9, zTy_10_9, zKd_10_7, zKd_10_10, zKd_10_8, zTy_10_8, sh_87, zcl_1, zcl_6, zcl_2, zPutC, zKn_s, zKn_0, zFind, x1, j7, j10, esub, x2, zN10, zN01, not_true_eq_false, not_false_eq_true, false_implies, true_implies, implies_true, eq_self, nI_1, nI_40, nI_7, vz0, vz1, zb1_e0, zb1_n0]
        have ju : ∀ k, k < sp + m → (zu (zu J 87 9 (-1)) 87 8 2) 88 k = nI (T k) := fun k hk => by rw [zu_at, if_neg (by omega), zu_at, if_neg (by omega)]; exact (jt k (by omega)).1
        refine z_cV0 (M' := mX10_packed) (R' := rX10_packed) (i := 87) [.int (nI sp), .int (nI (sp + m))] [.ref 87] eX10_packed k10_210 (by decide +kernel : decode cX10_token 183 = .ok (.invokevirtual 210, 3)) (Nat.le_of_ble_eq_true rfl) ⟨Nat.le_of_ble_eq_true rfl, Nat.le_of_ble_eq_true rfl, Nat.le_of_ble_eq_true rfl, Nat.le_of_ble_eq_true rfl, Nat.le_of_ble_eq_true rfl⟩ rfl rfl rfl sh_87 ?_
        refine mo_packed (T := T) (by omega) (by omega) ju ?_
        rw [oPck_pk hlet 6 (Nat.le_refl _)]
        refine zBlkR (M := mX10_token) (nL := 1) (rt := (Option.none : Option Jvm.ClassFile.FieldType)) (blk := bX10_token_186) (T := [(281, bX10_token_281)]) 1 hX10_token_186 (zChks_cons hX10_token_281 zChks_nil) rfl rfl rfl (Nat.le_of_ble_eq_true rfl) (Nat.le_of_ble_eq_true rfl) ?_
        simp (implicitDefEqProofs := false) only [bX10_token_186, bX10_token_281, zRun_cons, zRun_nil, zLk, zSto, zIns, zFil, zf0, zf1, zf2, zf3, List.filter_cons, List.filter_nil, Nat.reduceAdd, Nat.reduceEqDiff, Nat.reduceLT, Nat.reduceLeDiff, Nat.reduceBEq, Nat.reduceBNe, reduceIte, if_true, if_false, Bool.false_and, Bool.true_and, Bool.and_true, Bool.and_false, Bool.not_false, Bool.not_true, Bool.false_eq_true, beq_self_eq_true, BEq.rfl, zCat1, zCat2, zCat3, zKdI, zKdL, zKdR, true_and, and_true, zSI, zSL, zSR, zu_at, and_self, and_false, false_and, lv_args, zKdZ, zKdO, zB01, zB11, Option.toList_none, Option.toList_some, List.nil_append, List.cons_append, true_or, or_true, zRow_rd, zu_rd, zo_putfield, zo_putfield_2, zo_putfield_3, zo_goto, zo_return_, zKd_10_9, zTy_10_9, sh_87, zPutC, zKn_s, zKn_0, zFind, zN10, zN01, not_true_eq_false, not_false_eq_true, false_implies, true_implies, implies_true, eq_self, nI_1, nI_40, nI_7, vz0, vz1, zb1_e0, zb1_n0]
        refine hQ _ (((kJ.u (by unfold SRj; omega)).u (by unfold SRj; omega)).u (by unfold SRj; omega)) (by simp [zu_at]; exact j10) (by simp [zu_at]; exact j7) ?_
        simp only [zu_at, Nat.reduceEqDiff, and_false, and_self, if_true, if_false]
        rw [r2]
        exact ⟨by omega, Or.inr ⟨rfl, fun h => absurd h (by omega), fun _ => rfl, fun h => absurd h (by omega)⟩⟩
    · have r1 : mWk T sp (sp + m) = 27 := mWk_long (by omega)
      rw [w2, if_neg h6m, w1] at hQ
      have e1 : mWi (mWk T sp (sp + m)) = -1 := by unfold mWi; rw [if_neg (by omega)]
      have x1 : ((-1 : Int32) < 0) = True := eq_true (by decide)
      have x2 : (nI m ≤ 6) = False := eq_false (by rw [show (6 : Int32) = nI 6 from rfl, zle_nat (by omega) (by omega)]; omega)
      have x3 : ((6 : Int32) = 2) = False := eq_false (by decide)
      rw [e1]
      refine zBlkR (M := mX10_token) (nL := 1) (rt := (Option.none : Option Jvm.ClassFile.FieldType)) (blk := bX10_token_127) (T := [(142, bX10_token_142), (161, bX10_token_161), (162, bX10_token_162), (281, bX10_token_281)]) 3 hX10_token_127 (zChks_cons hX10_token_142 (zChks_cons hX10_token_161 (zChks_cons hX10_token_162 (zChks_cons hX10_token_281 zChks_nil)))) rfl rfl rfl (Nat.le_of_ble_eq_true rfl) (Nat.le_of_ble_eq_true rfl) ?_
      simp (implicitDefEqProofs := false) only [bX10_token_127, bX10_token_142, bX10_token_161, bX10_token_162, bX10_token_281, zRun_cons, zRun_nil, zLk, zSto, zIns, zFil, zf0, zf1, zf2, zf3, List.filter_cons, List.filter_nil, Nat.reduceAdd, Nat.reduceEqDiff, Nat.reduceLT, Nat.reduceLeDiff, Nat.reduceBEq, Nat.reduceBNe, reduceIte, if_true, if_false, Bool.false_and, Bool.true_and, Bool.and_true, Bool.and_false, Bool.not_false, Bool.not_true, Bool.false_eq_true, beq_self_eq_true, BEq.rfl, zCat1, zCat2, zCat3, zKdI, zKdL, zKdR, true_and, and_true, zSI, zSL, zSR, zu_at, and_self, and_false, false_and, lv_args, zKdZ, zKdO, zB01, zB11, Option.toList_none, Option.toList_some, List.nil_append, List.cons_append, true_or, or_true, zRow_rd, zu_rd, zo_putfield, zo_putfield_2, zo_putfield_3, zo_aload_n, zo_getfield, zo_if_lt, zo_iconst, zo_goto, zo_isub, zo_bipush, zo_icmp_le, zo_icmp_ne, zo_return_, zi_1, zb_6, zi_2, zKd_10_9, zTy_10_9, zKd_10_7, zKd_10_10, zKd_10_8, zTy_10_8, sh_87, zcl_1, zcl_6, zcl_2, zPutC, zKn_s, zKn_0, zFind, x1, j7, j10, esub, x2, x3, zN10, zN01, not_true_eq_false, not_false_eq_true, false_implies, true_implies, implies_true, eq_self, nI_1, nI_40, nI_7, vz0, vz1, zb1_e0, zb1_n0]
      refine hQ _ ((kJ.u (by unfold SRj; omega)).u (by unfold SRj; omega)) (by simp [zu_at]; exact j10) (by simp [zu_at]; exact j7) ?_
      simp only [zu_at, Nat.reduceEqDiff, and_false, and_self, if_true, if_false]
      exact ⟨by omega, Or.inr ⟨rfl, fun h => absurd h (by omega), fun h => absurd h (by omega), fun h => absurd h (by omega)⟩⟩
  · have hlt : m < oLn T (e - sp) sp := by omega
    rw [show (decide (sp + m < e) && oLet (T (sp + m))) = true by rw [oLn_let (T := T) (e - sp) sp m hlt, decide_eq_true (by omega)]; rfl]
    refine zBlkR (M := mX10_token) (nL := 1) (rt := (Option.none : Option Jvm.ClassFile.FieldType)) (blk := bX10_token_98) (T := [(114, bX10_token_114)]) 1 hX10_token_98 (zChks_cons hX10_token_114 zChks_nil) rfl rfl rfl (Nat.le_of_ble_eq_true rfl) (Nat.le_of_ble_eq_true rfl) ?_
    simp (implicitDefEqProofs := false) only [bX10_token_98, bX10_token_114, zRun_cons, zRun_nil, zLk, zSto, zIns, zFil, zf0, zf1, zf2, zf3, List.filter_cons, List.filter_nil, Nat.reduceAdd, Nat.reduceEqDiff, Nat.reduceLT, Nat.reduceLeDiff, Nat.reduceBEq, Nat.reduceBNe, reduceIte, if_true, if_false, Bool.false_and, Bool.true_and, Bool.and_true, Bool.and_false, Bool.not_false, Bool.not_true, Bool.false_eq_true, beq_self_eq_true, BEq.rfl, zCat1, zCat2, zCat3, zKdI, zKdL, zKdR, true_and, and_true, zSI, zSL, zSR, zu_at, and_self, and_false, false_and, lv_args, zKdZ, zKdO, zB01, zB11, Option.toList_none, Option.toList_some, List.nil_append, List.cons_append, true_or, or_true, zRow_rd, zu_rd, zo_if_eq, zo_aload_n, zo_dup, zo_getfield, zo_iconst, zo_iadd, zo_putfield, zo_putfield_2, zo_putfield_3, zo_goto, zi_1, zKd_10_7, zTy_10_7, zKd_10_10, sh_87, zcl_1, zPutC, zKn_s, zKn_0, zFind, zb1_t, j7, nI_1, zN10, zN01, not_true_eq_false, not_false_eq_true, false_implies, true_implies, implies_true, eq_self, nI_1, nI_40, nI_7, vz0, vz1, zb1_e0, zb1_n0]
    exact ih hlt _ (kJ.u (by unfold SRj; omega)) (by simp [zu_at]; exact j10) (by simp [zu_at]; congr 1)
set_option maxRecDepth 20000 in
theorem mo_tkNum (h6 : I 87 6 = nI e) (he : e ≤ 700) (ht : ∀ k, k < e → I 88 k = nI (T k) ∧ T k < 256) : ∀ n i v J, i + n = e → v ≤ 1000000 → zKpt SRj I J → J 87 8 = 3 → J 87 9 = nI v → J 87 7 = nI i → (∀ I', zKpt SRj I I' → I' 87 10 = J 87 10 → I' 87 7 = nI (oNr T n i v).1 → I' 87 8 = 3 → I' 87 9 = nI (oNr T n i v).2 → Q none (SH, I', L, RF p s r)) → zX w mX10_token rX10_token Q 0 0 213 [(0, Value.ref 87)] [] (SH, J, L, RF p s r) := by
  intro n
  induction n with
  | zero =>
    intro i v J hi hv kJ j8 j9 j7 hQ
    have j6 : J 87 6 = nI e := by rw [kJ 87 6 (by unfold SRj; omega)]; exact h6
    have jt : ∀ k, k < e → J 88 k = nI (T k) ∧ T k < 256 := fun k hk => by rw [kJ 88 k (by unfold SRj; omega)]; exact ht k hk
    refine zBlkR (M := mX10_token) (nL := 1) (rt := (Option.none : Option Jvm.ClassFile.FieldType)) (blk := bX10_token_213) (T := []) 0 hX10_token_213 zChks_nil rfl rfl rfl (Nat.le_of_ble_eq_true rfl) (Nat.le_of_ble_eq_true rfl) ?_
    simp (implicitDefEqProofs := false) only [bX10_token_213, zRun_cons, zRun_nil, zLk, zSto, zIns, zFil, zf0, zf1, zf2, zf3, List.filter_cons, List.filter_nil, Nat.reduceAdd, Nat.reduceEqDiff, Nat.reduceLT, Nat.reduceLeDiff, Nat.reduceBEq, Nat.reduceBNe, reduceIte, if_true, if_false, Bool.false_and, Bool.true_and, Bool.and_true, Bool.and_false, Bool.not_false, Bool.not_true, Bool.false_eq_true, beq_self_eq_true, BEq.rfl, zCat1, zCat2, zCat3, zKdI, zKdL, zKdR, true_and, and_true, zSI, zSL, zSR, zu_at, and_self, and_false, false_and, lv_args, zKdZ, zKdO, zB01, zB11, Option.toList_none, Option.toList_some, List.nil_append, List.cons_append, true_or, or_true, zRow_rd, zu_rd, zo_aload_n, zo_getfield, zKd_10_7, sh_87, zKn_0, j7, zN10, zN01, not_true_eq_false, not_false_eq_true, false_implies, true_implies, implies_true, eq_self, nI_1, nI_40, nI_7, vz0, vz1, zb1_e0, zb1_n0]
    refine z_cV0 (M' := mX10_isDigit) (R' := rX10_isDigit) (i := 87) [.int (nI i)] [] eX10_isDigit k10_213 (by decide +kernel : decode cX10_token 218 = .ok (.invokevirtual 213, 3)) (Nat.le_of_ble_eq_true rfl) ⟨Nat.le_of_ble_eq_true rfl, Nat.le_of_ble_eq_true rfl, Nat.le_of_ble_eq_true rfl, Nat.le_of_ble_eq_true rfl, Nat.le_of_ble_eq_true rfl⟩ rfl rfl rfl sh_87 ?_
    refine mo_isDigitN (T := T) j6 he (by omega) jt ?_
    rw [decide_eq_false (by omega)]
    refine zBlkR (M := mX10_token) (nL := 1) (rt := (Option.none : Option Jvm.ClassFile.FieldType)) (blk := bX10_token_221) (T := [(241, bX10_token_241), (261, bX10_token_261), (281, bX10_token_281)]) 1 hX10_token_221 (zChks_cons hX10_token_241 (zChks_cons hX10_token_261 (zChks_cons hX10_token_281 zChks_nil))) rfl rfl rfl (Nat.le_of_ble_eq_true rfl) (Nat.le_of_ble_eq_true rfl) ?_
    simp (implicitDefEqProofs := false) only [bX10_token_221, bX10_token_241, bX10_token_261, bX10_token_281, zRun_cons, zRun_nil, zLk, zSto, zIns, zFil, zf0, zf1, zf2, zf3, List.filter_cons, List.filter_nil, Nat.reduceAdd, Nat.reduceEqDiff, Nat.reduceLT, Nat.reduceLeDiff, Nat.reduceBEq, Nat.reduceBNe, reduceIte, if_true, if_false, Bool.false_and, Bool.true_and, Bool.and_true, Bool.and_false, Bool.not_false, Bool.not_true, Bool.false_eq_true, beq_self_eq_true, BEq.rfl, zCat1, zCat2, zCat3, zKdI, zKdL, zKdR, true_and, and_true, zSI, zSL, zSR, zu_at, and_self, and_false, false_and, lv_args, zKdZ, zKdO, zB01, zB11, Option.toList_none, Option.toList_some, List.nil_append, List.cons_append, true_or, or_true, zRow_rd, zu_rd, zo_if_eq, zo_aload_n, zo_getfield, zo_ldc, zo_icmp_le, zo_goto, zo_bipush, zo_imul, zo_iaload, zo_iadd, zo_isub, zo_putfield, zo_putfield_2, zo_putfield_3, zo_dup, zo_iconst, zo_return_, zi_99999, zb_10, zb_48, zi_1, zKd_10_9, zKd_10_0, zKd_10_7, zTy_10_9, zTy_10_7, sh_87, zcl_10, rf_87_0, sh_88, zcl_48, zcl_1, zvi_10_700, zvi_48_700, zvi_1_700, zPutC, zKn_s, zKn_0, zFind, zb1_f, Bool.false_and, zN10, zN01, not_true_eq_false, not_false_eq_true, false_implies, true_implies, implies_true, eq_self, nI_1, nI_40, nI_7, vz0, vz1, zb1_e0, zb1_n0]
    exact hQ J kJ rfl j7 j8 j9
  | succ n ih =>
    intro i v J hi hv kJ j8 j9 j7 hQ
    have j6 : J 87 6 = nI e := by rw [kJ 87 6 (by unfold SRj; omega)]; exact h6
    have jt : ∀ k, k < e → J 88 k = nI (T k) ∧ T k < 256 := fun k hk => by rw [kJ 88 k (by unfold SRj; omega)]; exact ht k hk
    refine zBlkR (M := mX10_token) (nL := 1) (rt := (Option.none : Option Jvm.ClassFile.FieldType)) (blk := bX10_token_213) (T := []) 0 hX10_token_213 zChks_nil rfl rfl rfl (Nat.le_of_ble_eq_true rfl) (Nat.le_of_ble_eq_true rfl) ?_
    simp (implicitDefEqProofs := false) only [bX10_token_213, zRun_cons, zRun_nil, zLk, zSto, zIns, zFil, zf0, zf1, zf2, zf3, List.filter_cons, List.filter_nil, Nat.reduceAdd, Nat.reduceEqDiff, Nat.reduceLT, Nat.reduceLeDiff, Nat.reduceBEq, Nat.reduceBNe, reduceIte, if_true, if_false, Bool.false_and, Bool.true_and, Bool.and_true, Bool.and_false, Bool.not_false, Bool.not_true, Bool.false_eq_true, beq_self_eq_true, BEq.rfl, zCat1, zCat2, zCat3, zKdI, zKdL, zKdR, true_and, and_true, zSI, zSL, zSR, zu_at, and_self, and_false, false_and, lv_args, zKdZ, zKdO, zB01, zB11, Option.toList_none, Option.toList_some, List.nil_append, List.cons_append, true_or, or_true, zRow_rd, zu_rd, zo_aload_n, zo_getfield, zKd_10_7, sh_87, zKn_0, j7, zN10, zN01, not_true_eq_false, not_false_eq_true, false_implies, true_implies, implies_true, eq_self, nI_1, nI_40, nI_7, vz0, vz1, zb1_e0, zb1_n0]
    refine z_cV0 (M' := mX10_isDigit) (R' := rX10_isDigit) (i := 87) [.int (nI i)] [] eX10_isDigit k10_213 (by decide +kernel : decode cX10_token 218 = .ok (.invokevirtual 213, 3)) (Nat.le_of_ble_eq_true rfl) ⟨Nat.le_of_ble_eq_true rfl, Nat.le_of_ble_eq_true rfl, Nat.le_of_ble_eq_true rfl, Nat.le_of_ble_eq_true rfl, Nat.le_of_ble_eq_true rfl⟩ rfl rfl rfl sh_87 ?_
    refine mo_isDigitN (T := T) j6 he (by omega) jt ?_
    unfold oNr at hQ
    rw [decide_eq_true (show i < e by omega), Bool.true_and]
    cases hd : oDig (T i) with
    | false =>
      rw [if_neg (by rw [hd]; decide)] at hQ
      refine zBlkR (M := mX10_token) (nL := 1) (rt := (Option.none : Option Jvm.ClassFile.FieldType)) (blk := bX10_token_221) (T := [(241, bX10_token_241), (261, bX10_token_261), (281, bX10_token_281)]) 1 hX10_token_221 (zChks_cons hX10_token_241 (zChks_cons hX10_token_261 (zChks_cons hX10_token_281 zChks_nil))) rfl rfl rfl (Nat.le_of_ble_eq_true rfl) (Nat.le_of_ble_eq_true rfl) ?_
      simp (implicitDefEqProofs := false) only [bX10_token_221, bX10_token_241, bX10_token_261, bX10_token_281, zRun_cons, zRun_nil, zLk, zSto, zIns, zFil, zf0, zf1, zf2, zf3, List.filter_cons, List.filter_nil, Nat.reduceAdd, Nat.reduceEqDiff, Nat.reduceLT, Nat.reduceLeDiff, Nat.reduceBEq, Nat.reduceBNe, reduceIte, if_true, if_false, Bool.false_and, Bool.true_and, Bool.and_true, Bool.and_false, Bool.not_false, Bool.not_true, Bool.false_eq_true, beq_self_eq_true, BEq.rfl, zCat1, zCat2, zCat3, zKdI, zKdL, zKdR, true_and, and_true, zSI, zSL, zSR, zu_at, and_self, and_false, false_and, lv_args, zKdZ, zKdO, zB01, zB11, Option.toList_none, Option.toList_some, List.nil_append, List.cons_append, true_or, or_true, zRow_rd, zu_rd, zo_if_eq, zo_aload_n, zo_getfield, zo_ldc, zo_icmp_le, zo_goto, zo_bipush, zo_imul, zo_iaload, zo_iadd, zo_isub, zo_putfield, zo_putfield_2, zo_putfield_3, zo_dup, zo_iconst, zo_return_, zi_99999, zb_10, zb_48, zi_1, zKd_10_9, zKd_10_0, zKd_10_7, zTy_10_9, zTy_10_7, sh_87, zcl_10, rf_87_0, sh_88, zcl_48, zcl_1, zvi_10_700, zvi_48_700, zvi_1_700, zPutC, zKn_s, zKn_0, zFind, zb1_f, zN10, zN01, not_true_eq_false, not_false_eq_true, false_implies, true_implies, implies_true, eq_self, nI_1, nI_40, nI_7, vz0, vz1, zb1_e0, zb1_n0]
      exact hQ J kJ rfl j7 j8 j9
    | true =>
      rw [if_pos hd] at hQ
      have hb := oDig_lo hd
      obtain ⟨t1, t2⟩ := jt i (by omega)
      by_cases hbig : 99999 < v
      · have hx : (nI v ≤ 99999) = False := eq_false (by rw [show (99999 : Int32) = nI 99999 from rfl, zle_nat (by omega) (by omega)]; omega)
        rw [if_pos hbig] at hQ
        refine zBlkR (M := mX10_token) (nL := 1) (rt := (Option.none : Option Jvm.ClassFile.FieldType)) (blk := bX10_token_221) (T := [(241, bX10_token_241), (261, bX10_token_261), (281, bX10_token_281)]) 1 hX10_token_221 (zChks_cons hX10_token_241 (zChks_cons hX10_token_261 (zChks_cons hX10_token_281 zChks_nil))) rfl rfl rfl (Nat.le_of_ble_eq_true rfl) (Nat.le_of_ble_eq_true rfl) ?_
        simp (implicitDefEqProofs := false) only [bX10_token_221, bX10_token_241, bX10_token_261, bX10_token_281, zRun_cons, zRun_nil, zLk, zSto, zIns, zFil, zf0, zf1, zf2, zf3, List.filter_cons, List.filter_nil, Nat.reduceAdd, Nat.reduceEqDiff, Nat.reduceLT, Nat.reduceLeDiff, Nat.reduceBEq, Nat.reduceBNe, reduceIte, if_true, if_false, Bool.false_and, Bool.true_and, Bool.and_true, Bool.and_false, Bool.not_false, Bool.not_true, Bool.false_eq_true, beq_self_eq_true, BEq.rfl, zCat1, zCat2, zCat3, zKdI, zKdL, zKdR, true_and, and_true, zSI, zSL, zSR, zu_at, and_self, and_false, false_and, lv_args, zKdZ, zKdO, zB01, zB11, Option.toList_none, Option.toList_some, List.nil_append, List.cons_append, true_or, or_true, zRow_rd, zu_rd, zo_if_eq, zo_aload_n, zo_getfield, zo_ldc, zo_icmp_le, zo_goto, zo_bipush, zo_imul, zo_iaload, zo_iadd, zo_isub, zo_putfield, zo_putfield_2, zo_putfield_3, zo_dup, zo_iconst, zo_return_, zi_99999, zb_10, zb_48, zi_1, zKd_10_9, zKd_10_0, zKd_10_7, zTy_10_9, zTy_10_7, sh_87, zcl_10, rf_87_0, sh_88, zcl_48, zcl_1, zvi_10_700, zvi_48_700, zvi_1_700, zPutC, zKn_s, zKn_0, zFind, zb1_t, j9, hx, j7, nI_1, zN10, zN01, not_true_eq_false, not_false_eq_true, false_implies, true_implies, implies_true, eq_self, nI_1, nI_40, nI_7, vz0, vz1, zb1_e0, zb1_n0]
        exact ih (i + 1) v _ (by omega) hv ((kJ.u (by unfold SRj; omega)).u (by unfold SRj; omega)) (by simp [zu_at]; exact j8) (by simp [zu_at]) (by simp [zu_at]) (fun I' k' g10 => hQ I' k' (by rw [g10]; simp [zu_at]))
      · have hx : (nI v ≤ 99999) = True := eq_true (by rw [show (99999 : Int32) = nI 99999 from rfl, zle_nat (by omega) (by omega)]; omega)
        have hvi : vp_in (nI i) 700 := zvn (by omega) (by omega)
        have e1 : 10 * nI v + nI (T i) - 48 = nI (10 * v + T i - 48) := by
          rw [show (10 : Int32) = nI 10 from rfl, pk_mul, nI_add, show (48 : Int32) = nI 48 from rfl]
          obtain ⟨q, hq⟩ : ∃ q, 10 * v + T i = q + 48 := ⟨10 * v + T i - 48, by omega⟩
          rw [hq, ← nI_add, Int32.add_sub_cancel]; congr 1
        rw [if_neg hbig] at hQ
        refine zBlkR (M := mX10_token) (nL := 1) (rt := (Option.none : Option Jvm.ClassFile.FieldType)) (blk := bX10_token_221) (T := [(241, bX10_token_241), (261, bX10_token_261), (281, bX10_token_281)]) 1 hX10_token_221 (zChks_cons hX10_token_241 (zChks_cons hX10_token_261 (zChks_cons hX10_token_281 zChks_nil))) rfl rfl rfl (Nat.le_of_ble_eq_true rfl) (Nat.le_of_ble_eq_true rfl) ?_
        simp (implicitDefEqProofs := false) only [bX10_token_221, bX10_token_241, bX10_token_261, bX10_token_281, zRun_cons, zRun_nil, zLk, zSto, zIns, zFil, zf0, zf1, zf2, zf3, List.filter_cons, List.filter_nil, Nat.reduceAdd, Nat.reduceEqDiff, Nat.reduceLT, Nat.reduceLeDiff, Nat.reduceBEq, Nat.reduceBNe, reduceIte, if_true, if_false, Bool.false_and, Bool.true_and, Bool.and_true, Bool.and_false, Bool.not_false, Bool.not_true, Bool.false_eq_true, beq_self_eq_true, BEq.rfl, zCat1, zCat2, zCat3, zKdI, zKdL, zKdR, true_and, and_true, zSI, zSL, zSR, zu_at, and_self, and_false, false_and, lv_args, zKdZ, zKdO, zB01, zB11, Option.toList_none, Option.toList_some, List.nil_append, List.cons_append, true_or, or_true, zRow_rd, zu_rd, zo_if_eq, zo_aload_n, zo_getfield, zo_ldc, zo_icmp_le, zo_goto, zo_bipush, zo_imul, zo_iaload, zo_iadd, zo_isub, zo_putfield, zo_putfield_2, zo_putfield_3, zo_dup, zo_iconst, zo_return_, zi_99999, zb_10, zb_48, zi_1, zKd_10_9, zKd_10_0, zKd_10_7, zTy_10_9, zTy_10_7, sh_87, zcl_10, rf_87_0, sh_88, zcl_48, zcl_1, zvi_10_700, zvi_48_700, zvi_1_700, zPutC, zKn_s, zKn_0, zFind, zb1_t, j9, hx, j7, hvi, t1, e1, nI_1, nI_clamp (n := i) (by omega), zN10, zN01, not_true_eq_false, not_false_eq_true, false_implies, true_implies, implies_true, eq_self, nI_1, nI_40, nI_7, vz0, vz1, zb1_e0, zb1_n0]
        exact ih (i + 1) (10 * v + T i - 48) _ (by omega) (by omega) ((kJ.u (by unfold SRj; omega)).u (by unfold SRj; omega)) (by simp [zu_at]; exact j8) (by simp [zu_at]) (by simp [zu_at]) (fun I' k' g10 => hQ I' k' (by rw [g10]; simp [zu_at]))
set_option maxRecDepth 20000 in
theorem mo_tk52 (h6 : I 87 6 = nI e) (h7 : I 87 7 = nI sp) (hs : sp ≤ e) (he : e ≤ 700) (hw : ∀ k, k < 136 → I 89 k = nI (mWa k)) (ht : ∀ k, k < e → I 88 k = nI (T k) ∧ T k < 256) (hW : ∀ i, i < 27 → W i = nI (cWp i)) (hQ : ∀ I', zKpt SRj I I' → I' 87 10 = nI (oTd W T e sp).1 → I' 87 7 = nI (oTd W T e sp).2.1 → tRel (oTd W T e sp).2.2.1 (oTd W T e sp).2.2.2 (I' 87 8) (I' 87 9) → Q none (SH, I', L, RF p s r)) : zX w mX10_token rX10_token Q 0 0 52 [(0, Value.ref 87)] [] (SH, I, L, RF p s r) := by
  unfold oTd at hQ
  have kA : zKpt SRj I (zu I 87 10 (nI sp)) := zKpt_rfl.u (by unfold SRj; omega)
  by_cases hse : e ≤ sp
  · have : e = sp := by omega
    subst this
    rw [if_pos hse] at hQ
    refine zBlkR (M := mX10_token) (nL := 1) (rt := (Option.none : Option Jvm.ClassFile.FieldType)) (blk := bX10_token_52) (T := [(79, bX10_token_79), (281, bX10_token_281)]) 1 hX10_token_52 (zChks_cons hX10_token_79 (zChks_cons hX10_token_281 zChks_nil)) rfl rfl rfl (Nat.le_of_ble_eq_true rfl) (Nat.le_of_ble_eq_true rfl) ?_
    simp (implicitDefEqProofs := false) only [bX10_token_52, bX10_token_79, bX10_token_281, zRun_cons, zRun_nil, zLk, zSto, zIns, zFil, zf0, zf1, zf2, zf3, List.filter_cons, List.filter_nil, Nat.reduceAdd, Nat.reduceEqDiff, Nat.reduceLT, Nat.reduceLeDiff, Nat.reduceBEq, Nat.reduceBNe, reduceIte, if_true, if_false, Bool.false_and, Bool.true_and, Bool.and_true, Bool.and_false, Bool.not_false, Bool.not_true, Bool.false_eq_true, beq_self_eq_true, BEq.rfl, zCat1, zCat2, zCat3, zKdI, zKdL, zKdR, true_and, and_true, zSI, zSL, zSR, zu_at, and_self, and_false, false_and, lv_args, zKdZ, zKdO, zB01, zB11, Option.toList_none, Option.toList_some, List.nil_append, List.cons_append, true_or, or_true, zRow_rd, zu_rd, zo_aload_n, zo_getfield, zo_putfield, zo_putfield_2, zo_putfield_3, zo_icmp_ne, zo_iconst, zo_goto, zo_return_, zi_0, zKd_10_7, zKd_10_10, zTy_10_10, zKd_10_6, zKd_10_8, zTy_10_8, sh_87, zcl_0, zPutC, zKn_s, zKn_0, zFind, h6, h7, zN10, zN01, not_true_eq_false, not_false_eq_true, false_implies, true_implies, implies_true, eq_self, nI_1, nI_40, nI_7, vz0, vz1, zb1_e0, zb1_n0]
    refine hQ _ (kA.u (by unfold SRj; omega)) (by simp [zu_at]) (by simp [zu_at]; exact h7) ?_
    exact ⟨by show 0 < 47; omega, Or.inr ⟨by simp [zu_at]; rfl, fun h => absurd h (by show ¬ 0 = 2; omega), fun h => absurd h (by show ¬ 0 = 3; omega), fun h => absurd h (by show ¬ 4 ≤ 0; omega)⟩⟩
  · have hx : (nI sp = nI e) = False := eq_false (by rw [zeq_nat (by omega) (by omega)]; omega)
    rw [if_neg hse] at hQ
    refine zBlkR (M := mX10_token) (nL := 1) (rt := (Option.none : Option Jvm.ClassFile.FieldType)) (blk := bX10_token_52) (T := [(79, bX10_token_79), (281, bX10_token_281)]) 1 hX10_token_52 (zChks_cons hX10_token_79 (zChks_cons hX10_token_281 zChks_nil)) rfl rfl rfl (Nat.le_of_ble_eq_true rfl) (Nat.le_of_ble_eq_true rfl) ?_
    simp (implicitDefEqProofs := false) only [bX10_token_52, bX10_token_79, bX10_token_281, zRun_cons, zRun_nil, zLk, zSto, zIns, zFil, zf0, zf1, zf2, zf3, List.filter_cons, List.filter_nil, Nat.reduceAdd, Nat.reduceEqDiff, Nat.reduceLT, Nat.reduceLeDiff, Nat.reduceBEq, Nat.reduceBNe, reduceIte, if_true, if_false, Bool.false_and, Bool.true_and, Bool.and_true, Bool.and_false, Bool.not_false, Bool.not_true, Bool.false_eq_true, beq_self_eq_true, BEq.rfl, zCat1, zCat2, zCat3, zKdI, zKdL, zKdR, true_and, and_true, zSI, zSL, zSR, zu_at, and_self, and_false, false_and, lv_args, zKdZ, zKdO, zB01, zB11, Option.toList_none, Option.toList_some, List.nil_append, List.cons_append, true_or, or_true, zRow_rd, zu_rd, zo_aload_n, zo_getfield, zo_putfield, zo_putfield_2, zo_putfield_3, zo_icmp_ne, zo_iconst, zo_goto, zo_return_, zi_0, zKd_10_7, zKd_10_10, zTy_10_10, zKd_10_6, zKd_10_8, zTy_10_8, sh_87, zcl_0, zPutC, zKn_s, zKn_0, zFind, h6, h7, hx, zN10, zN01, not_true_eq_false, not_false_eq_true, false_implies, true_implies, implies_true, eq_self, nI_1, nI_40, nI_7, vz0, vz1, zb1_e0, zb1_n0]
    have j6 : (zu I 87 10 (nI sp)) 87 6 = nI e := by simp [zu_at]; exact h6
    have j7 : (zu I 87 10 (nI sp)) 87 7 = nI sp := by simp [zu_at]; exact h7
    have j10 : (zu I 87 10 (nI sp)) 87 10 = nI sp := by simp [zu_at]
    have jt : ∀ k, k < e → (zu I 87 10 (nI sp)) 88 k = nI (T k) ∧ T k < 256 := fun k hk => by rw [zu_at, if_neg (by omega)]; exact ht k hk
    have jw : ∀ k, k < 136 → (zu I 87 10 (nI sp)) 89 k = nI (mWa k) := fun k hk => by rw [zu_at, if_neg (by omega)]; exact hw k hk
    generalize zu I 87 10 (nI sp) = I1 at *
    refine z_cV0 (M' := mX10_isSmall) (R' := rX10_isSmall) (i := 87) [.int (nI sp)] [] eX10_isSmall k10_199 (by decide +kernel : decode cX10_token 84 = .ok (.invokevirtual 199, 3)) (Nat.le_of_ble_eq_true rfl) ⟨Nat.le_of_ble_eq_true rfl, Nat.le_of_ble_eq_true rfl, Nat.le_of_ble_eq_true rfl, Nat.le_of_ble_eq_true rfl, Nat.le_of_ble_eq_true rfl⟩ rfl rfl rfl sh_87 ?_
    refine mo_isSmallN (T := T) j6 he hs jt ?_
    rw [decide_eq_true (show sp < e by omega), Bool.true_and]
    cases hl : oLet (T sp) with
    | true =>
      rw [if_pos hl] at hQ
      have key := mo_tkWord (w := w) (Q := Q) (L := L) (p := p) (s := s) (r := r) (W := W) (T := T) j6 j10 (by omega) he jw jt hW (fun I' k' g10 g7 gr => hQ I' (kA.trans k') g10 g7 gr) 0 (Nat.zero_le _) I1 zKpt_rfl j10 j7
      refine zBlkR (M := mX10_token) (nL := 1) (rt := (Option.none : Option Jvm.ClassFile.FieldType)) (blk := bX10_token_87) (T := [(192, bX10_token_192)]) 1 hX10_token_87 (zChks_cons hX10_token_192 zChks_nil) rfl rfl rfl (Nat.le_of_ble_eq_true rfl) (Nat.le_of_ble_eq_true rfl) ?_
      simp (implicitDefEqProofs := false) only [bX10_token_87, bX10_token_192, zRun_cons, zRun_nil, zLk, zSto, zIns, zFil, zf0, zf1, zf2, zf3, List.filter_cons, List.filter_nil, Nat.reduceAdd, Nat.reduceEqDiff, Nat.reduceLT, Nat.reduceLeDiff, Nat.reduceBEq, Nat.reduceBNe, reduceIte, if_true, if_false, Bool.false_and, Bool.true_and, Bool.and_true, Bool.and_false, Bool.not_false, Bool.not_true, Bool.false_eq_true, beq_self_eq_true, BEq.rfl, zCat1, zCat2, zCat3, zKdI, zKdL, zKdR, true_and, and_true, zSI, zSL, zSR, zu_at, and_self, and_false, false_and, lv_args, zKdZ, zKdO, zB01, zB11, Option.toList_none, Option.toList_some, List.nil_append, List.cons_append, true_or, or_true, zRow_rd, zu_rd, zo_if_eq, zo_aload_n, zo_getfield, zKd_10_7, sh_87, zKn_s, zKn_0, zFind, zb1_t, zN10, zN01, not_true_eq_false, not_false_eq_true, false_implies, true_implies, implies_true, eq_self, nI_1, nI_40, nI_7, vz0, vz1, zb1_e0, zb1_n0]
      exact key
    | false =>
      rw [if_neg (by rw [hl]; decide)] at hQ
      refine zBlkR (M := mX10_token) (nL := 1) (rt := (Option.none : Option Jvm.ClassFile.FieldType)) (blk := bX10_token_87) (T := [(192, bX10_token_192)]) 1 hX10_token_87 (zChks_cons hX10_token_192 zChks_nil) rfl rfl rfl (Nat.le_of_ble_eq_true rfl) (Nat.le_of_ble_eq_true rfl) ?_
      simp (implicitDefEqProofs := false) only [bX10_token_87, bX10_token_192, zRun_cons, zRun_nil, zLk, zSto, zIns, zFil, zf0, zf1, zf2, zf3, List.filter_cons, List.filter_nil, Nat.reduceAdd, Nat.reduceEqDiff, Nat.reduceLT, Nat.reduceLeDiff, Nat.reduceBEq, Nat.reduceBNe, reduceIte, if_true, if_false, Bool.false_and, Bool.true_and, Bool.and_true, Bool.and_false, Bool.not_false, Bool.not_true, Bool.false_eq_true, beq_self_eq_true, BEq.rfl, zCat1, zCat2, zCat3, zKdI, zKdL, zKdR, true_and, and_true, zSI, zSL, zSR, zu_at, and_self, and_false, false_and, lv_args, zKdZ, zKdO, zB01, zB11, Option.toList_none, Option.toList_some, List.nil_append, List.cons_append, true_or, or_true, zRow_rd, zu_rd, zo_if_eq, zo_aload_n, zo_getfield, zKd_10_7, sh_87, zKn_s, zKn_0, zFind, zb1_f, j7, zN10, zN01, not_true_eq_false, not_false_eq_true, false_implies, true_implies, implies_true, eq_self, nI_1, nI_40, nI_7, vz0, vz1, zb1_e0, zb1_n0]
      refine z_cV0 (M' := mX10_isDigit) (R' := rX10_isDigit) (i := 87) [.int (nI sp)] [] eX10_isDigit k10_213 (by decide +kernel : decode cX10_token 197 = .ok (.invokevirtual 213, 3)) (Nat.le_of_ble_eq_true rfl) ⟨Nat.le_of_ble_eq_true rfl, Nat.le_of_ble_eq_true rfl, Nat.le_of_ble_eq_true rfl, Nat.le_of_ble_eq_true rfl, Nat.le_of_ble_eq_true rfl⟩ rfl rfl rfl sh_87 ?_
      refine mo_isDigitN (T := T) j6 he hs jt ?_
      rw [decide_eq_true (show sp < e by omega), Bool.true_and]
      cases hd : oDig (T sp) with
      | true =>
        rw [if_pos hd] at hQ
        obtain ⟨r1, r2⟩ := oNm_rel (T := T) (e - sp) sp 0 0 ⟨by omega, by omega, Or.inl rfl⟩
        have key := mo_tkNum (w := w) (Q := Q) (L := L) (p := p) (s := s) (r := r) (T := T) (I := I1) j6 he jt (e - sp) sp 0 (zu (zu I1 87 8 3) 87 9 0) (by omega) (by omega) ((zKpt_rfl.u (by unfold SRj; omega)).u (by unfold SRj; omega)) (by simp [zu_at]) (by simp [zu_at]; rfl) (by simp [zu_at]; exact j7) (fun I' k' g10 g7 g8 g9 => hQ I' (kA.trans k') (by rw [g10]; simp [zu_at]; exact j10) (by rw [g7, r1]) (by
          rw [g8, g9]
          exact ⟨by show 2 < 47; omega, Or.inr ⟨rfl, fun _ => ⟨_, _, rfl, rfl, r2⟩, fun h => absurd h (by show ¬ 2 = 3; omega), fun h => absurd h (by show ¬ 4 ≤ 2; omega)⟩⟩))
        refine zBlkR (M := mX10_token) (nL := 1) (rt := (Option.none : Option Jvm.ClassFile.FieldType)) (blk := bX10_token_200) (T := [(277, bX10_token_277)]) 1 hX10_token_200 (zChks_cons hX10_token_277 zChks_nil) rfl rfl rfl (Nat.le_of_ble_eq_true rfl) (Nat.le_of_ble_eq_true rfl) ?_
        simp (implicitDefEqProofs := false) only [bX10_token_200, bX10_token_277, zRun_cons, zRun_nil, zLk, zSto, zIns, zFil, zf0, zf1, zf2, zf3, List.filter_cons, List.filter_nil, Nat.reduceAdd, Nat.reduceEqDiff, Nat.reduceLT, Nat.reduceLeDiff, Nat.reduceBEq, Nat.reduceBNe, reduceIte, if_true, if_false, Bool.false_and, Bool.true_and, Bool.and_true, Bool.and_false, Bool.not_false, Bool.not_true, Bool.false_eq_true, beq_self_eq_true, BEq.rfl, zCat1, zCat2, zCat3, zKdI, zKdL, zKdR, true_and, and_true, zSI, zSL, zSR, zu_at, and_self, and_false, false_and, lv_args, zKdZ, zKdO, zB01, zB11, Option.toList_none, Option.toList_some, List.nil_append, List.cons_append, true_or, or_true, zRow_rd, zu_rd, zo_if_eq, zo_aload_n, zo_iconst, zo_putfield, zo_putfield_2, zo_putfield_3, zi_3, zi_0, zKd_10_8, zTy_10_8, zKd_10_9, zTy_10_9, zcl_3, sh_87, zcl_0, zPutC, zKn_s, zKn_0, zFind, zb1_t, zN10, zN01, not_true_eq_false, not_false_eq_true, false_implies, true_implies, implies_true, eq_self, nI_1, nI_40, nI_7, vz0, vz1, zb1_e0, zb1_n0]
        exact key
      | false =>
        rw [if_neg (by rw [hd]; decide)] at hQ
        refine zBlkR (M := mX10_token) (nL := 1) (rt := (Option.none : Option Jvm.ClassFile.FieldType)) (blk := bX10_token_200) (T := [(277, bX10_token_277)]) 1 hX10_token_200 (zChks_cons hX10_token_277 zChks_nil) rfl rfl rfl (Nat.le_of_ble_eq_true rfl) (Nat.le_of_ble_eq_true rfl) ?_
        simp (implicitDefEqProofs := false) only [bX10_token_200, bX10_token_277, zRun_cons, zRun_nil, zLk, zSto, zIns, zFil, zf0, zf1, zf2, zf3, List.filter_cons, List.filter_nil, Nat.reduceAdd, Nat.reduceEqDiff, Nat.reduceLT, Nat.reduceLeDiff, Nat.reduceBEq, Nat.reduceBNe, reduceIte, if_true, if_false, Bool.false_and, Bool.true_and, Bool.and_true, Bool.and_false, Bool.not_false, Bool.not_true, Bool.false_eq_true, beq_self_eq_true, BEq.rfl, zCat1, zCat2, zCat3, zKdI, zKdL, zKdR, true_and, and_true, zSI, zSL, zSR, zu_at, and_self, and_false, false_and, lv_args, zKdZ, zKdO, zB01, zB11, Option.toList_none, Option.toList_some, List.nil_append, List.cons_append, true_or, or_true, zRow_rd, zu_rd, zo_if_eq, zo_aload_n, zo_iconst, zo_putfield, zo_putfield_2, zo_putfield_3, zi_3, zi_0, zKd_10_8, zTy_10_8, zKd_10_9, zTy_10_9, zcl_3, sh_87, zcl_0, zPutC, zKn_s, zKn_0, zFind, zb1_f, zN10, zN01, not_true_eq_false, not_false_eq_true, false_implies, true_implies, implies_true, eq_self, nI_1, nI_40, nI_7, vz0, vz1, zb1_e0, zb1_n0]
        refine z_cV0 (M' := mX10_signToken) (R' := rX10_signToken) (i := 87) [] [] eX10_signToken k10_217 (by decide +kernel : decode cX10_token 278 = .ok (.invokevirtual 217, 3)) (Nat.le_of_ble_eq_true rfl) ⟨Nat.le_of_ble_eq_true rfl, Nat.le_of_ble_eq_true rfl, Nat.le_of_ble_eq_true rfl, Nat.le_of_ble_eq_true rfl, Nat.le_of_ble_eq_true rfl⟩ rfl rfl rfl sh_87 ?_
        refine mo_signToken (T := T) j6 j7 (by omega) he jt (fun I' k' g10 g7 gr => ?_)
        refine zBlkR (M := mX10_token) (nL := 1) (rt := (Option.none : Option Jvm.ClassFile.FieldType)) (blk := bX10_token_281) (T := []) 0 hX10_token_281 zChks_nil rfl rfl rfl (Nat.le_of_ble_eq_true rfl) (Nat.le_of_ble_eq_true rfl) ?_
        simp (implicitDefEqProofs := false) only [bX10_token_281, zRun_cons, zRun_nil, zLk, zSto, zIns, zFil, zf0, zf1, zf2, zf3, List.filter_cons, List.filter_nil, Nat.reduceAdd, Nat.reduceEqDiff, Nat.reduceLT, Nat.reduceLeDiff, Nat.reduceBEq, Nat.reduceBNe, reduceIte, if_true, if_false, Bool.false_and, Bool.true_and, Bool.and_true, Bool.and_false, Bool.not_false, Bool.not_true, Bool.false_eq_true, beq_self_eq_true, BEq.rfl, zCat1, zCat2, zCat3, zKdI, zKdL, zKdR, true_and, and_true, zSI, zSL, zSR, zu_at, and_self, and_false, false_and, lv_args, zKdZ, zKdO, zB01, zB11, Option.toList_none, Option.toList_some, List.nil_append, List.cons_append, true_or, or_true, zRow_rd, zu_rd, zo_return_, zKn_0, zN10, zN01, not_true_eq_false, not_false_eq_true, false_implies, true_implies, implies_true, eq_self, nI_1, nI_40, nI_7, vz0, vz1, zb1_e0, zb1_n0]
        exact hQ I' (kA.trans k') (by rw [g10]; exact j10) g7 gr
set_option maxRecDepth 20000 in
theorem mo_token : ∀ (n i : Nat) (I : Nat → Nat → Int32), (∀ k, k < 136 → I 89 k = nI (mWa k)) → (∀ i, i < 27 → W i = nI (cWp i)) → I 87 6 = nI (i + n) → I 87 7 = nI i → i + n ≤ 700 → (∀ k, k < i + n → I 88 k = nI (T k) ∧ T k < 256) → (∀ I', zKpt SRj I I' → I' 87 10 = nI (oTc W T (i + n) i).1 → I' 87 7 = nI (oTc W T (i + n) i).2.1 → tRel (oTc W T (i + n) i).2.2.1 (oTc W T (i + n) i).2.2.2 (I' 87 8) (I' 87 9) → Q none (SH, I', L, RF p s r)) → zXM w mX10_token rX10_token [.ref 87] (SH, I, L, RF p s r) Q := by
  intro n
  induction n with
  | zero =>
    intro i I hw hW h6 h7 he ht hQ
    unfold zXM
    have hx : (nI i ≤ nI i) = True := eq_true (by rw [zle_nat (by omega) (by omega)]; omega)
    have h6' : I 87 6 = nI i := h6
    rw [oTc_d, Nat.add_sub_cancel_left] at hQ
    have key := mo_tk52 (w := w) (Q := Q) (L := L) (p := p) (s := s) (r := r) (T := T) h6 h7 (by omega) he hw ht hW hQ
    refine zBlkR (M := mX10_token) (nL := 1) (rt := (Option.none : Option Jvm.ClassFile.FieldType)) (blk := bX10_token_0) (T := [(39, bX10_token_39)]) 1 hX10_token_0 (zChks_cons hX10_token_39 zChks_nil) rfl rfl rfl (Nat.le_of_ble_eq_true rfl) (Nat.le_of_ble_eq_true rfl) ?_
    simp (implicitDefEqProofs := false) only [bX10_token_0, bX10_token_39, zRun_cons, zRun_nil, zLk, zSto, zIns, zFil, zf0, zf1, zf2, zf3, List.filter_cons, List.filter_nil, Nat.reduceAdd, Nat.reduceEqDiff, Nat.reduceLT, Nat.reduceLeDiff, Nat.reduceBEq, Nat.reduceBNe, reduceIte, if_true, if_false, Bool.false_and, Bool.true_and, Bool.and_true, Bool.and_false, Bool.not_false, Bool.not_true, Bool.false_eq_true, beq_self_eq_true, BEq.rfl, zCat1, zCat2, zCat3, zKdI, zKdL, zKdR, true_and, and_true, zSI, zSL, zSR, zu_at, and_self, and_false, false_and, lv_args, zKdZ, zKdO, zB01, zB11, Option.toList_none, Option.toList_some, List.nil_append, List.cons_append, true_or, or_true, zRow_rd, zu_rd, zo_aload_n, zo_getfield, zo_icmp_ge, zo_iaload, zo_bipush, zo_icmp_eq, zo_icmp_ne, zo_dup, zo_iconst, zo_iadd, zo_putfield, zo_putfield_2, zo_putfield_3, zo_goto, zb_10, zb_32, zi_1, zKd_10_7, zKd_10_6, zKd_10_0, zTy_10_7, sh_87, rf_87_0, sh_88, zcl_10, zcl_32, zcl_1, zvi_10_700, zvi_32_700, zvi_1_700, zPutC, zKn_s, zKn_0, zFind, h6', h7, hx, zN10, zN01, not_true_eq_false, not_false_eq_true, false_implies, true_implies, implies_true, eq_self, nI_1, nI_40, nI_7, vz0, vz1, zb1_e0, zb1_n0]
    exact key
  | succ n ih =>
    intro i I hw hW h6 h7 he ht hQ
    unfold zXM
    have hx : (nI (i + (n + 1)) ≤ nI i) = False := eq_false (by rw [zle_nat (by omega) (by omega)]; omega)
    have hv : vp_in (nI i) 700 := zvn (by omega) (by omega)
    obtain ⟨t1, t2⟩ := ht i (by omega)
    have y10 : (nI (T i) = 10) = (T i = 10) := zeq_nat (b := 10) (by omega) (by omega)
    have y32 : (nI (T i) = 32) = (T i = 32) := zeq_nat (b := 32) (by omega) (by omega)
    rw [oTc_d, Nat.add_sub_cancel_left] at hQ
    unfold oSk at hQ
    cases hb : oSpc (T i) with
    | true =>
      rw [if_pos hb] at hQ
      have go : zX w mX10_token rX10_token Q 0 0 0 [(0, Value.ref 87)] [] (SH, zu I 87 7 (nI (i + 1)), L, RF p s r) := by
        have := ih (i + 1) (zu I 87 7 (nI (i + 1))) (fun k hk => by rw [zu_at, if_neg (by omega)]; exact hw k hk) hW (by simp [zu_at]; rw [h6]; congr 1; omega) (by simp [zu_at]) (by omega) (fun k hk => by rw [zu_at, if_neg (by omega)]; exact ht k (by omega)) (fun I' k' => by
          rw [oTc_d, show i + 1 + n - (i + 1) = n by omega, show i + 1 + n = i + (n + 1) by omega]
          exact hQ I' ((zKpt_rfl.u (by unfold SRj; omega)).trans k'))
        unfold zXM at this
        exact this
      have hsp : T i = 32 ∨ T i = 10 := by unfold oSpc at hb; simpa using hb
      refine zBlkR (M := mX10_token) (nL := 1) (rt := (Option.none : Option Jvm.ClassFile.FieldType)) (blk := bX10_token_0) (T := [(39, bX10_token_39)]) 1 hX10_token_0 (zChks_cons hX10_token_39 zChks_nil) rfl rfl rfl (Nat.le_of_ble_eq_true rfl) (Nat.le_of_ble_eq_true rfl) ?_
      simp (implicitDefEqProofs := false) only [bX10_token_0, bX10_token_39, zRun_cons, zRun_nil, zLk, zSto, zIns, zFil, zf0, zf1, zf2, zf3, List.filter_cons, List.filter_nil, Nat.reduceAdd, Nat.reduceEqDiff, Nat.reduceLT, Nat.reduceLeDiff, Nat.reduceBEq, Nat.reduceBNe, reduceIte, if_true, if_false, Bool.false_and, Bool.true_and, Bool.and_true, Bool.and_false, Bool.not_false, Bool.not_true, Bool.false_eq_true, beq_self_eq_true, BEq.rfl, zCat1, zCat2, zCat3, zKdI, zKdL, zKdR, true_and, and_true, zSI, zSL, zSR, zu_at, and_self, and_false, false_and, lv_args, zKdZ, zKdO, zB01, zB11, Option.toList_none, Option.toList_some, List.nil_append, List.cons_append, true_or, or_true, zRow_rd, zu_rd, zo_aload_n, zo_getfield, zo_icmp_ge, zo_iaload, zo_bipush, zo_icmp_eq, zo_icmp_ne, zo_dup, zo_iconst, zo_iadd, zo_putfield, zo_putfield_2, zo_putfield_3, zo_goto, zb_10, zb_32, zi_1, zKd_10_7, zKd_10_6, zKd_10_0, zTy_10_7, sh_87, rf_87_0, sh_88, zcl_10, zcl_32, zcl_1, zvi_10_700, zvi_32_700, zvi_1_700, zPutC, zKn_s, zKn_0, zFind, h6, h7, hx, hv, t1, y10, y32, nI_1, nI_clamp (n := i) (by omega), zN10, zN01, not_true_eq_false, not_false_eq_true, false_implies, true_implies, implies_true, eq_self, nI_1, nI_40, nI_7, vz0, vz1, zb1_e0, zb1_n0]
      rcases hsp with g | g
      · simp [g]; exact go
      · simp [g]; exact go
    | false =>
      rw [if_neg (by rw [hb]; decide)] at hQ
      have hsp : ¬ (T i = 32 ∨ T i = 10) := by
        unfold oSpc at hb
        intro q
        simp at hb
        omega
      have n32 : (T i = 32) = False := eq_false (fun g => hsp (Or.inl g))
      have n10 : (T i = 10) = False := eq_false (fun g => hsp (Or.inr g))
      have key := mo_tk52 (w := w) (Q := Q) (L := L) (p := p) (s := s) (r := r) (T := T) h6 h7 (by omega) he hw ht hW hQ
      refine zBlkR (M := mX10_token) (nL := 1) (rt := (Option.none : Option Jvm.ClassFile.FieldType)) (blk := bX10_token_0) (T := [(39, bX10_token_39)]) 1 hX10_token_0 (zChks_cons hX10_token_39 zChks_nil) rfl rfl rfl (Nat.le_of_ble_eq_true rfl) (Nat.le_of_ble_eq_true rfl) ?_
      simp (implicitDefEqProofs := false) only [bX10_token_0, bX10_token_39, zRun_cons, zRun_nil, zLk, zSto, zIns, zFil, zf0, zf1, zf2, zf3, List.filter_cons, List.filter_nil, Nat.reduceAdd, Nat.reduceEqDiff, Nat.reduceLT, Nat.reduceLeDiff, Nat.reduceBEq, Nat.reduceBNe, reduceIte, if_true, if_false, Bool.false_and, Bool.true_and, Bool.and_true, Bool.and_false, Bool.not_false, Bool.not_true, Bool.false_eq_true, beq_self_eq_true, BEq.rfl, zCat1, zCat2, zCat3, zKdI, zKdL, zKdR, true_and, and_true, zSI, zSL, zSR, zu_at, and_self, and_false, false_and, lv_args, zKdZ, zKdO, zB01, zB11, Option.toList_none, Option.toList_some, List.nil_append, List.cons_append, true_or, or_true, zRow_rd, zu_rd, zo_aload_n, zo_getfield, zo_icmp_ge, zo_iaload, zo_bipush, zo_icmp_eq, zo_icmp_ne, zo_dup, zo_iconst, zo_iadd, zo_putfield, zo_putfield_2, zo_putfield_3, zo_goto, zb_10, zb_32, zi_1, zKd_10_7, zKd_10_6, zKd_10_0, zTy_10_7, sh_87, rf_87_0, sh_88, zcl_10, zcl_32, zcl_1, zvi_10_700, zvi_32_700, zvi_1_700, zPutC, zKn_s, zKn_0, zFind, h6, h7, hx, hv, t1, y10, y32, n32, n10, nI_clamp (n := i) (by omega), zN10, zN01, not_true_eq_false, not_false_eq_true, false_implies, true_implies, implies_true, eq_self, nI_1, nI_40, nI_7, vz0, vz1, zb1_e0, zb1_n0]
      exact key
end ZN98p
end

section
/-! ===== TEXT: the token laid over the memory, both sides ===== -/
abbrev oTk : Type := Nat × Nat × Nat × Int32
abbrev tAt (t : oTk) : Nat := t.1
abbrev tKd (t : oTk) : Nat := t.2.2.1
abbrev tVl (t : oTk) : Int32 := t.2.2.2
/-- where a text is read: its words, its bytes, its end -/
abbrev oEn : Type := (Nat → Int32) × (Nat → Nat) × Nat
def tNx (E : oEn) (t : oTk) : oTk := oTc E.1 E.2.1 E.2.2 t.2.1
def zTs (J : Nat → Nat → Int32) (t : oTk) : Nat → Nat → Int32 := fun i k => if i = 1 then (if k = 4 then nI t.2.1 else if k = 5 then nI t.1 else if k = 6 then nI t.2.2.1 else if k = 7 then t.2.2.2 else J 1 k) else J i k
def zTq (J : Nat → Nat → Int32) (t : oTk) (kd wh : Int32) : Nat → Nat → Int32 := fun i k => if i = 87 then (if k = 7 then nI t.2.1 else if k = 10 then nI t.1 else if k = 8 then kd else if k = 9 then wh else J 87 k) else J i k
def zEc (J : Nat → Nat → Int32) (E : oEn) : Prop := J 1 3 = nI E.2.2 ∧ J 3 = E.1 ∧ E.2.2 ≤ 700 ∧ ∀ k, k < E.2.2 → J 2 k = oSb (E.2.1 k) ∧ E.2.1 k < 256
def zEr (J : Nat → Nat → Int32) (E : oEn) : Prop := J 87 6 = nI E.2.2 ∧ (∀ k, k < 136 → J 89 k = nI (mWa k)) ∧ (∀ i, i < 27 → E.1 i = nI (cWp i)) ∧ E.2.2 ≤ 700 ∧ ∀ k, k < E.2.2 → J 88 k = nI (E.2.1 k) ∧ E.2.1 k < 256
def tOk (E : oEn) (t : oTk) : Prop := t.1 ≤ E.2.2 ∧ t.2.1 ≤ E.2.2 ∧ t.2.2.1 < 47 ∧ (t.2.2.1 = 2 → ∃ n, n ≤ 1000000 ∧ t.2.2.2 = nI n)
section ZN98q
variable {w : zP} {Q : Option Value → zMem → Prop} {μ : zMem} {I J : Nat → Nat → Int32} {L K : Nat → Nat → Int64} {p s : Nat} {r : Option Nat} {a b c i j k n e m sp : Nat} {x y v kd wh : Int32} {T : Nat → Nat} {W : Nat → Int32} {E : oEn} {t u : oTk}
theorem zTs_14 : zTs J t 1 4 = nI t.2.1 := by simp [zTs]
theorem zTs_15 : zTs J t 1 5 = nI t.1 := by simp [zTs]
theorem zTs_16 : zTs J t 1 6 = nI t.2.2.1 := by simp [zTs]
theorem zTs_17 : zTs J t 1 7 = t.2.2.2 := by simp [zTs]
theorem zTs_13 : zTs J t 1 3 = J 1 3 := by simp [zTs]
theorem zTs_12 : zTs J t 1 2 = J 1 2 := by simp [zTs]
theorem zTs_o (h : (i = 1) = False) : zTs J t i = J i := by
  funext k; unfold zTs; rw [if_neg (fun q => by rw [h] at q; exact q)]
theorem zTs_u (h : (i = 1) = False) : zu (zTs J t) i k v = zTs (zu J i k v) t := by
  have h1 : ¬ i = 1 := fun q => by rw [h] at q; exact q
  funext a b
  unfold zTs
  by_cases g : a = 1
  · subst g
    have h2 : ¬ 1 = i := fun q => h1 q.symm
    simp only [zu_at, h2, false_and, if_false]
  · simp only [zu_at, g, if_false]
theorem zTs_row (h : (i = 1) = False) {f : Nat → Int32} : zRow (zTs J t) i f = zTs (zRow J i f) t := by
  have h1 : ¬ i = 1 := fun q => by rw [h] at q; exact q
  funext a
  by_cases g : a = 1
  · subst g
    rw [zRow_rd, if_neg (fun q => h1 q.symm)]
    funext b
    unfold zTs
    rw [if_pos rfl, if_pos rfl, zRow_rd, if_neg (fun q => h1 q.symm)]
  · funext b
    unfold zTs
    rw [zRow_rd]
    by_cases g2 : a = i
    · rw [if_pos g2, if_neg g, zRow_rd, if_pos g2]
    · rw [if_neg g2, if_neg g, if_neg g, zRow_rd, if_neg g2]
theorem zTs_ts : zTs (zTs J t) u = zTs J u := by
  funext a b; unfold zTs
  by_cases g : a = 1
  · simp only [g, if_true]
    repeat' split
    all_goals rfl
  · simp only [g, if_false]
theorem zTs_eq (h : zKpt STj (zTs J t) I) (h5 : I 1 5 = nI u.1) (h4 : I 1 4 = nI u.2.1) (h6 : I 1 6 = nI u.2.2.1) (h7 : I 1 7 = u.2.2.2) : I = zTs J u := by
  funext a b
  unfold zTs
  by_cases g : a = 1
  · subst g
    rw [if_pos rfl]
    by_cases q4 : b = 4
    · rw [if_pos q4, q4, h4]
    · rw [if_neg q4]
      by_cases q5 : b = 5
      · rw [if_pos q5, q5, h5]
      · rw [if_neg q5]
        by_cases q6 : b = 6
        · rw [if_pos q6, q6, h6]
        · rw [if_neg q6]
          by_cases q7 : b = 7
          · rw [if_pos q7, q7, h7]
          · rw [if_neg q7, h 1 b (by unfold STj; omega)]
            unfold zTs
            rw [if_pos rfl, if_neg q4, if_neg q5, if_neg q6, if_neg q7]
  · rw [if_neg g, h a b (by unfold STj; omega)]
    unfold zTs
    rw [if_neg g]
theorem zTq_7 : zTq J t kd wh 87 7 = nI t.2.1 := by simp [zTq]
theorem zTq_10 : zTq J t kd wh 87 10 = nI t.1 := by simp [zTq]
theorem zTq_8 : zTq J t kd wh 87 8 = kd := by simp [zTq]
theorem zTq_9 : zTq J t kd wh 87 9 = wh := by simp [zTq]
theorem zTq_o (h : (i = 87) = False) : zTq J t kd wh i = J i := by
  funext k; unfold zTq; rw [if_neg (fun q => by rw [h] at q; exact q)]
theorem zTq_k (h : (k = 7) = False) (h2 : (k = 8) = False) (h3 : (k = 9) = False) (h4 : (k = 10) = False) : zTq J t kd wh 87 k = J 87 k := by
  unfold zTq; simp only [h, h2, h3, h4, if_true, if_false]
theorem zTq_u (h : (i = 87) = False) : zu (zTq J t kd wh) i k v = zTq (zu J i k v) t kd wh := by
  have h1 : ¬ i = 87 := fun q => by rw [h] at q; exact q
  funext a b
  unfold zTq
  by_cases g : a = 87
  · subst g
    have h2 : ¬ 87 = i := fun q => h1 q.symm
    simp only [zu_at, h2, false_and, if_false]
  · simp only [zu_at, g, if_false]
theorem zTq_uk (h : (k = 7) = False) (h2 : (k = 8) = False) (h3 : (k = 9) = False) (h4 : (k = 10) = False) : zu (zTq J t kd wh) 87 k v = zTq (zu J 87 k v) t kd wh := by
  have g1 : ¬ 7 = k := fun q => by rw [← h]; exact q.symm
  have g2 : ¬ 8 = k := fun q => by rw [← h2]; exact q.symm
  have g3 : ¬ 9 = k := fun q => by rw [← h3]; exact q.symm
  have g4 : ¬ 10 = k := fun q => by rw [← h4]; exact q.symm
  funext a b
  unfold zTq
  by_cases g : a = 87
  · subst g
    simp only [zu_at, if_true, true_and]
    by_cases q : b = k
    · subst q; simp only [h, h2, h3, h4, if_true, if_false]
    · simp only [q, if_false]
  · simp only [zu_at, g, if_false, false_and]
theorem zTq_eq (h : zKpt SRj (zTq J t kd wh) I) (h10 : I 87 10 = nI u.1) (h7 : I 87 7 = nI u.2.1) : I = zTq J u (I 87 8) (I 87 9) := by
  funext a b
  unfold zTq
  by_cases g : a = 87
  · subst g
    rw [if_pos rfl]
    by_cases q4 : b = 7
    · rw [if_pos q4, q4, h7]
    · rw [if_neg q4]
      by_cases q5 : b = 10
      · rw [if_pos q5, q5, h10]
      · rw [if_neg q5]
        by_cases q6 : b = 8
        · rw [if_pos q6, q6]
        · rw [if_neg q6]
          by_cases q7 : b = 9
          · rw [if_pos q7, q7]
          · rw [if_neg q7, h 87 b (by unfold SRj; omega)]
            unfold zTq
            rw [if_pos rfl, if_neg q4, if_neg q5, if_neg q6, if_neg q7]
  · rw [if_neg g, h a b (by unfold SRj; omega)]
    unfold zTq
    rw [if_neg g]
theorem oWk_lt : oWk W v < 47 := by unfold oWk; split <;> omega
theorem oWk_3 : 3 ≤ oWk W v := by unfold oWk; split <;> omega
theorem oNm_b {T : Nat → Nat} : ∀ n i v, v ≤ 1000000 → (oNm T n i v).2 ≤ 1000000 ∧ i ≤ (oNm T n i v).1 ∧ (oNm T n i v).1 ≤ i + n
  | 0, i, v, h => ⟨h, Nat.le_refl _, Nat.le_refl _⟩
  | n + 1, i, v, h => by
    unfold oNm
    split
    · have := oNm_b (T := T) n (i + 1) (min 1000000 (v * 10 + T i - 48)) (by omega)
      omega
    · exact ⟨h, Nat.le_refl _, by show i ≤ i + (n + 1); omega⟩
theorem oSk_ge {T : Nat → Nat} : ∀ n i, i ≤ oSk T n i
  | 0, i => Nat.le_refl _
  | n + 1, i => by
    unfold oSk
    split
    · have := oSk_ge (T := T) n (i + 1); omega
    · omega
theorem oMk_b : oMk b < 47 ∧ 0 < oMk b ∧ oMk b ≠ 2 := by unfold oMk; repeat' split
                                                          all_goals omega
theorem oCp_b : oCp a b < 13 ∧ 7 ≤ oCp a b := by unfold oCp; repeat' split
                                                 all_goals omega
/-- what is known of a token -/
theorem oTc_ok (hi : i ≤ e) : (oTc W T e i).1 ≤ e ∧ (oTc W T e i).2.1 ≤ e ∧ i ≤ (oTc W T e i).2.1 ∧ ((oTc W T e i).2.2.1 ≠ 0 → i < (oTc W T e i).2.1) ∧ (oTc W T e i).2.2.1 < 47 ∧ ((oTc W T e i).2.2.1 = 2 → ∃ n, n ≤ 1000000 ∧ (oTc W T e i).2.2.2 = nI n) := by
  have h1 := oSk_ge (T := T) (e - i) i
  have h2 := oSk_le (T := T) (e - i) i
  rw [oTc_d]
  generalize oSk T (e - i) i = q at h1 h2 ⊢
  unfold oTd
  by_cases g : e ≤ q
  · rw [if_pos g]
    exact ⟨by show q ≤ e; omega, by show q ≤ e; omega, h1, fun h => absurd rfl h, by show 0 < 47; omega, fun h => absurd h (by show ¬ 0 = 2; omega)⟩
  · rw [if_neg g]
    by_cases gl : oLet (T q) = true
    · rw [if_pos gl]
      obtain ⟨w1, w2⟩ := oWr_1 (T := T) (e - q) q 0 0
      have w3 := oLn_le (T := T) (e - q) q
      have w4 : 0 < oLn T (e - q) q := by
        obtain ⟨d, hd⟩ : ∃ d, e - q = d + 1 := ⟨e - q - 1, by omega⟩
        rw [hd]; unfold oLn; rw [if_pos gl]; omega
      refine ⟨by show q ≤ e; omega, by show (oWr T (e - q) q 0 0).1 ≤ e; omega, by show i ≤ (oWr T (e - q) q 0 0).1; omega, fun _ => by show i < (oWr T (e - q) q 0 0).1; omega, ?_, ?_⟩
      · show (if _ then _ else _) < 47
        split
        · exact oWk_lt
        · omega
      · show (if _ then _ else _) = 2 → _
        split
        · intro h; have := oWk_3 (W := W) (v := (oWr T (e - q) q 0 0).2.2); omega
        · intro h; omega
    · rw [if_neg gl]
      by_cases gd : oDig (T q) = true
      · rw [if_pos gd]
        have w1 := oNm_b (T := T) (e - q) q 0 (by omega)
        have w4 : q < (oNm T (e - q) q 0).1 := by
          obtain ⟨d, hd⟩ : ∃ d, e - q = d + 1 := ⟨e - q - 1, by omega⟩
          rw [hd]; unfold oNm; rw [if_pos gd]
          have := oNm_b (T := T) d (q + 1) (min 1000000 (0 * 10 + T q - 48)) (by omega)
          omega
        exact ⟨by show q ≤ e; omega, by show (oNm T (e - q) q 0).1 ≤ e; omega, by show i ≤ (oNm T (e - q) q 0).1; omega, fun _ => by show i < (oNm T (e - q) q 0).1; omega, by show 2 < 47; omega, fun _ => ⟨_, w1.1, rfl⟩⟩
      · rw [if_neg gd]
        have w1 : q < (oMr T e q).1 ∧ (oMr T e q).1 ≤ e ∧ (oMr T e q).2 < 47 ∧ (oMr T e q).2 ≠ 2 := by
          unfold oMr
          split
          · by_cases gn : q + 1 < e
            · rw [if_pos gn]
              have hb := oCp_b (a := T q) (b := T (q + 1))
              simp only
              split
              · exact ⟨by show q < q + 1; omega, by show q + 1 ≤ e; omega, by show _ < 47; omega, by show ¬ _ = 2; omega⟩
              · exact ⟨by show q < q + 2; omega, by show q + 2 ≤ e; omega, by show _ < 47; omega, by show ¬ _ = 2; omega⟩
            · rw [if_neg gn]
              have hb : oCp (T q) 32 = 7 ∨ oCp (T q) 32 = 12 := by unfold oCp; simp; split <;> simp
              simp only
              rw [if_pos hb]
              exact ⟨by show q < q + 1; omega, by show q + 1 ≤ e; omega, by show _ < 47; omega, by show ¬ _ = 2; omega⟩
          · have := oMk_b (b := T q)
            exact ⟨by show q < q + 1; omega, by show q + 1 ≤ e; omega, this.1, this.2.2⟩
        exact ⟨by show q ≤ e; omega, w1.2.1, by show i ≤ (oMr T e q).1; omega, fun _ => by show i < (oMr T e q).1; omega, w1.2.2.1, fun h => absurd h w1.2.2.2⟩
theorem tOk_nx (h : tOk E t) : tOk E (tNx E t) := by
  obtain ⟨h1, h2, h3, h4, h5, h6⟩ := oTc_ok (W := E.1) (T := E.2.1) (e := E.2.2) h.2.1
  exact ⟨h1, h2, h5, h6⟩
theorem tNx_end (h : tOk E t) : t.2.1 ≤ (tNx E t).2.1 ∧ (tKd (tNx E t) ≠ 0 → t.2.1 < (tNx E t).2.1) := by
  obtain ⟨h1, h2, h3, h4, h5, h6⟩ := oTc_ok (W := E.1) (T := E.2.1) (e := E.2.2) h.2.1
  exact ⟨h3, h4⟩
set_option maxRecDepth 20000 in
theorem cl_adv (hE : zEc J E) (ht : tOk E t) (hQ : Q none (SH, zTs J (tNx E t), L, RF p s r)) : zXM w mX7_advance rX7_advance [.ref 1] (SH, zTs J t, L, RF p s r) Q := by
  obtain ⟨e1, e2, e3, e4⟩ := hE
  obtain ⟨d, hd⟩ : ∃ d, E.2.2 = t.2.1 + d := ⟨E.2.2 - t.2.1, by have := ht.2.1; omega⟩
  refine cl_tkAdvance (W := E.1) (T := E.2.1) d t.2.1 (zTs J t) (by rw [zTs_o (by simp)]; exact e2) (by rw [zTs_13, e1, hd]) zTs_14 (by omega) (fun k hk => by rw [zTs_o (by simp)]; exact e4 k (by omega)) (fun I' k' g5 g4 g6 g7 => ?_)
  rw [← hd] at g5 g4 g6 g7
  rw [zTs_eq (u := tNx E t) k' g5 g4 g6 g7]
  exact hQ
set_option maxRecDepth 20000 in
theorem mo_tok (hE : zEr J E) (ht : tOk E t) (hQ : ∀ kd' wh', tRel (tKd (tNx E t)) (tVl (tNx E t)) kd' wh' → Q none (SH, zTq J (tNx E t) kd' wh', L, RF p s r)) : zXM w mX10_token rX10_token [.ref 87] (SH, zTq J t kd wh, L, RF p s r) Q := by
  obtain ⟨e1, e2, e3, e4, e5⟩ := hE
  obtain ⟨d, hd⟩ : ∃ d, E.2.2 = t.2.1 + d := ⟨E.2.2 - t.2.1, by have := ht.2.1; omega⟩
  refine mo_token (W := E.1) (T := E.2.1) d t.2.1 (zTq J t kd wh) (fun k hk => by rw [zTq_o (by simp)]; exact e2 k hk) e3 (by rw [zTq_k (by simp) (by simp) (by simp) (by simp), e1, hd]) zTq_7 (by omega) (fun k hk => by rw [zTq_o (by simp)]; exact e5 k (by omega)) (fun I' k' g10 g7 gr => ?_)
  rw [← hd] at g10 g7 gr
  rw [zTq_eq (u := tNx E t) k' g10 g7]
  exact hQ _ _ gr
end ZN98q
end
