/-! ===== TOKENS: words as numbers; the words of the reference ===== -/
def mWl : List Nat := [112, 108, 97, 99, 101, 32, 99, 104, 97, 105, 114, 115, 32, 99, 111, 109, 101, 32, 115, 107, 121, 32, 98, 97, 110, 100, 32, 112, 114, 105, 99, 101, 32, 119, 97, 103, 101, 32, 99, 97, 114, 114, 121, 32, 119, 101, 116, 115, 32, 99, 97, 110, 118, 97, 115, 32, 115, 101, 101, 100, 32, 115, 105, 103, 110, 32, 108, 97, 119, 32, 116, 105, 100, 101, 32, 115, 105, 116, 32, 115, 116, 97, 121, 32, 100, 111, 100, 103, 101, 32, 97, 110, 100, 32, 111, 114, 32, 110, 111, 116, 32, 118, 105, 101, 119, 32, 102, 97, 114, 32, 115, 117, 110, 32, 109, 117, 115, 105, 99, 32, 116, 97, 107, 101, 110, 32, 102, 114, 101, 101, 32, 116, 105, 99, 107, 32]
def mWa (k : Nat) : Nat := mWl.getD k 0
def mWf (k : Nat) : Nat := ([0, 6, 13, 18, 22, 27, 33, 38, 44, 49, 56, 61, 66, 70, 75, 79, 84, 90, 94, 97, 101, 106, 110, 114, 120, 126, 131, 136] : List Nat).getD k 0
def mWn (k : Nat) : Nat := ([5, 6, 4, 3, 4, 5, 4, 5, 4, 6, 4, 4, 3, 4, 3, 4, 5, 3, 2, 3, 4, 3, 3, 5, 5, 4, 4] : List Nat).getD k 0
/-- the class's words packed, in the class's order; which word of the reference each is -/
def cWp (k : Nat) : Nat := ([747822080, 202964992, 660013056, 458859616, 672503232, 220369920, 680635392, 556043424, 109094483, 773035008, 102320928, 777669632, 102193203, 642945024, 549489824, 680662016, 116823040, 649887744, 68620288, 647215104, 404455424, 647626752, 658564096, 150084768, 522190848, 48365568, 486146048] : List Nat).getD k 0
def mWp (k : Nat) : Nat := ([549489824, 109094483, 116823040, 649887744, 68620288, 556043424, 773035008, 102320928, 777669632, 102193203, 642945024, 647215104, 404455424, 680662016, 647626752, 658564096, 150084768, 48365568, 522190848, 486146048, 747822080, 202964992, 660013056, 458859616, 672503232, 220369920, 680635392] : List Nat).getD k 0
def cPm (k : Nat) : Nat := ([20, 21, 22, 23, 24, 25, 26, 5, 1, 6, 7, 8, 9, 10, 0, 13, 2, 3, 4, 11, 12, 14, 15, 16, 18, 17, 19] : List Nat).getD k 0
def cIv (k : Nat) : Nat := ([14, 8, 16, 17, 18, 7, 9, 10, 11, 12, 13, 19, 20, 15, 21, 22, 23, 25, 24, 26, 0, 1, 2, 3, 4, 5, 6] : List Nat).getD k 0
/-- six places of five bits -/
def pkW (f : Nat → Nat) : Nat → Nat
  | 0 => 0
  | k + 1 => pkW f k * 32 + f k
/-- how many letters -/
def oLn (T : Nat → Nat) : Nat → Nat → Nat
  | 0, _ => 0
  | n + 1, i => if oLet (T i) = true then oLn T n (i + 1) + 1 else 0
/-- letters from i to j -/
def oLf (T : Nat → Nat) (i j k : Nat) : Nat := if i + k < j then T (i + k) - 96 else 0
section ZN98n
variable {w : zP} {Q : Option Value → zMem → Prop} {μ : zMem} {I J : Nat → Nat → Int32} {L K : Nat → Nat → Int64} {p s : Nat} {r : Option Nat} {a b c i j k n e m : Nat} {x y v : Int32} {T : Nat → Nat} {W : Nat → Int32} {f g : Nat → Nat}
theorem pkW_lt (h : ∀ k, f k < 32) : ∀ n, pkW f n < 32 ^ n
  | 0 => by rw [pkW]; decide
  | n + 1 => by
    have := pkW_lt h n
    have h2 := h n
    rw [pkW, Nat.pow_succ]
    omega
theorem pkW_inj (hf : ∀ k, f k < 32) (hg : ∀ k, g k < 32) : ∀ n, pkW f n = pkW g n → ∀ k, k < n → f k = g k
  | 0, _, k, hk => absurd hk (by omega)
  | n + 1, h, k, hk => by
    have h1 := hf n
    have h2 := hg n
    rw [pkW, pkW] at h
    by_cases e : k = n
    · subst e; omega
    · exact pkW_inj hf hg n (by omega) k (by omega)
theorem pkW_congr : ∀ n, (∀ k, k < n → f k = g k) → pkW f n = pkW g n
  | 0, _ => rfl
  | n + 1, h => by rw [pkW, pkW, pkW_congr n (fun k hk => h k (by omega)), h n (by omega)]
theorem pkW_pad (h : ∀ k, n ≤ k → f k = 0) : ∀ d, pkW f (n + d) = pkW f n * 32 ^ d
  | 0 => by simp
  | d + 1 => by
    rw [← Nat.add_assoc, pkW, pkW_pad h d, h (n + d) (by omega), Nat.pow_succ, Nat.mul_assoc, Nat.add_zero]
theorem oLn_le {T : Nat → Nat} : ∀ n i, oLn T n i ≤ n
  | 0, _ => Nat.le_refl _
  | n + 1, i => by
    unfold oLn
    split
    · have := oLn_le (T := T) n (i + 1); omega
    · omega
theorem oLn_let {T : Nat → Nat} : ∀ n i k, k < oLn T n i → oLet (T (i + k)) = true
  | 0, _, k, h => absurd h (by unfold oLn; omega)
  | n + 1, i, k, h => by
    unfold oLn at h
    split at h
    · rename_i hl
      cases k with
      | zero => exact hl
      | succ k =>
        have := oLn_let (T := T) n (i + 1) k (by omega)
        rw [show i + (k + 1) = i + 1 + k by omega]; exact this
    · omega
theorem oLn_end {T : Nat → Nat} : ∀ n i, oLn T n i < n → oLet (T (i + oLn T n i)) = false
  | 0, _, h => absurd h (by omega)
  | n + 1, i, h => by
    unfold oLn at h ⊢
    split
    · rename_i hl
      rw [if_pos hl] at h
      have := oLn_end (T := T) n (i + 1) (by omega)
      rw [show i + (oLn T n (i + 1) + 1) = i + 1 + oLn T n (i + 1) by omega]; exact this
    · rename_i hl
      simpa using hl
theorem oLf_lt (h : ∀ k, k < j → oLet (T k) = true ∨ k < i) : oLf T i j k < 32 := by
  unfold oLf
  split
  · rename_i q
    rcases h (i + k) q with g | g
    · have := oLet_lo g; omega
    · omega
  · omega
theorem sh5 : ∀ m, m < 6 → (((5 : Int32) * (5 - nI m) &&& 31).toBitVec.smod 32).toNat = 5 * (5 - m) := by decide +kernel
theorem pw5 : ∀ m, m < 6 → 2 ^ (5 * (5 - m)) = 32 ^ (5 - m) := by decide
theorem pw6 : ∀ m, m < 6 → 32 ^ (6 - m) = 32 ^ (5 - m) * 32 := by decide
theorem pwA : ∀ m, m < 7 → 32 ^ m * 32 ^ (6 - m) = 2 ^ 30 := by decide
/-- one letter more in the class -/
theorem oLet_pk (hc : 97 ≤ c ∧ c ≤ 122) (hm : m < 6) (hx : a < 32 ^ m) : nI (a * 32 ^ (6 - m)) ||| zLett (nI c) (nI m) = nI ((a * 32 + (c - 96)) * 32 ^ (5 - m)) := by
  have hp : 32 ^ (5 - m) ≤ 32 ^ 5 := Nat.pow_le_pow_right (by decide) (by omega)
  have hq : (c - 96) * 2 ^ (5 * (5 - m)) < 2 ^ 32 := by
    rw [pw5 m hm]
    have : (c - 96) * 32 ^ (5 - m) ≤ 26 * 32 ^ 5 := Nat.mul_le_mul (by omega) hp
    omega
  have e : nI c - 97 + 1 = nI (c - 96) := by
    obtain ⟨d, hd⟩ : ∃ d, c = d + 97 := ⟨c - 97, by omega⟩
    subst hd
    rw [show (97 : Int32) = nI 97 from rfl, ← nI_add, Int32.add_sub_cancel, nI_1]
    congr 1
  unfold zLett
  rw [e, pk_shlN _ (5 * (5 - m)) (sh5 m hm) hq, fa_or, pw5 m hm]
  congr 1
  have hlt : (c - 96) * 32 ^ (5 - m) < 2 ^ (5 * (5 - m) + 5) := by
    rw [Nat.pow_add, pw5 m hm, Nat.mul_comm (32 ^ (5 - m))]
    have hpos : 0 < 32 ^ (5 - m) := Nat.pow_pos (by decide)
    exact (Nat.mul_lt_mul_right hpos).mpr (by omega)
  have h2 := Nat.two_pow_add_eq_or_of_lt hlt a
  have e6 : 2 ^ (5 * (5 - m) + 5) = 32 ^ (6 - m) := by rw [Nat.pow_add, pw5 m hm, pw6 m hm]
  rw [e6] at h2
  rw [Nat.mul_comm a, ← h2, pw6 m hm, Nat.add_mul]
  congr 1
  rw [Nat.mul_comm a 32, Nat.mul_comm (32 * a), Nat.mul_assoc]
theorem oWr_1 {T : Nat → Nat} : ∀ n i m v, (oWr T n i m v).1 = i + oLn T n i ∧ (oWr T n i m v).2.1 = m + oLn T n i
  | 0, i, m, v => ⟨rfl, rfl⟩
  | n + 1, i, m, v => by
    unfold oWr oLn
    split
    · have := oWr_1 (T := T) n (i + 1) (m + 1) (if m < 6 then v ||| zLett (nI (T i)) (nI m) else v)
      omega
    · exact ⟨rfl, rfl⟩
theorem oWr_v {T : Nat → Nat} {i0 j0 : Nat} : ∀ n i m v, i = i0 + m → m + oLn T n i ≤ 6 → i + oLn T n i ≤ j0 → (∀ k, i0 ≤ k → k < i → oLet (T k) = true) → v = nI (pkW (oLf T i0 j0) m * 32 ^ (6 - m)) → (oWr T n i m v).2.2 = nI (pkW (oLf T i0 j0) (m + oLn T n i) * 32 ^ (6 - (m + oLn T n i)))
  | 0, i, m, v, hi, h6, hj, hl, hv => hv
  | n + 1, i, m, v, hi, h6, hj, hl, hv => by
    unfold oWr
    unfold oLn at h6 hj ⊢
    split
    · rename_i ht
      rw [if_pos ht] at h6 hj
      rw [if_pos (by omega)]
      have hlt : pkW (oLf T i0 j0) m < 32 ^ m := by
        rw [pkW_congr (g := fun k => if k < m then oLf T i0 j0 k else 0) m (fun k hk => by rw [if_pos hk])]
        refine pkW_lt (fun k => ?_) m
        split
        · unfold oLf
          split
          · have := oLet_lo (hl (i0 + k) (by omega) (by omega)); omega
          · omega
        · omega
      have := oWr_v (T := T) (i0 := i0) (j0 := j0) n (i + 1) (m + 1) (v ||| zLett (nI (T i)) (nI m)) (by omega) (by omega) (by omega) (fun k h1 h2 => by
        by_cases e : k = i
        · subst e; exact ht
        · exact hl k h1 (by omega)) (by
        rw [hv, oLet_pk (oLet_lo ht) (by omega) hlt, pkW]
        have : oLf T i0 j0 m = T i - 96 := by unfold oLf; rw [← hi, if_pos (by omega)]
        rw [this, show 6 - (m + 1) = 5 - m by omega])
      rw [this, show m + 1 + oLn T n (i + 1) = m + (oLn T n (i + 1) + 1) by omega]
    · exact hv
/-- the class's word of at most six letters -/
theorem oWr_pk (h6 : oLn T n i ≤ 6) : (oWr T n i 0 0).2.2 = nI (pkW (oLf T i (i + oLn T n i)) 6) := by
  rw [oWr_v (i0 := i) (j0 := i + oLn T n i) n i 0 0 rfl (by omega) (Nat.le_refl _) (fun k h1 h2 => absurd h1 (by omega)) (by simp [pkW]; rfl), Nat.zero_add]
  congr 1
  obtain ⟨d, hd⟩ : ∃ d, 6 = oLn T n i + d := ⟨6 - oLn T n i, by omega⟩
  rw [hd, pkW_pad (n := oLn T n i) (fun k hk => by unfold oLf; rw [if_neg (by omega)])]
  congr 2
  omega
theorem oPck_pk (h : ∀ k, i ≤ k → k < j → oLet (T k) = true) : ∀ n, n ≤ 6 → oPck T i j n = nI (pkW (oLf T i j) n)
  | 0, _ => rfl
  | n + 1, hn => by
    have hf : ∀ k, oLf T i j k < 32 := fun k => by
      unfold oLf; split
      · have := oLet_lo (h (i + k) (by omega) (by omega)); omega
      · omega
    have hlt := pkW_lt hf n
    have hp : 32 ^ n ≤ 32 ^ 5 := Nat.pow_le_pow_right (by decide) (by omega)
    rw [oPck_s, oPck_pk h n (by omega), pk_shlN 5 5 (by decide) (by omega), pkW]
    have e : (if i + n < j then nI (T (i + n)) - 96 else 0) = nI (oLf T i j n) := by
      unfold oLf
      split
      · have hb := oLet_lo (h (i + n) (by omega) (by omega))
        obtain ⟨d, hd⟩ : ∃ d, T (i + n) = d + 96 := ⟨T (i + n) - 96, by omega⟩
        rw [hd, ← nI_add, show nI 96 = 96 from rfl, Int32.add_sub_cancel]; congr 1
      · rfl
    rw [e, fa_or]
    congr 1
    have := Nat.two_pow_add_eq_or_of_lt (i := 5) (hf n) (pkW (oLf T i j) n)
    rw [Nat.mul_comm, ← this, Nat.mul_comm]
/-- is the k-th word of the reference what stands from i to j -/
def mEq (T : Nat → Nat) (i j k : Nat) : Bool := decide (mWn k = j - i) && decide (∀ d, d < mWn k → mWa (mWf k + d) = T (i + d))
theorem mW_f : ∀ k, k < 27 → mWf (k + 1) = mWf k + mWn k + 1 ∧ mWf k + mWn k < 136 ∧ mWn k ≤ 6 ∧ mWa (mWf k + mWn k) = 32 := by decide +kernel
theorem mW_l : ∀ k, k < 27 → ∀ d, d < mWn k → 97 ≤ mWa (mWf k + d) ∧ mWa (mWf k + d) ≤ 122 := by decide +kernel
theorem mW_p : ∀ k, k < 27 → pkW (fun d => if d < mWn k then mWa (mWf k + d) - 96 else 0) 6 = mWp k := by decide +kernel
theorem mEq_pk (hk : k < 27) (hij : i ≤ j) (h : ∀ d, i ≤ d → d < j → oLet (T d) = true) (h6 : j - i ≤ 6) : mEq T i j k = decide (pkW (oLf T i j) 6 = mWp k) := by
  have hf : ∀ d, oLf T i j d < 32 := fun d => by
    unfold oLf; split
    · have := oLet_lo (h (i + d) (by omega) (by omega)); omega
    · omega
  have hg : ∀ d, (fun d => if d < mWn k then mWa (mWf k + d) - 96 else 0) d < 32 := fun d => by
    show (if d < mWn k then mWa (mWf k + d) - 96 else 0) < 32
    split
    · have := mW_l k hk d (by assumption); omega
    · omega
  have hn := (mW_f k hk).2.2.1
  rw [← mW_p k hk]
  by_cases e : pkW (oLf T i j) 6 = pkW (fun d => if d < mWn k then mWa (mWf k + d) - 96 else 0) 6
  · rw [decide_eq_true e]
    have hd := pkW_inj hf hg 6 e
    have hlen : mWn k = j - i := by
      rcases Nat.lt_trichotomy (mWn k) (j - i) with q | q | q
      · have := hd (mWn k) (by omega)
        simp only [oLf] at this
        rw [if_pos (by omega), if_neg (by omega)] at this
        have := oLet_lo (h (i + mWn k) (by omega) (by omega)); omega
      · exact q
      · have := hd (j - i) (by omega)
        simp only [oLf] at this
        rw [if_neg (by omega), if_pos (by omega)] at this
        have := mW_l k hk (j - i) q; omega
    unfold mEq
    rw [decide_eq_true hlen, decide_eq_true (fun d hdd => ?_)]
    · rfl
    · have := hd d (by omega)
      simp only [oLf] at this
      rw [if_pos (by omega), if_pos hdd] at this
      have := mW_l k hk d hdd
      have := oLet_lo (h (i + d) (by omega) (by omega))
      omega
  · rw [decide_eq_false e]
    cases hq : mEq T i j k with
    | false => rfl
    | true =>
      exfalso
      apply e
      unfold mEq at hq
      rw [Bool.and_eq_true, decide_eq_true_iff, decide_eq_true_iff] at hq
      refine pkW_congr 6 (fun d hd => ?_)
      show oLf T i j d = if d < mWn k then mWa (mWf k + d) - 96 else 0
      unfold oLf
      by_cases hdd : d < mWn k
      · rw [if_pos (by omega), if_pos hdd, hq.2 d hdd]
      · rw [if_neg (by omega), if_neg hdd]
/-- which word of the reference; 27: none -/
def mWk (T : Nat → Nat) (i j : Nat) : Nat := zFst (mEq T i j) 27
def mWi (n : Nat) : Int32 := if n < 27 then nI n else -1
set_option maxRecDepth 20000 in
theorem mo_wordAt (hij : i ≤ j) (hj : j ≤ 700) (hw : ∀ k, k < 136 → I 89 k = nI (mWa k)) (ht : ∀ k, k < j → I 88 k = nI (T k) ∧ T k < 256) (hQ : Q (some (.int (mWi (mWk T i j)))) (SH, I, L, RF p s r)) : zXM w mX10_wordAt rX10_wordAt [.ref 87, .int (nI i), .int (nI j)] (SH, I, L, RF p s r) Q := by
  unfold zXM
  have e136 : Int32.ofNat 136 = nI 136 := rfl
  refine zBlkR (M := mX10_wordAt) (nL := 8) (rt := (Option.some .int)) (blk := bX10_wordAt_0) (T := []) 0 hX10_wordAt_0 zChks_nil rfl rfl rfl (Nat.le_of_ble_eq_true rfl) (Nat.le_of_ble_eq_true rfl) ?_
  simp (implicitDefEqProofs := false) only [bX10_wordAt_0, zRun_cons, zRun_nil, zLk, zSto, zIns, zFil, zf0, zf1, zf2, zf3, List.filter_cons, List.filter_nil, Nat.reduceAdd, Nat.reduceEqDiff, Nat.reduceLT, Nat.reduceLeDiff, Nat.reduceBEq, Nat.reduceBNe, reduceIte, if_true, if_false, Bool.false_and, Bool.true_and, Bool.and_true, Bool.and_false, Bool.not_false, Bool.not_true, Bool.false_eq_true, beq_self_eq_true, BEq.rfl, zCat1, zCat2, zCat3, zKdI, zKdL, zKdR, true_and, and_true, zSI, zSL, zSR, zu_at, and_self, and_false, false_and, lv_args, zKdZ, zKdO, zB01, zB11, Option.toList_none, Option.toList_some, List.nil_append, List.cons_append, true_or, or_true, zRow_rd, zu_rd, zo_iconst, zo_istore_n, zo_istore, zi_0, zcl_0, zKn_0, zN10, zN01, not_true_eq_false, not_false_eq_true, false_implies, true_implies, implies_true, eq_self, nI_1, nI_40, nI_7, vz0, vz1, zb1_e0, zb1_n0]
  refine zLoop (n := 27) (P := fun k => (∀ d, d < k → mEq T i j d = false) → zX w mX10_wordAt rX10_wordAt Q 0 0 5 [(0, Value.ref 87), (1, Value.int (nI i)), (2, Value.int (nI j)), (3, Value.int (nI k)), (4, Value.int (nI (mWf k)))] [] (SH, I, L, RF p s r)) (fun k hk ih => ?_) 0 (Nat.zero_le _) (fun d hd => absurd hd (by omega))
  intro hno
  by_cases hke : k = 27
  · subst hke
    have hx : (nI 136 ≤ nI (mWf 27)) = True := eq_true (by decide)
    have hf : mWk T i j = 27 := zFst_none hno
    rw [hf] at hQ
    refine zBlkR (M := mX10_wordAt) (nL := 8) (rt := (Option.some .int)) (blk := bX10_wordAt_5) (T := [(126, bX10_wordAt_126)]) 1 hX10_wordAt_5 (zChks_cons hX10_wordAt_126 zChks_nil) rfl rfl rfl (Nat.le_of_ble_eq_true rfl) (Nat.le_of_ble_eq_true rfl) ?_
    simp (implicitDefEqProofs := false) only [bX10_wordAt_5, bX10_wordAt_126, zRun_cons, zRun_nil, zLk, zSto, zIns, zFil, zf0, zf1, zf2, zf3, List.filter_cons, List.filter_nil, Nat.reduceAdd, Nat.reduceEqDiff, Nat.reduceLT, Nat.reduceLeDiff, Nat.reduceBEq, Nat.reduceBNe, reduceIte, if_true, if_false, Bool.false_and, Bool.true_and, Bool.and_true, Bool.and_false, Bool.not_false, Bool.not_true, Bool.false_eq_true, beq_self_eq_true, BEq.rfl, zCat1, zCat2, zCat3, zKdI, zKdL, zKdR, true_and, and_true, zSI, zSL, zSR, zu_at, and_self, and_false, false_and, lv_args, zKdZ, zKdO, zB01, zB11, Option.toList_none, Option.toList_some, List.nil_append, List.cons_append, true_or, or_true, zRow_rd, zu_rd, zo_iload, zo_aload_n, zo_getfield, zo_arraylength, zo_icmp_ge, zo_iconst, zo_istore, zo_ireturn, zi_0, zi_m1, zKd_10_3, sh_87, rf_87_3, sh_89, zcl_0, zvi_0_136, zRt, zKn_s, zKn_0, zFind, e136, hx, zN10, zN01, not_true_eq_false, not_false_eq_true, false_implies, true_implies, implies_true, eq_self, nI_1, nI_40, nI_7, vz0, vz1, zb1_e0, zb1_n0]
    exact hQ
  · obtain ⟨f1, f2, f3, f4⟩ := mW_f k (by omega)
    have hx : (nI 136 ≤ nI (mWf k)) = False := eq_false (by rw [zle_nat (by omega) (by omega)]; omega)
    have e2 : nI j - nI i = nI (j - i) := by
      obtain ⟨d, hd⟩ : ∃ d, j = d + i := ⟨j - i, by omega⟩
      subst hd
      rw [← nI_add, Int32.add_sub_cancel, Nat.add_sub_cancel]
    refine zBlkR (M := mX10_wordAt) (nL := 8) (rt := (Option.some .int)) (blk := bX10_wordAt_5) (T := [(126, bX10_wordAt_126)]) 1 hX10_wordAt_5 (zChks_cons hX10_wordAt_126 zChks_nil) rfl rfl rfl (Nat.le_of_ble_eq_true rfl) (Nat.le_of_ble_eq_true rfl) ?_
    simp (implicitDefEqProofs := false) only [bX10_wordAt_5, bX10_wordAt_126, zRun_cons, zRun_nil, zLk, zSto, zIns, zFil, zf0, zf1, zf2, zf3, List.filter_cons, List.filter_nil, Nat.reduceAdd, Nat.reduceEqDiff, Nat.reduceLT, Nat.reduceLeDiff, Nat.reduceBEq, Nat.reduceBNe, reduceIte, if_true, if_false, Bool.false_and, Bool.true_and, Bool.and_true, Bool.and_false, Bool.not_false, Bool.not_true, Bool.false_eq_true, beq_self_eq_true, BEq.rfl, zCat1, zCat2, zCat3, zKdI, zKdL, zKdR, true_and, and_true, zSI, zSL, zSR, zu_at, and_self, and_false, false_and, lv_args, zKdZ, zKdO, zB01, zB11, Option.toList_none, Option.toList_some, List.nil_append, List.cons_append, true_or, or_true, zRow_rd, zu_rd, zo_iload, zo_aload_n, zo_getfield, zo_arraylength, zo_icmp_ge, zo_iconst, zo_istore, zo_ireturn, zi_0, zi_m1, zKd_10_3, sh_87, rf_87_3, sh_89, zcl_0, zvi_0_136, zRt, zKn_s, zKn_0, zFind, e136, hx, zN10, zN01, not_true_eq_false, not_false_eq_true, false_implies, true_implies, implies_true, eq_self, nI_1, nI_40, nI_7, vz0, vz1, zb1_e0, zb1_n0]
    suffices k18 : zX w mX10_wordAt rX10_wordAt Q 0 0 18 [(0, Value.ref 87), (1, Value.int (nI i)), (2, Value.int (nI j)), (3, Value.int (nI k)), (4, Value.int (nI (mWf k))), (5, Value.int (nI 0))] [] (SH, I, L, RF p s r) by exact k18
    refine zLoop (n := mWn k) (P := fun d => zX w mX10_wordAt rX10_wordAt Q 0 0 18 [(0, Value.ref 87), (1, Value.int (nI i)), (2, Value.int (nI j)), (3, Value.int (nI k)), (4, Value.int (nI (mWf k))), (5, Value.int (nI d))] [] (SH, I, L, RF p s r)) (fun d hd ih2 => ?_) 0 (Nat.zero_le _)
    have hv : vp_in (nI (mWf k + d)) 136 := zvn (by omega) (by omega)
    have hb := hw (mWf k + d) (by omega)
    have ea := nI_add (mWf k) d
    by_cases hde : d = mWn k
    · subst hde
      have hx2 : (nI (mWa (mWf k + mWn k)) = 32) = True := eq_true (by rw [f4]; rfl)
      -- behind the inner loop: what 'same' says decides
      have fin : ∀ (b : Bool) (c : Int32), b = mEq T i j k → zX w mX10_wordAt rX10_wordAt Q 0 0 104 [(0, Value.ref 87), (1, Value.int (nI i)), (2, Value.int (nI j)), (3, Value.int (nI k)), (4, Value.int (nI (mWf k))), (5, Value.int (nI (mWn k))), (6, Value.int (zb1 b)), (7, Value.int c)] [] (SH, I, L, RF p s r) := by
        intro b c hb
        cases b with
        | true =>
          have hf : mWk T i j = k := zFst_eq (by omega) hb.symm hno
          rw [hf] at hQ
          unfold mWi at hQ
          rw [if_pos (by omega)] at hQ
          refine zBlkR (M := mX10_wordAt) (nL := 8) (rt := (Option.some .int)) (blk := bX10_wordAt_104) (T := [(111, bX10_wordAt_111)]) 1 hX10_wordAt_104 (zChks_cons hX10_wordAt_111 zChks_nil) rfl rfl rfl (Nat.le_of_ble_eq_true rfl) (Nat.le_of_ble_eq_true rfl) ?_
          simp (implicitDefEqProofs := false) only [bX10_wordAt_104, bX10_wordAt_111, zRun_cons, zRun_nil, zLk, zSto, zIns, zFil, zf0, zf1, zf2, zf3, List.filter_cons, List.filter_nil, Nat.reduceAdd, Nat.reduceEqDiff, Nat.reduceLT, Nat.reduceLeDiff, Nat.reduceBEq, Nat.reduceBNe, reduceIte, if_true, if_false, Bool.false_and, Bool.true_and, Bool.and_true, Bool.and_false, Bool.not_false, Bool.not_true, Bool.false_eq_true, beq_self_eq_true, BEq.rfl, zCat1, zCat2, zCat3, zKdI, zKdL, zKdR, true_and, and_true, zSI, zSL, zSR, zu_at, and_self, and_false, false_and, lv_args, zKdZ, zKdO, zB01, zB11, Option.toList_none, Option.toList_some, List.nil_append, List.cons_append, true_or, or_true, zRow_rd, zu_rd, zo_iload, zo_if_eq, zo_iload_n, zo_ireturn, zo_iconst, zo_iadd, zo_istore, zo_iinc, zo_goto, zi_1, zcl_1, zRt, zKn_s, zKn_0, zFind, zb1_t, zN10, zN01, not_true_eq_false, not_false_eq_true, false_implies, true_implies, implies_true, eq_self, nI_1, nI_40, nI_7, vz0, vz1, zb1_e0, zb1_n0]
          exact hQ
        | false =>
          have e5 : nI (mWf k) + nI (mWn k + 1) = nI (mWf (k + 1)) := by rw [nI_add, f1]; congr 1
          refine zBlkR (M := mX10_wordAt) (nL := 8) (rt := (Option.some .int)) (blk := bX10_wordAt_104) (T := [(111, bX10_wordAt_111)]) 1 hX10_wordAt_104 (zChks_cons hX10_wordAt_111 zChks_nil) rfl rfl rfl (Nat.le_of_ble_eq_true rfl) (Nat.le_of_ble_eq_true rfl) ?_
          simp (implicitDefEqProofs := false) only [bX10_wordAt_104, bX10_wordAt_111, zRun_cons, zRun_nil, zLk, zSto, zIns, zFil, zf0, zf1, zf2, zf3, List.filter_cons, List.filter_nil, Nat.reduceAdd, Nat.reduceEqDiff, Nat.reduceLT, Nat.reduceLeDiff, Nat.reduceBEq, Nat.reduceBNe, reduceIte, if_true, if_false, Bool.false_and, Bool.true_and, Bool.and_true, Bool.and_false, Bool.not_false, Bool.not_true, Bool.false_eq_true, beq_self_eq_true, BEq.rfl, zCat1, zCat2, zCat3, zKdI, zKdL, zKdR, true_and, and_true, zSI, zSL, zSR, zu_at, and_self, and_false, false_and, lv_args, zKdZ, zKdO, zB01, zB11, Option.toList_none, Option.toList_some, List.nil_append, List.cons_append, true_or, or_true, zRow_rd, zu_rd, zo_iload, zo_if_eq, zo_iload_n, zo_ireturn, zo_iconst, zo_iadd, zo_istore, zo_iinc, zo_goto, zi_1, zcl_1, zRt, zKn_s, zKn_0, zFind, zb1_f, nI_1, e5, zN10, zN01, not_true_eq_false, not_false_eq_true, false_implies, true_implies, implies_true, eq_self, nI_1, nI_40, nI_7, vz0, vz1, zb1_e0, zb1_n0]
          refine zX.sub' (ih (by omega) (fun d hd => ?_)) (by simp)
          by_cases e : d = k
          · subst e; exact hb.symm
          · exact hno d (by omega)
      have l57 : mWn k = j - i → ∀ d, d ≤ mWn k → (∀ q, q < d → mWa (mWf k + q) = T (i + q)) → zX w mX10_wordAt rX10_wordAt Q 0 0 57 [(0, Value.ref 87), (1, Value.int (nI i)), (2, Value.int (nI j)), (3, Value.int (nI k)), (4, Value.int (nI (mWf k))), (5, Value.int (nI (mWn k))), (6, Value.int 1), (7, Value.int (nI d))] [] (SH, I, L, RF p s r) := by
        intro hlen d hd
        refine zLoop (n := mWn k) (P := fun d => (∀ q, q < d → mWa (mWf k + q) = T (i + q)) → zX w mX10_wordAt rX10_wordAt Q 0 0 57 [(0, Value.ref 87), (1, Value.int (nI i)), (2, Value.int (nI j)), (3, Value.int (nI k)), (4, Value.int (nI (mWf k))), (5, Value.int (nI (mWn k))), (6, Value.int 1), (7, Value.int (nI d))] [] (SH, I, L, RF p s r)) (fun d hd ih3 => ?_) d hd
        intro hall
        by_cases hdn : d = mWn k
        · subst hdn
          have hx3 : (nI (mWn k) ≤ nI (mWn k)) = True := eq_true (by rw [zle_nat (by omega) (by omega)]; omega)
          have key := fin true (nI (mWn k)) (by unfold mEq; rw [decide_eq_true hlen, decide_eq_true hall]; rfl)
          rw [zb1_t] at key
          refine zBlkR (M := mX10_wordAt) (nL := 8) (rt := (Option.some .int)) (blk := bX10_wordAt_57) (T := [(95, bX10_wordAt_95), (96, bX10_wordAt_96)]) 1 hX10_wordAt_57 (zChks_cons hX10_wordAt_95 (zChks_cons hX10_wordAt_96 zChks_nil)) rfl rfl rfl (Nat.le_of_ble_eq_true rfl) (Nat.le_of_ble_eq_true rfl) ?_
          simp (implicitDefEqProofs := false) only [bX10_wordAt_57, bX10_wordAt_95, bX10_wordAt_96, zRun_cons, zRun_nil, zLk, zSto, zIns, zFil, zf0, zf1, zf2, zf3, List.filter_cons, List.filter_nil, Nat.reduceAdd, Nat.reduceEqDiff, Nat.reduceLT, Nat.reduceLeDiff, Nat.reduceBEq, Nat.reduceBNe, reduceIte, if_true, if_false, Bool.false_and, Bool.true_and, Bool.and_true, Bool.and_false, Bool.not_false, Bool.not_true, Bool.false_eq_true, beq_self_eq_true, BEq.rfl, zCat1, zCat2, zCat3, zKdI, zKdL, zKdR, true_and, and_true, zSI, zSL, zSR, zu_at, and_self, and_false, false_and, lv_args, zKdZ, zKdO, zB01, zB11, Option.toList_none, Option.toList_some, List.nil_append, List.cons_append, true_or, or_true, zRow_rd, zu_rd, zo_iload, zo_icmp_ge, zo_if_eq, zo_aload_n, zo_getfield, zo_iadd, zo_iaload, zo_iload_n, zo_icmp_ne, zo_iconst, zo_goto, zo_istore, zo_iinc, zi_1, zi_0, zKd_10_3, zKd_10_0, sh_87, rf_87_3, sh_89, rf_87_0, sh_88, zcl_1, zcl_0, zvi_1_136, zvi_1_700, zvi_0_136, zvi_0_700, zKn_s, zKn_0, zFind, hx3, zN10, zN01, not_true_eq_false, not_false_eq_true, false_implies, true_implies, implies_true, eq_self, nI_1, nI_40, nI_7, vz0, vz1, zb1_e0, zb1_n0]
          exact key
        · have hx3 : (nI (mWn k) ≤ nI d) = False := eq_false (by rw [zle_nat (by omega) (by omega)]; omega)
          have v1 : vp_in (nI (mWf k + d)) 136 := zvn (by omega) (by omega)
          have v2 : vp_in (nI (i + d)) 700 := zvn (by omega) (by omega)
          have b1 := hw (mWf k + d) (by omega)
          obtain ⟨b2, b3⟩ := ht (i + d) (by omega)
          have a1 := nI_add (mWf k) d
          have a2 := nI_add i d
          have hm := mW_l k (by omega) d (by omega)
          have b4 : (nI (mWa (mWf k + d)) = nI (T (i + d))) = (mWa (mWf k + d) = T (i + d)) := zeq_nat (by omega) (by omega)
          by_cases hq : mWa (mWf k + d) = T (i + d)
          · have hx4 : (mWa (mWf k + d) = T (i + d)) = True := eq_true hq
            refine zBlkR (M := mX10_wordAt) (nL := 8) (rt := (Option.some .int)) (blk := bX10_wordAt_57) (T := [(95, bX10_wordAt_95), (96, bX10_wordAt_96)]) 1 hX10_wordAt_57 (zChks_cons hX10_wordAt_95 (zChks_cons hX10_wordAt_96 zChks_nil)) rfl rfl rfl (Nat.le_of_ble_eq_true rfl) (Nat.le_of_ble_eq_true rfl) ?_
            simp (implicitDefEqProofs := false) only [bX10_wordAt_57, bX10_wordAt_95, bX10_wordAt_96, zRun_cons, zRun_nil, zLk, zSto, zIns, zFil, zf0, zf1, zf2, zf3, List.filter_cons, List.filter_nil, Nat.reduceAdd, Nat.reduceEqDiff, Nat.reduceLT, Nat.reduceLeDiff, Nat.reduceBEq, Nat.reduceBNe, reduceIte, if_true, if_false, Bool.false_and, Bool.true_and, Bool.and_true, Bool.and_false, Bool.not_false, Bool.not_true, Bool.false_eq_true, beq_self_eq_true, BEq.rfl, zCat1, zCat2, zCat3, zKdI, zKdL, zKdR, true_and, and_true, zSI, zSL, zSR, zu_at, and_self, and_false, false_and, lv_args, zKdZ, zKdO, zB01, zB11, Option.toList_none, Option.toList_some, List.nil_append, List.cons_append, true_or, or_true, zRow_rd, zu_rd, zo_iload, zo_icmp_ge, zo_if_eq, zo_aload_n, zo_getfield, zo_iadd, zo_iaload, zo_iload_n, zo_icmp_ne, zo_iconst, zo_goto, zo_istore, zo_iinc, zi_1, zi_0, zKd_10_3, zKd_10_0, sh_87, rf_87_3, sh_89, rf_87_0, sh_88, zcl_1, zcl_0, zvi_1_136, zvi_1_700, zvi_0_136, zvi_0_700, zKn_s, zKn_0, zFind, hx3, v1, v2, b1, b2, a1, a2, b4, hx4, nI_clamp (n := mWf k + d) (by omega), nI_clamp (n := i + d) (by omega), zN10, zN01, not_true_eq_false, not_false_eq_true, false_implies, true_implies, implies_true, eq_self, nI_1, nI_40, nI_7, vz0, vz1, zb1_e0, zb1_n0]
            refine ih3 (by omega) (fun q hqq => ?_)
            by_cases e : q = d
            · subst e; exact hq
            · exact hall q (by omega)
          · have hx4 : (mWa (mWf k + d) = T (i + d)) = False := eq_false hq
            have key := fin false (nI (d + 1)) (by
              unfold mEq
              rw [show decide (∀ q, q < mWn k → mWa (mWf k + q) = T (i + q)) = false from decide_eq_false (fun g => hq (g d (by omega)))]
              simp)
            have k57 : zX w mX10_wordAt rX10_wordAt Q 0 0 57 [(0, Value.ref 87), (1, Value.int (nI i)), (2, Value.int (nI j)), (3, Value.int (nI k)), (4, Value.int (nI (mWf k))), (5, Value.int (nI (mWn k))), (6, Value.int 0), (7, Value.int (nI (d + 1)))] [] (SH, I, L, RF p s r) := by
              rw [zb1_f] at key
              by_cases hl : mWn k ≤ d + 1
              · have hx5 : (nI (mWn k) ≤ nI (d + 1)) = True := eq_true (by rw [zle_nat (by omega) (by omega)]; omega)
                refine zBlkR (M := mX10_wordAt) (nL := 8) (rt := (Option.some .int)) (blk := bX10_wordAt_57) (T := [(95, bX10_wordAt_95), (96, bX10_wordAt_96)]) 1 hX10_wordAt_57 (zChks_cons hX10_wordAt_95 (zChks_cons hX10_wordAt_96 zChks_nil)) rfl rfl rfl (Nat.le_of_ble_eq_true rfl) (Nat.le_of_ble_eq_true rfl) ?_
                simp (implicitDefEqProofs := false) only [bX10_wordAt_57, bX10_wordAt_95, bX10_wordAt_96, zRun_cons, zRun_nil, zLk, zSto, zIns, zFil, zf0, zf1, zf2, zf3, List.filter_cons, List.filter_nil, Nat.reduceAdd, Nat.reduceEqDiff, Nat.reduceLT, Nat.reduceLeDiff, Nat.reduceBEq, Nat.reduceBNe, reduceIte, if_true, if_false, Bool.false_and, Bool.true_and, Bool.and_true, Bool.and_false, Bool.not_false, Bool.not_true, Bool.false_eq_true, beq_self_eq_true, BEq.rfl, zCat1, zCat2, zCat3, zKdI, zKdL, zKdR, true_and, and_true, zSI, zSL, zSR, zu_at, and_self, and_false, false_and, lv_args, zKdZ, zKdO, zB01, zB11, Option.toList_none, Option.toList_some, List.nil_append, List.cons_append, true_or, or_true, zRow_rd, zu_rd, zo_iload, zo_icmp_ge, zo_if_eq, zo_aload_n, zo_getfield, zo_iadd, zo_iaload, zo_iload_n, zo_icmp_ne, zo_iconst, zo_goto, zo_istore, zo_iinc, zi_1, zi_0, zKd_10_3, zKd_10_0, sh_87, rf_87_3, sh_89, rf_87_0, sh_88, zcl_1, zcl_0, zvi_1_136, zvi_1_700, zvi_0_136, zvi_0_700, zKn_s, zKn_0, zFind, hx5, zN10, zN01, not_true_eq_false, not_false_eq_true, false_implies, true_implies, implies_true, eq_self, nI_1, nI_40, nI_7, vz0, vz1, zb1_e0, zb1_n0]
                exact key
              · have hx5 : (nI (mWn k) ≤ nI (d + 1)) = False := eq_false (by rw [zle_nat (by omega) (by omega)]; omega)
                refine zBlkR (M := mX10_wordAt) (nL := 8) (rt := (Option.some .int)) (blk := bX10_wordAt_57) (T := [(95, bX10_wordAt_95), (96, bX10_wordAt_96)]) 1 hX10_wordAt_57 (zChks_cons hX10_wordAt_95 (zChks_cons hX10_wordAt_96 zChks_nil)) rfl rfl rfl (Nat.le_of_ble_eq_true rfl) (Nat.le_of_ble_eq_true rfl) ?_
                simp (implicitDefEqProofs := false) only [bX10_wordAt_57, bX10_wordAt_95, bX10_wordAt_96, zRun_cons, zRun_nil, zLk, zSto, zIns, zFil, zf0, zf1, zf2, zf3, List.filter_cons, List.filter_nil, Nat.reduceAdd, Nat.reduceEqDiff, Nat.reduceLT, Nat.reduceLeDiff, Nat.reduceBEq, Nat.reduceBNe, reduceIte, if_true, if_false, Bool.false_and, Bool.true_and, Bool.and_true, Bool.and_false, Bool.not_false, Bool.not_true, Bool.false_eq_true, beq_self_eq_true, BEq.rfl, zCat1, zCat2, zCat3, zKdI, zKdL, zKdR, true_and, and_true, zSI, zSL, zSR, zu_at, and_self, and_false, false_and, lv_args, zKdZ, zKdO, zB01, zB11, Option.toList_none, Option.toList_some, List.nil_append, List.cons_append, true_or, or_true, zRow_rd, zu_rd, zo_iload, zo_icmp_ge, zo_if_eq, zo_aload_n, zo_getfield, zo_iadd, zo_iaload, zo_iload_n, zo_icmp_ne, zo_iconst, zo_goto, zo_istore, zo_iinc, zi_1, zi_0, zKd_10_3, zKd_10_0, sh_87, rf_87_3, sh_89, rf_87_0, sh_88, zcl_1, zcl_0, zvi_1_136, zvi_1_700, zvi_0_136, zvi_0_700, zKn_s, zKn_0, zFind, hx5, zN10, zN01, not_true_eq_false, not_false_eq_true, false_implies, true_implies, implies_true, eq_self, nI_1, nI_40, nI_7, vz0, vz1, zb1_e0, zb1_n0]
                exact key
            refine zBlkR (M := mX10_wordAt) (nL := 8) (rt := (Option.some .int)) (blk := bX10_wordAt_57) (T := [(95, bX10_wordAt_95), (96, bX10_wordAt_96)]) 1 hX10_wordAt_57 (zChks_cons hX10_wordAt_95 (zChks_cons hX10_wordAt_96 zChks_nil)) rfl rfl rfl (Nat.le_of_ble_eq_true rfl) (Nat.le_of_ble_eq_true rfl) ?_
            simp (implicitDefEqProofs := false) only [bX10_wordAt_57, bX10_wordAt_95, bX10_wordAt_96, zRun_cons, zRun_nil, zLk, zSto, zIns, zFil, zf0, zf1, zf2, zf3, List.filter_cons, List.filter_nil, Nat.reduceAdd, Nat.reduceEqDiff, Nat.reduceLT, Nat.reduceLeDiff, Nat.reduceBEq, Nat.reduceBNe, reduceIte, if_true, if_false, Bool.false_and, Bool.true_and, Bool.and_true, Bool.and_false, Bool.not_false, Bool.not_true, Bool.false_eq_true, beq_self_eq_true, BEq.rfl, zCat1, zCat2, zCat3, zKdI, zKdL, zKdR, true_and, and_true, zSI, zSL, zSR, zu_at, and_self, and_false, false_and, lv_args, zKdZ, zKdO, zB01, zB11, Option.toList_none, Option.toList_some, List.nil_append, List.cons_append, true_or, or_true, zRow_rd, zu_rd, zo_iload, zo_icmp_ge, zo_if_eq, zo_aload_n, zo_getfield, zo_iadd, zo_iaload, zo_iload_n, zo_icmp_ne, zo_iconst, zo_goto, zo_istore, zo_iinc, zi_1, zi_0, zKd_10_3, zKd_10_0, sh_87, rf_87_3, sh_89, rf_87_0, sh_88, zcl_1, zcl_0, zvi_1_136, zvi_1_700, zvi_0_136, zvi_0_700, zKn_s, zKn_0, zFind, hx3, v1, v2, b1, b2, a1, a2, b4, hx4, nI_1, nI_clamp (n := mWf k + d) (by omega), nI_clamp (n := i + d) (by omega), zN10, zN01, not_true_eq_false, not_false_eq_true, false_implies, true_implies, implies_true, eq_self, nI_1, nI_40, nI_7, vz0, vz1, zb1_e0, zb1_n0]
            exact k57
      by_cases hlen : mWn k = j - i
      · have hx4 : (nI (mWn k) = nI (j - i)) = True := eq_true (by rw [hlen])
        have key := l57 hlen 0 (Nat.zero_le _) (fun q hq => absurd hq (by omega))
        refine zBlkR (M := mX10_wordAt) (nL := 8) (rt := (Option.some .int)) (blk := bX10_wordAt_18) (T := [(39, bX10_wordAt_39), (51, bX10_wordAt_51), (52, bX10_wordAt_52)]) 2 hX10_wordAt_18 (zChks_cons hX10_wordAt_39 (zChks_cons hX10_wordAt_51 (zChks_cons hX10_wordAt_52 zChks_nil))) rfl rfl rfl (Nat.le_of_ble_eq_true rfl) (Nat.le_of_ble_eq_true rfl) ?_
        simp (implicitDefEqProofs := false) only [bX10_wordAt_18, bX10_wordAt_39, bX10_wordAt_51, bX10_wordAt_52, zRun_cons, zRun_nil, zLk, zSto, zIns, zFil, zf0, zf1, zf2, zf3, List.filter_cons, List.filter_nil, Nat.reduceAdd, Nat.reduceEqDiff, Nat.reduceLT, Nat.reduceLeDiff, Nat.reduceBEq, Nat.reduceBNe, reduceIte, if_true, if_false, Bool.false_and, Bool.true_and, Bool.and_true, Bool.and_false, Bool.not_false, Bool.not_true, Bool.false_eq_true, beq_self_eq_true, BEq.rfl, zCat1, zCat2, zCat3, zKdI, zKdL, zKdR, true_and, and_true, zSI, zSL, zSR, zu_at, and_self, and_false, false_and, lv_args, zKdZ, zKdO, zB01, zB11, Option.toList_none, Option.toList_some, List.nil_append, List.cons_append, true_or, or_true, zRow_rd, zu_rd, zo_aload_n, zo_getfield, zo_iload, zo_iadd, zo_iaload, zo_bipush, zo_icmp_eq, zo_iinc, zo_goto, zo_iload_n, zo_isub, zo_icmp_ne, zo_iconst, zo_istore, zb_32, zi_1, zi_0, zKd_10_3, sh_87, rf_87_3, sh_89, zcl_32, zcl_1, zcl_0, zvi_32_136, zvi_1_136, zvi_0_136, zKn_s, zKn_0, zFind, e2, hv, hb, ea, hx2, hx4, nI_clamp (n := mWf k + mWn k) (by omega), zN10, zN01, not_true_eq_false, not_false_eq_true, false_implies, true_implies, implies_true, eq_self, nI_1, nI_40, nI_7, vz0, vz1, zb1_e0, zb1_n0]
        exact key
      · have hx4 : (nI (mWn k) = nI (j - i)) = False := eq_false (by rw [zeq_nat (by omega) (by omega)]; exact hlen)
        have key := fin false 0 (by unfold mEq; rw [decide_eq_false hlen]; rfl)
        rw [zb1_f] at key
        have k57 : zX w mX10_wordAt rX10_wordAt Q 0 0 57 [(0, Value.ref 87), (1, Value.int (nI i)), (2, Value.int (nI j)), (3, Value.int (nI k)), (4, Value.int (nI (mWf k))), (5, Value.int (nI (mWn k))), (6, Value.int 0), (7, Value.int 0)] [] (SH, I, L, RF p s r) := by
          by_cases hl : nI (mWn k) ≤ 0
          · have hx5 : (nI (mWn k) ≤ 0) = True := eq_true hl
            refine zBlkR (M := mX10_wordAt) (nL := 8) (rt := (Option.some .int)) (blk := bX10_wordAt_57) (T := [(95, bX10_wordAt_95), (96, bX10_wordAt_96)]) 1 hX10_wordAt_57 (zChks_cons hX10_wordAt_95 (zChks_cons hX10_wordAt_96 zChks_nil)) rfl rfl rfl (Nat.le_of_ble_eq_true rfl) (Nat.le_of_ble_eq_true rfl) ?_
            simp (implicitDefEqProofs := false) only [bX10_wordAt_57, bX10_wordAt_95, bX10_wordAt_96, zRun_cons, zRun_nil, zLk, zSto, zIns, zFil, zf0, zf1, zf2, zf3, List.filter_cons, List.filter_nil, Nat.reduceAdd, Nat.reduceEqDiff, Nat.reduceLT, Nat.reduceLeDiff, Nat.reduceBEq, Nat.reduceBNe, reduceIte, if_true, if_false, Bool.false_and, Bool.true_and, Bool.and_true, Bool.and_false, Bool.not_false, Bool.not_true, Bool.false_eq_true, beq_self_eq_true, BEq.rfl, zCat1, zCat2, zCat3, zKdI, zKdL, zKdR, true_and, and_true, zSI, zSL, zSR, zu_at, and_self, and_false, false_and, lv_args, zKdZ, zKdO, zB01, zB11, Option.toList_none, Option.toList_some, List.nil_append, List.cons_append, true_or, or_true, zRow_rd, zu_rd, zo_iload, zo_icmp_ge, zo_if_eq, zo_aload_n, zo_getfield, zo_iadd, zo_iaload, zo_iload_n, zo_icmp_ne, zo_iconst, zo_goto, zo_istore, zo_iinc, zi_1, zi_0, zKd_10_3, zKd_10_0, sh_87, rf_87_3, sh_89, rf_87_0, sh_88, zcl_1, zcl_0, zvi_1_136, zvi_1_700, zvi_0_136, zvi_0_700, zKn_s, zKn_0, zFind, hx5, zN10, zN01, not_true_eq_false, not_false_eq_true, false_implies, true_implies, implies_true, eq_self, nI_1, nI_40, nI_7, vz0, vz1, zb1_e0, zb1_n0]
            exact key
          · have hx5 : (nI (mWn k) ≤ 0) = False := eq_false hl
            refine zBlkR (M := mX10_wordAt) (nL := 8) (rt := (Option.some .int)) (blk := bX10_wordAt_57) (T := [(95, bX10_wordAt_95), (96, bX10_wordAt_96)]) 1 hX10_wordAt_57 (zChks_cons hX10_wordAt_95 (zChks_cons hX10_wordAt_96 zChks_nil)) rfl rfl rfl (Nat.le_of_ble_eq_true rfl) (Nat.le_of_ble_eq_true rfl) ?_
            simp (implicitDefEqProofs := false) only [bX10_wordAt_57, bX10_wordAt_95, bX10_wordAt_96, zRun_cons, zRun_nil, zLk, zSto, zIns, zFil, zf0, zf1, zf2, zf3, List.filter_cons, List.filter_nil, Nat.reduceAdd, Nat.reduceEqDiff, Nat.reduceLT, Nat.reduceLeDiff, Nat.reduceBEq, Nat.reduceBNe, reduceIte, if_true, if_false, Bool.false_and, Bool.true_and, Bool.and_true, Bool.and_false, Bool.not_false, Bool.not_true, Bool.false_eq_true, beq_self_eq_true, BEq.rfl, zCat1, zCat2, zCat3, zKdI, zKdL, zKdR, true_and, and_true, zSI, zSL, zSR, zu_at, and_self, and_false, false_and, lv_args, zKdZ, zKdO, zB01, zB11, Option.toList_none, Option.toList_some, List.nil_append, List.cons_append, true_or, or_true, zRow_rd, zu_rd, zo_iload, zo_icmp_ge, zo_if_eq, zo_aload_n, zo_getfield, zo_iadd, zo_iaload, zo_iload_n, zo_icmp_ne, zo_iconst, zo_goto, zo_istore, zo_iinc, zi_1, zi_0, zKd_10_3, zKd_10_0, sh_87, rf_87_3, sh_89, rf_87_0, sh_88, zcl_1, zcl_0, zvi_1_136, zvi_1_700, zvi_0_136, zvi_0_700, zKn_s, zKn_0, zFind, hx5, zN10, zN01, not_true_eq_false, not_false_eq_true, false_implies, true_implies, implies_true, eq_self, nI_1, nI_40, nI_7, vz0, vz1, zb1_e0, zb1_n0]
            exact key
        refine zBlkR (M := mX10_wordAt) (nL := 8) (rt := (Option.some .int)) (blk := bX10_wordAt_18) (T := [(39, bX10_wordAt_39), (51, bX10_wordAt_51), (52, bX10_wordAt_52)]) 2 hX10_wordAt_18 (zChks_cons hX10_wordAt_39 (zChks_cons hX10_wordAt_51 (zChks_cons hX10_wordAt_52 zChks_nil))) rfl rfl rfl (Nat.le_of_ble_eq_true rfl) (Nat.le_of_ble_eq_true rfl) ?_
        simp (implicitDefEqProofs := false) only [bX10_wordAt_18, bX10_wordAt_39, bX10_wordAt_51, bX10_wordAt_52, zRun_cons, zRun_nil, zLk, zSto, zIns, zFil, zf0, zf1, zf2, zf3, List.filter_cons, List.filter_nil, Nat.reduceAdd, Nat.reduceEqDiff, Nat.reduceLT, Nat.reduceLeDiff, Nat.reduceBEq, Nat.reduceBNe, reduceIte, if_true, if_false, Bool.false_and, Bool.true_and, Bool.and_true, Bool.and_false, Bool.not_false, Bool.not_true, Bool.false_eq_true, beq_self_eq_true, BEq.rfl, zCat1, zCat2, zCat3, zKdI, zKdL, zKdR, true_and, and_true, zSI, zSL, zSR, zu_at, and_self, and_false, false_and, lv_args, zKdZ, zKdO, zB01, zB11, Option.toList_none, Option.toList_some, List.nil_append, List.cons_append, true_or, or_true, zRow_rd, zu_rd, zo_aload_n, zo_getfield, zo_iload, zo_iadd, zo_iaload, zo_bipush, zo_icmp_eq, zo_iinc, zo_goto, zo_iload_n, zo_isub, zo_icmp_ne, zo_iconst, zo_istore, zb_32, zi_1, zi_0, zKd_10_3, sh_87, rf_87_3, sh_89, zcl_32, zcl_1, zcl_0, zvi_32_136, zvi_1_136, zvi_0_136, zKn_s, zKn_0, zFind, e2, hv, hb, ea, hx2, hx4, nI_clamp (n := mWf k + mWn k) (by omega), zN10, zN01, not_true_eq_false, not_false_eq_true, false_implies, true_implies, implies_true, eq_self, nI_1, nI_40, nI_7, vz0, vz1, zb1_e0, zb1_n0]
        exact k57
    · have hm := mW_l k (by omega) d (by omega)
      have hx2 : (nI (mWa (mWf k + d)) = 32) = False := eq_false (by rw [show (32 : Int32) = nI 32 from rfl, zeq_nat (by omega) (by omega)]; omega)
      refine zBlkR (M := mX10_wordAt) (nL := 8) (rt := (Option.some .int)) (blk := bX10_wordAt_18) (T := [(39, bX10_wordAt_39), (51, bX10_wordAt_51), (52, bX10_wordAt_52)]) 2 hX10_wordAt_18 (zChks_cons hX10_wordAt_39 (zChks_cons hX10_wordAt_51 (zChks_cons hX10_wordAt_52 zChks_nil))) rfl rfl rfl (Nat.le_of_ble_eq_true rfl) (Nat.le_of_ble_eq_true rfl) ?_
      simp (implicitDefEqProofs := false) only [bX10_wordAt_18, bX10_wordAt_39, bX10_wordAt_51, bX10_wordAt_52, zRun_cons, zRun_nil, zLk, zSto, zIns, zFil, zf0, zf1, zf2, zf3, List.filter_cons, List.filter_nil, Nat.reduceAdd, Nat.reduceEqDiff, Nat.reduceLT, Nat.reduceLeDiff, Nat.reduceBEq, Nat.reduceBNe, reduceIte, if_true, if_false, Bool.false_and, Bool.true_and, Bool.and_true, Bool.and_false, Bool.not_false, Bool.not_true, Bool.false_eq_true, beq_self_eq_true, BEq.rfl, zCat1, zCat2, zCat3, zKdI, zKdL, zKdR, true_and, and_true, zSI, zSL, zSR, zu_at, and_self, and_false, false_and, lv_args, zKdZ, zKdO, zB01, zB11, Option.toList_none, Option.toList_some, List.nil_append, List.cons_append, true_or, or_true, zRow_rd, zu_rd, zo_aload_n, zo_getfield, zo_iload, zo_iadd, zo_iaload, zo_bipush, zo_icmp_eq, zo_iinc, zo_goto, zo_iload_n, zo_isub, zo_icmp_ne, zo_iconst, zo_istore, zb_32, zi_1, zi_0, zKd_10_3, sh_87, rf_87_3, sh_89, zcl_32, zcl_1, zcl_0, zvi_32_136, zvi_1_136, zvi_0_136, zKn_s, zKn_0, zFind, hv, hb, ea, hx2, nI_1, nI_clamp (n := mWf k + d) (by omega), zN10, zN01, not_true_eq_false, not_false_eq_true, false_implies, true_implies, implies_true, eq_self, nI_1, nI_40, nI_7, vz0, vz1, zb1_e0, zb1_n0]
      exact ih2 (by omega)
end ZN98n
