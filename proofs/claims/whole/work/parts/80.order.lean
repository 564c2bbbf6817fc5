/-! ===== ORDERS ===== -/
def oRise (l : List Nat) : Nat → Option Nat
  | 0 => none
  | r + 1 => if l.getD (r + 1) 0 < l.getD r 0 then oRise l r else some r
def oAbove (l : List Nat) (r : Nat) : Nat → Nat
  | 0 => 0
  | a + 1 => if r < a + 1 ∧ l.getD (a + 1) 0 < l.getD r 0 then oAbove l r a else a + 1
def oSw (l : List Nat) (i j : Nat) : List Nat := (l.set i (l.getD j 0)).set j (l.getD i 0)
def oRevF : Nat → List Nat → Nat → Nat → List Nat
  | 0, l, _, _ => l
  | f + 1, l, a, b => if a < b then oRevF f (oSw l a b) (a + 1) (b - 1) else l
def oNxt (l : List Nat) : Option (List Nat) := match oRise l (l.length - 1) with
  | none => none
  | some r => some (oRevF 5 (oSw l r (oAbove l r (l.length - 1))) (r + 1) (l.length - 1))
/-- the k-th order of n -/
def oSO (n : Nat) : Nat → Option (List Nat)
  | 0 => some (List.range n)
  | k + 1 => (oSO n k).bind oNxt
set_option maxRecDepth 100000 in
theorem oSO_end : ∀ n, n < 6 → 1 ≤ n → oSO n 120 = none := by decide +kernel
/-- the row a alone -/
def zOne (a i _k : Nat) : Prop := i = a
def zOrd (f : Nat → Int32) (l : List Nat) : Prop := ∀ i, i < l.length → f i = nI (l.getD i 0)
def lOk (n : Nat) (l : List Nat) : Prop := l.length = n ∧ ∀ i, i < n → l.getD i 0 < n
def oPkN (l : List Nat) : Nat → Nat
  | 0 => 0
  | k + 1 => oPkN l k + l.getD k 0 * 2 ^ (4 * k)
section ZO80
variable {w : zP} {Q : Option Value → zMem → Prop} {μ : zMem} {I J V V' : Nat → Nat → Int32} {L : Nat → Nat → Int64} {p s t kc : Nat} {r : Option Nat} {l : List Nat} {n i j k v : Nat} {f : Nat → Int32}
theorem lset_getD : (l.set i v).getD j 0 = if j = i ∧ i < l.length then v else l.getD j 0 := by
  simp only [List.getD_eq_getElem?_getD, List.getElem?_set]
  by_cases h : i = j
  · subst h
    by_cases h2 : i < l.length
    · simp [h2]
    · simp [h2]
  · have h' : ¬ j = i := fun q => h q.symm
    simp [h, h']
theorem oSw_len : (oSw l i j).length = l.length := by simp [oSw]
theorem lOk_sw (h : lOk n l) (hi : i < n) (hj : j < n) : lOk n (oSw l i j) := by
  refine ⟨by rw [oSw_len, h.1], fun k hk => ?_⟩
  unfold oSw
  rw [lset_getD, lset_getD]
  split
  · exact h.2 i hi
  · split
    · exact h.2 j hj
    · exact h.2 k hk
theorem zOrd_sw (h : zOrd f l) (hi : i < l.length) (hj : j < l.length) : zOrd (fun b => if b = j then f i else if b = i then f j else f b) (oSw l i j) := by
  intro k hk
  rw [oSw_len] at hk
  dsimp only
  unfold oSw
  rw [lset_getD, lset_getD]
  have hl : j < (l.set i (l.getD j 0)).length := by simpa using hj
  by_cases e : k = j
  · subst e
    rw [if_pos rfl, if_pos ⟨rfl, hl⟩]
    exact h i hi
  · simp only [e, false_and, if_false]
    by_cases e2 : k = i
    · subst e2
      rw [if_pos rfl, if_pos ⟨rfl, hi⟩]
      exact h j hj
    · simp only [e2, false_and, if_false]
      exact h k hk
theorem oRise_lt : ∀ {r k : Nat}, oRise l r = some k → k < r
  | 0, _, h => by cases h
  | r + 1, k, h => by
    rw [oRise] at h
    split at h
    · have := oRise_lt h; omega
    · cases h; omega
theorem oAbove_le {r : Nat} : ∀ a, oAbove l r a ≤ a
  | 0 => Nat.le_refl _
  | a + 1 => by
    rw [oAbove]
    have := oAbove_le (r := r) a
    split <;> omega
theorem lOk_rev : ∀ {f : Nat} {l : List Nat} {a b : Nat}, lOk n l → b < n → lOk n (oRevF f l a b)
  | 0, _, _, _, h, _ => h
  | f + 1, l, a, b, h, hb => by
    rw [oRevF]
    split
    · exact lOk_rev (lOk_sw h (by omega) hb) (by omega)
    · exact h
theorem lOk_nxt {l' : List Nat} (h : lOk n l) (hn : 1 ≤ n) (h2 : oNxt l = some l') : lOk n l' := by
  unfold oNxt at h2
  split at h2
  · cases h2
  · rename_i r hr
    cases h2
    have h1 := oRise_lt hr
    have h3 := oAbove_le (l := l) (r := r) (l.length - 1)
    rw [h.1] at h1 h3 ⊢
    exact lOk_rev (lOk_sw h (by omega) (by omega)) (by omega)
theorem lOk_range : lOk n (List.range n) := ⟨List.length_range, fun i hi => by simp [List.getD_eq_getElem?_getD, hi]⟩
theorem lOk_SO (hn : 1 ≤ n) : ∀ {k : Nat} {l : List Nat}, oSO n k = some l → lOk n l
  | 0, l, h => by cases h; exact lOk_range
  | k + 1, l, h => by
    rw [oSO] at h
    cases hk : oSO n k with
    | none => rw [hk] at h; cases h
    | some l0 =>
      rw [hk, Option.bind_some] at h
      exact lOk_nxt (lOk_SO hn hk) hn h
theorem oPkN_lt (h : ∀ i, i < n → l.getD i 0 < 16) : ∀ k, k ≤ n → oPkN l k < 2 ^ (4 * k)
  | 0, _ => by simp [oPkN]
  | k + 1, hk => by
    have ih := oPkN_lt h k (by omega)
    have hv := h k (by omega)
    have e : 2 ^ (4 * (k + 1)) = 16 * 2 ^ (4 * k) := by rw [show 4 * (k + 1) = 4 * k + 4 by omega, Nat.pow_add]; omega
    rw [oPkN, e]
    have : l.getD k 0 * 2 ^ (4 * k) ≤ 15 * 2 ^ (4 * k) := Nat.mul_le_mul_right _ (by omega)
    omega
theorem oPkN_at (h : ∀ i, i < n → l.getD i 0 < 16) (hi : i < k) (hk : k ≤ n) : oPkN l k / 2 ^ (4 * i) % 16 = l.getD i 0 := by
  induction k with
  | zero => omega
  | succ k ih =>
    have hlt := oPkN_lt h k (by omega)
    have hv := h k (by omega)
    rw [oPkN]
    by_cases e : i = k
    · subst e
      rw [Nat.add_mul_div_right _ _ (Nat.two_pow_pos _), Nat.div_eq_of_lt hlt, Nat.zero_add, Nat.mod_eq_of_lt hv]
    · have hik : i < k := by omega
      have e1 : 2 ^ (4 * k) = 2 ^ (4 * i) * (16 * 2 ^ (4 * (k - i - 1))) := by
        rw [show (16 : Nat) = 2 ^ 4 from rfl, ← Nat.pow_add, ← Nat.pow_add]; congr 1; omega
      have e2 : l.getD k 0 * 2 ^ (4 * k) = (l.getD k 0 * 2 ^ (4 * (k - i - 1)) * 16) * 2 ^ (4 * i) := by
        rw [e1]
        simp only [Nat.mul_assoc, Nat.mul_comm, Nat.mul_left_comm]
      rw [e2, Nat.add_mul_div_right _ _ (Nat.two_pow_pos _), Nat.add_mul_mod_self_right]
      exact ih hik (by omega)
theorem sh4 : ∀ k, k < 5 → (((4 : Int32) * nI k &&& 31).toBitVec.smod 32).toNat = 4 * k := by decide +kernel
theorem oPk_s (h : ∀ i, i < n → l.getD i 0 < 16) (hk : k < n) (hn : n ≤ 5) : nI (oPkN l k) ||| (nI (l.getD k 0) <<< ((4 : Int32) * nI k &&& 31)) = nI (oPkN l (k + 1)) := by
  have hlt := oPkN_lt h k (by omega)
  have hv := h k hk
  have hb : 2 ^ (4 * k) ≤ 2 ^ 16 := Nat.pow_le_pow_right (by decide) (by omega)
  have hm : l.getD k 0 * 2 ^ (4 * k) < 2 ^ 32 := by
    have : l.getD k 0 * 2 ^ (4 * k) ≤ 15 * 2 ^ 16 := Nat.mul_le_mul (by omega) hb
    omega
  rw [pk_shlN _ (4 * k) (sh4 k (by omega)) hm, fa_or, oPkN]
  congr 1
  have := Nat.two_pow_add_eq_or_of_lt hlt (l.getD k 0)
  rw [Nat.or_comm, Nat.mul_comm, ← this, Nat.add_comm]
theorem oPk_bnd (h : ∀ i, i < n → l.getD i 0 < 16) (hn : n ≤ 5) : oPkN l n < 2 ^ 20 := Nat.lt_of_lt_of_le (oPkN_lt h n (Nat.le_refl _)) (Nat.pow_le_pow_right (by decide) (by omega))
theorem sh4L : ∀ k, k < 5 → (((4 * nI k : Int32).toInt64 &&& 63).toBitVec.smod 64).toNat = 4 * k := by decide +kernel
/-- a packed order told as a route -/
theorem oPk_rt (h : ∀ i, i < n → l.getD i 0 < 16) (hn : n ≤ 5) (hk : k < n) : ((nI (oPkN l n)).toInt64 >>> ((4 * nI k).toInt64 &&& 63)).toInt32 &&& 15 = nI (l.getD k 0) := by
  have hb := oPk_bnd h hn
  have hd : oPkN l n / 2 ^ (4 * k) ≤ oPkN l n := Nat.div_le_self _ _
  rw [nI_l (by omega), pf_shr (sh4L k (by omega)) (by omega), lN_i, pk_andN (by omega) 4 (by decide)]
  rw [oPkN_at h hk (Nat.le_refl _)]
/-! the class's orders -/
set_option maxRecDepth 20000 in
theorem cl_swap (hi : i < 5) (hj : j < 5) (hO : zOrd (I 54) l) (hil : i < l.length) (hjl : j < l.length) (hQ : ∀ I', zKpt (zOne 54) I I' → zOrd (I' 54) (oSw l i j) → Q none (SH, I', L, RF p s r)) : zXM w mX3_swap rX3_swap [.ref 53, .int (nI i), .int (nI j)] (SH, I, L, RF p s r) Q := by
  unfold zXM
  have hvi : vp_in (nI i) 5 := zvn (by omega) (by omega)
  have hvj : vp_in (nI j) 5 := zvn (by omega) (by omega)
  refine zBlkR (M := mX3_swap) (nL := 4) (rt := (Option.none : Option Jvm.ClassFile.FieldType)) (blk := bX3_swap_0) (T := []) 0 hX3_swap_0 zChks_nil rfl rfl rfl (Nat.le_of_ble_eq_true rfl) (Nat.le_of_ble_eq_true rfl) ?_
  simp (implicitDefEqProofs := false) only [bX3_swap_0, zRun_cons, zRun_nil, zLk, zSto, zIns, zFil, zf0, zf1, zf2, zf3, List.filter_cons, List.filter_nil, Nat.reduceAdd, Nat.reduceEqDiff, Nat.reduceLT, Nat.reduceLeDiff, Nat.reduceBEq, Nat.reduceBNe, reduceIte, if_true, if_false, Bool.false_and, Bool.true_and, Bool.and_true, Bool.and_false, Bool.not_false, Bool.not_true, Bool.false_eq_true, beq_self_eq_true, BEq.rfl, zCat1, zCat2, zCat3, zKdI, zKdL, zKdR, true_and, and_true, zSI, zSL, zSR, zu_at, and_self, and_false, false_and, lv_args, zKdZ, zKdO, zB01, zB11, Option.toList_none, Option.toList_some, List.nil_append, List.cons_append, true_or, or_true, zRow_rd, zu_rd, zo_aload_n, zo_getfield, zo_iload_n, zo_iaload, zo_istore_n, zo_iastore, zo_return_, zKd_3_0, sh_53, rf_53_0, sh_54, zKn_0, hvi, hvj, nI_clamp (n := i) (by omega), nI_clamp (n := j) (by omega), zN10, zN01, not_true_eq_false, not_false_eq_true, false_implies, true_implies, implies_true, eq_self, nI_1, nI_40, nI_7, vz0, vz1, zb1_e0, zb1_n0]
  refine hQ _ ((zKpt_rfl.u (show zOne 54 54 _ from rfl)).u (show zOne 54 54 _ from rfl)) ?_
  have := zOrd_sw hO hil hjl
  have e : (zu (zu I 54 i (I 54 j)) 54 j (I 54 i)) 54 = fun b => if b = j then I 54 i else if b = i then I 54 j else I 54 b := by
    funext b
    simp only [zu_at, true_and]
  rw [e]
  exact this
set_option maxRecDepth 20000 in
theorem cl_rise {m : Nat} (hm : m < 5) (hml : m < l.length) (hO : zOrd (I 54) l) (h5 : ∀ i, i < l.length → l.getD i 0 < 5) (h0 : oRise l m = none → Q (some (.int 0)) (SH, I, L, RF p s r)) (h1 : ∀ k, oRise l m = some k → zX w mX3_step rX3_step Q 0 0 40 [(0, Value.ref 53), (1, Value.int (nI k))] [] (SH, I, L, RF p s r)) : zX w mX3_step rX3_step Q 0 0 7 [(0, Value.ref 53), (1, Value.int (nI m - 1))] [] (SH, I, L, RF p s r) := by
  induction m with
  | zero =>
    have e1 : nI 0 - 1 = (-1 : Int32) := by decide
    rw [e1]
    have n1 : ((-1 : Int32) < 0) = True := eq_true (by decide)
    have n2 : ((0 : Int32) ≤ -1) = False := eq_false (by decide)
    refine zBlkR (M := mX3_step) (nL := 5) (rt := (Option.some .boolean)) (blk := bX3_step_7) (T := [(34, bX3_step_34), (40, bX3_step_40)]) 2 hX3_step_7 (zChks_cons hX3_step_34 (zChks_cons hX3_step_40 zChks_nil)) rfl rfl rfl (Nat.le_of_ble_eq_true rfl) (Nat.le_of_ble_eq_true rfl) ?_
    simp (implicitDefEqProofs := false) only [bX3_step_7, bX3_step_34, bX3_step_40, zRun_cons, zRun_nil, zLk, zSto, zIns, zFil, zf0, zf1, zf2, zf3, List.filter_cons, List.filter_nil, Nat.reduceAdd, Nat.reduceEqDiff, Nat.reduceLT, Nat.reduceLeDiff, Nat.reduceBEq, Nat.reduceBNe, reduceIte, if_true, if_false, Bool.false_and, Bool.true_and, Bool.and_true, Bool.and_false, Bool.not_false, Bool.not_true, Bool.false_eq_true, beq_self_eq_true, BEq.rfl, zCat1, zCat2, zCat3, zKdI, zKdL, zKdR, true_and, and_true, zSI, zSL, zSR, zu_at, and_self, and_false, false_and, lv_args, zKdZ, zKdO, zB01, zB11, Option.toList_none, Option.toList_some, List.nil_append, List.cons_append, true_or, or_true, zRow_rd, zu_rd, zo_iload_n, zo_if_lt, zo_aload_n, zo_getfield, zo_iaload, zo_iconst, zo_iadd, zo_icmp_le, zo_iinc, zo_goto, zo_if_ge, zo_ireturn, zo_isub, zo_istore_n, zi_1, zi_m1, zi_0, zKd_3_0, zKd_3_1, sh_53, rf_53_0, sh_54, zcl_1, zcl_0, zvi_1_5, zvi_0_5, zRt, zKn_s, zKn_0, zFind, n1, n2, zN10, zN01, not_true_eq_false, not_false_eq_true, false_implies, true_implies, implies_true, eq_self, nI_1, nI_40, nI_7, vz0, vz1, zb1_e0, zb1_n0]
    exact h0 rfl
  | succ m ih =>
    rw [nI_pred]
    have n1 : (nI m < 0) = False := eq_false (nI_nn (by omega))
    have n2 : ((0 : Int32) ≤ nI m) = True := eq_true (nI_pos' (by omega))
    have hv : vp_in (nI m) 5 := zvn (by omega) (by omega)
    have hv1 : vp_in (nI (m + 1)) 5 := zvn (by omega) (by omega)
    have b1 := h5 m (by omega)
    have b2 := h5 (m + 1) hml
    have e1 := hO m (by omega)
    have e2 := hO (m + 1) hml
    have hle : (nI (l.getD m 0) ≤ nI (l.getD (m + 1) 0)) = (l.getD m 0 ≤ l.getD (m + 1) 0) := zle_nat (by omega) (by omega)
    have x1 : nI m + -1 = nI m - 1 := (Int32.sub_eq_add_neg _ _).symm
    refine zBlkR (M := mX3_step) (nL := 5) (rt := (Option.some .boolean)) (blk := bX3_step_7) (T := [(34, bX3_step_34)]) 1 hX3_step_7 (zChks_cons hX3_step_34 zChks_nil) rfl rfl rfl (Nat.le_of_ble_eq_true rfl) (Nat.le_of_ble_eq_true rfl) ?_
    simp (implicitDefEqProofs := false) only [bX3_step_7, bX3_step_34, zRun_cons, zRun_nil, zLk, zSto, zIns, zFil, zf0, zf1, zf2, zf3, List.filter_cons, List.filter_nil, Nat.reduceAdd, Nat.reduceEqDiff, Nat.reduceLT, Nat.reduceLeDiff, Nat.reduceBEq, Nat.reduceBNe, reduceIte, if_true, if_false, Bool.false_and, Bool.true_and, Bool.and_true, Bool.and_false, Bool.not_false, Bool.not_true, Bool.false_eq_true, beq_self_eq_true, BEq.rfl, zCat1, zCat2, zCat3, zKdI, zKdL, zKdR, true_and, and_true, zSI, zSL, zSR, zu_at, and_self, and_false, false_and, lv_args, zKdZ, zKdO, zB01, zB11, Option.toList_none, Option.toList_some, List.nil_append, List.cons_append, true_or, or_true, zRow_rd, zu_rd, zo_iload_n, zo_if_lt, zo_aload_n, zo_getfield, zo_iaload, zo_iconst, zo_iadd, zo_icmp_le, zo_iinc, zo_goto, zo_if_ge, zo_ireturn, zi_1, zi_m1, zi_0, zKd_3_0, sh_53, rf_53_0, sh_54, zcl_1, zcl_0, zvi_1_5, zvi_0_5, zRt, zKn_s, zKn_0, zFind, n1, n2, hv, hv1, e1, e2, hle, x1, nI_clamp (n := m) (by omega), nI_clamp (n := m + 1) (by omega), zN10, zN01, not_true_eq_false, not_false_eq_true, false_implies, true_implies, implies_true, eq_self, nI_1, nI_40, nI_7, vz0, vz1, zb1_e0, zb1_n0]
    refine ⟨fun h => ?_, fun h => ?_⟩
    · exact h1 m (by rw [oRise, if_neg (by omega)])
    · rw [oRise, if_pos (by omega)] at h0 h1
      exact ih (by omega) (by omega) h0 h1
set_option maxRecDepth 20000 in
theorem cl_above {m rr : Nat} (hm : m < 5) (hr : rr < 5) (hml : m < l.length) (hrl : rr < l.length) (hO : zOrd (I 54) l) (h5 : ∀ i, i < l.length → l.getD i 0 < 5) (h1 : zX w mX3_step rX3_step Q 0 0 73 [(0, Value.ref 53), (1, Value.int (nI rr)), (2, Value.int (nI (oAbove l rr m)))] [] (SH, I, L, RF p s r)) : zX w mX3_step rX3_step Q 0 0 47 [(0, Value.ref 53), (1, Value.int (nI rr)), (2, Value.int (nI m))] [] (SH, I, L, RF p s r) := by
  induction m with
  | zero =>
    have n1 : (nI 0 ≤ nI rr) = True := eq_true (nI_le (by omega) (by omega))
    refine zBlkR (M := mX3_step) (nL := 5) (rt := (Option.some .boolean)) (blk := bX3_step_47) (T := []) 0 hX3_step_47 zChks_nil rfl rfl rfl (Nat.le_of_ble_eq_true rfl) (Nat.le_of_ble_eq_true rfl) ?_
    simp (implicitDefEqProofs := false) only [bX3_step_47, zRun_cons, zRun_nil, zLk, zSto, zIns, zFil, zf0, zf1, zf2, zf3, List.filter_cons, List.filter_nil, Nat.reduceAdd, Nat.reduceEqDiff, Nat.reduceLT, Nat.reduceLeDiff, Nat.reduceBEq, Nat.reduceBNe, reduceIte, if_true, if_false, Bool.false_and, Bool.true_and, Bool.and_true, Bool.and_false, Bool.not_false, Bool.not_true, Bool.false_eq_true, beq_self_eq_true, BEq.rfl, zCat1, zCat2, zCat3, zKdI, zKdL, zKdR, true_and, and_true, zSI, zSL, zSR, zu_at, and_self, and_false, false_and, lv_args, zKdZ, zKdO, zB01, zB11, Option.toList_none, Option.toList_some, List.nil_append, List.cons_append, true_or, or_true, zRow_rd, zu_rd, zo_iload_n, zo_icmp_le, zo_aload_n, zo_getfield, zo_iaload, zo_icmp_ge, zo_iinc, zo_goto, zi_m1, zKd_3_0, sh_53, rf_53_0, sh_54, zKn_0, n1, zN10, zN01, not_true_eq_false, not_false_eq_true, false_implies, true_implies, implies_true, eq_self, nI_1, nI_40, nI_7, vz0, vz1, zb1_e0, zb1_n0]
    exact h1
  | succ m ih =>
    have hle : (nI (m + 1) ≤ nI rr) = (m + 1 ≤ rr) := zle_nat (by omega) (by omega)
    have hv : vp_in (nI rr) 5 := zvn (by omega) (by omega)
    have hv1 : vp_in (nI (m + 1)) 5 := zvn (by omega) (by omega)
    have b1 := h5 rr (by omega)
    have b2 := h5 (m + 1) hml
    have e1 := hO rr (by omega)
    have e2 := hO (m + 1) hml
    have hle2 : (nI (l.getD rr 0) ≤ nI (l.getD (m + 1) 0)) = (l.getD rr 0 ≤ l.getD (m + 1) 0) := zle_nat (by omega) (by omega)
    refine zBlkR (M := mX3_step) (nL := 5) (rt := (Option.some .boolean)) (blk := bX3_step_47) (T := []) 0 hX3_step_47 zChks_nil rfl rfl rfl (Nat.le_of_ble_eq_true rfl) (Nat.le_of_ble_eq_true rfl) ?_
    simp (implicitDefEqProofs := false) only [bX3_step_47, zRun_cons, zRun_nil, zLk, zSto, zIns, zFil, zf0, zf1, zf2, zf3, List.filter_cons, List.filter_nil, Nat.reduceAdd, Nat.reduceEqDiff, Nat.reduceLT, Nat.reduceLeDiff, Nat.reduceBEq, Nat.reduceBNe, reduceIte, if_true, if_false, Bool.false_and, Bool.true_and, Bool.and_true, Bool.and_false, Bool.not_false, Bool.not_true, Bool.false_eq_true, beq_self_eq_true, BEq.rfl, zCat1, zCat2, zCat3, zKdI, zKdL, zKdR, true_and, and_true, zSI, zSL, zSR, zu_at, and_self, and_false, false_and, lv_args, zKdZ, zKdO, zB01, zB11, Option.toList_none, Option.toList_some, List.nil_append, List.cons_append, true_or, or_true, zRow_rd, zu_rd, zo_iload_n, zo_icmp_le, zo_aload_n, zo_getfield, zo_iaload, zo_icmp_ge, zo_iinc, zo_goto, zi_m1, zKd_3_0, sh_53, rf_53_0, sh_54, zKn_0, hle, hv, hv1, e1, e2, hle2, pk_m1, nI_clamp (n := rr) (by omega), nI_clamp (n := m + 1) (by omega), zN10, zN01, not_true_eq_false, not_false_eq_true, false_implies, true_implies, implies_true, eq_self, nI_1, nI_40, nI_7, vz0, vz1, zb1_e0, zb1_n0]
    rw [oAbove] at h1
    refine ⟨fun h => ?_, fun h => ⟨fun h2 => ?_, fun h2 => ?_⟩⟩
    · rw [if_neg (by omega)] at h1; exact h1
    · rw [if_neg (by omega)] at h1; exact h1
    · rw [if_pos (by omega)] at h1
      exact ih (by omega) (by omega) h1
set_option maxRecDepth 20000 in
theorem cl_rev {a1 a2 : Int32} : ∀ {g a b : Nat} {l : List Nat} {J : Nat → Nat → Int32}, b < a + 2 * g → a < 20 → b < 5 → b < l.length → zOrd (J 54) l → (∀ I', zKpt (zOne 54) J I' → zOrd (I' 54) (oRevF g l a b) → Q (some (.int 1)) (SH, I', L, RF p s r)) → zX w mX3_step rX3_step Q 0 0 91 [(0, Value.ref 53), (1, Value.int a1), (2, Value.int a2), (3, Value.int (nI a)), (4, Value.int (nI b))] [] (SH, J, L, RF p s r)
  | 0, a, b, l, J, hg, ha, hb, hbl, hO, hQ => by
    have n1 : (nI b ≤ nI a) = True := eq_true (nI_le (by omega) (by omega))
    refine zBlkR (M := mX3_step) (nL := 5) (rt := (Option.some .boolean)) (blk := bX3_step_91) (T := [(113, bX3_step_113)]) 1 hX3_step_91 (zChks_cons hX3_step_113 zChks_nil) rfl rfl rfl (Nat.le_of_ble_eq_true rfl) (Nat.le_of_ble_eq_true rfl) ?_
    simp (implicitDefEqProofs := false) only [bX3_step_91, bX3_step_113, zRun_cons, zRun_nil, zLk, zSto, zIns, zFil, zf0, zf1, zf2, zf3, List.filter_cons, List.filter_nil, Nat.reduceAdd, Nat.reduceEqDiff, Nat.reduceLT, Nat.reduceLeDiff, Nat.reduceBEq, Nat.reduceBNe, reduceIte, if_true, if_false, Bool.false_and, Bool.true_and, Bool.and_true, Bool.and_false, Bool.not_false, Bool.not_true, Bool.false_eq_true, beq_self_eq_true, BEq.rfl, zCat1, zCat2, zCat3, zKdI, zKdL, zKdR, true_and, and_true, zSI, zSL, zSR, zu_at, and_self, and_false, false_and, lv_args, zKdZ, zKdO, zB01, zB11, Option.toList_none, Option.toList_some, List.nil_append, List.cons_append, true_or, or_true, zRow_rd, zu_rd, zo_iload_n, zo_iload, zo_icmp_ge, zo_aload_n, zo_iconst, zo_ireturn, zi_1, zcl_1, zRt, zKn_s, zKn_0, zFind, n1, zN10, zN01, not_true_eq_false, not_false_eq_true, false_implies, true_implies, implies_true, eq_self, nI_1, nI_40, nI_7, vz0, vz1, zb1_e0, zb1_n0]
    exact hQ J zKpt_rfl hO
  | g + 1, a, b, l, J, hg, ha, hb, hbl, hO, hQ => by
    unfold oRevF at hQ
    by_cases hab : a < b
    · rw [if_pos hab] at hQ
      have n1 : (nI b ≤ nI a) = False := eq_false (by rw [zle_nat (by omega) (by omega)]; omega)
      refine zBlkR (M := mX3_step) (nL := 5) (rt := (Option.some .boolean)) (blk := bX3_step_91) (T := [(113, bX3_step_113)]) 1 hX3_step_91 (zChks_cons hX3_step_113 zChks_nil) rfl rfl rfl (Nat.le_of_ble_eq_true rfl) (Nat.le_of_ble_eq_true rfl) ?_
      simp (implicitDefEqProofs := false) only [bX3_step_91, bX3_step_113, zRun_cons, zRun_nil, zLk, zSto, zIns, zFil, zf0, zf1, zf2, zf3, List.filter_cons, List.filter_nil, Nat.reduceAdd, Nat.reduceEqDiff, Nat.reduceLT, Nat.reduceLeDiff, Nat.reduceBEq, Nat.reduceBNe, reduceIte, if_true, if_false, Bool.false_and, Bool.true_and, Bool.and_true, Bool.and_false, Bool.not_false, Bool.not_true, Bool.false_eq_true, beq_self_eq_true, BEq.rfl, zCat1, zCat2, zCat3, zKdI, zKdL, zKdR, true_and, and_true, zSI, zSL, zSR, zu_at, and_self, and_false, false_and, lv_args, zKdZ, zKdO, zB01, zB11, Option.toList_none, Option.toList_some, List.nil_append, List.cons_append, true_or, or_true, zRow_rd, zu_rd, zo_iload_n, zo_iload, zo_icmp_ge, zo_aload_n, zo_iconst, zo_ireturn, zi_1, zcl_1, zRt, zKn_s, zKn_0, zFind, n1, zN10, zN01, not_true_eq_false, not_false_eq_true, false_implies, true_implies, implies_true, eq_self, nI_1, nI_40, nI_7, vz0, vz1, zb1_e0, zb1_n0]
      refine z_cV0 (M' := mX3_swap) (R' := rX3_swap) (i := 53) [.int (nI a), .int (nI b)] [] eX3_swap k3_28 (by decide +kernel : decode cX3_step 101 = .ok (.invokevirtual 28, 3)) (Nat.le_of_ble_eq_true rfl) ⟨Nat.le_of_ble_eq_true rfl, Nat.le_of_ble_eq_true rfl, Nat.le_of_ble_eq_true rfl, Nat.le_of_ble_eq_true rfl, Nat.le_of_ble_eq_true rfl⟩ rfl rfl rfl sh_53 ?_
      refine cl_swap (by omega) hb hO (by omega) hbl (fun I1 k1 o1 => ?_)
      have x2 : nI b + -1 = nI (b - 1) := by
        have : b = (b - 1) + 1 := by omega
        rw [this, pk_m1]; simp
      refine zBlkR (M := mX3_step) (nL := 5) (rt := (Option.some .boolean)) (blk := bX3_step_104) (T := []) 0 hX3_step_104 zChks_nil rfl rfl rfl (Nat.le_of_ble_eq_true rfl) (Nat.le_of_ble_eq_true rfl) ?_
      simp (implicitDefEqProofs := false) only [bX3_step_104, zRun_cons, zRun_nil, zLk, zSto, zIns, zFil, zf0, zf1, zf2, zf3, List.filter_cons, List.filter_nil, Nat.reduceAdd, Nat.reduceEqDiff, Nat.reduceLT, Nat.reduceLeDiff, Nat.reduceBEq, Nat.reduceBNe, reduceIte, if_true, if_false, Bool.false_and, Bool.true_and, Bool.and_true, Bool.and_false, Bool.not_false, Bool.not_true, Bool.false_eq_true, beq_self_eq_true, BEq.rfl, zCat1, zCat2, zCat3, zKdI, zKdL, zKdR, true_and, and_true, zSI, zSL, zSR, zu_at, and_self, and_false, false_and, lv_args, zKdZ, zKdO, zB01, zB11, Option.toList_none, Option.toList_some, List.nil_append, List.cons_append, true_or, or_true, zRow_rd, zu_rd, zo_iinc, zo_goto, zi_1, zi_m1, zKn_0, x2, zN10, zN01, not_true_eq_false, not_false_eq_true, false_implies, true_implies, implies_true, eq_self, nI_1, nI_40, nI_7, vz0, vz1, zb1_e0, zb1_n0]
      exact cl_rev (by omega) (by omega) (by omega) (by rw [oSw_len]; omega) o1 (fun I2 k2 o2 => hQ I2 (k1.trans k2) o2)
    · rw [if_neg hab] at hQ
      have n1 : (nI b ≤ nI a) = True := eq_true (nI_le (by omega) (by omega))
      refine zBlkR (M := mX3_step) (nL := 5) (rt := (Option.some .boolean)) (blk := bX3_step_91) (T := [(113, bX3_step_113)]) 1 hX3_step_91 (zChks_cons hX3_step_113 zChks_nil) rfl rfl rfl (Nat.le_of_ble_eq_true rfl) (Nat.le_of_ble_eq_true rfl) ?_
      simp (implicitDefEqProofs := false) only [bX3_step_91, bX3_step_113, zRun_cons, zRun_nil, zLk, zSto, zIns, zFil, zf0, zf1, zf2, zf3, List.filter_cons, List.filter_nil, Nat.reduceAdd, Nat.reduceEqDiff, Nat.reduceLT, Nat.reduceLeDiff, Nat.reduceBEq, Nat.reduceBNe, reduceIte, if_true, if_false, Bool.false_and, Bool.true_and, Bool.and_true, Bool.and_false, Bool.not_false, Bool.not_true, Bool.false_eq_true, beq_self_eq_true, BEq.rfl, zCat1, zCat2, zCat3, zKdI, zKdL, zKdR, true_and, and_true, zSI, zSL, zSR, zu_at, and_self, and_false, false_and, lv_args, zKdZ, zKdO, zB01, zB11, Option.toList_none, Option.toList_some, List.nil_append, List.cons_append, true_or, or_true, zRow_rd, zu_rd, zo_iload_n, zo_iload, zo_icmp_ge, zo_aload_n, zo_iconst, zo_ireturn, zi_1, zcl_1, zRt, zKn_s, zKn_0, zFind, n1, zN10, zN01, not_true_eq_false, not_false_eq_true, false_implies, true_implies, implies_true, eq_self, nI_1, nI_40, nI_7, vz0, vz1, zb1_e0, zb1_n0]
      exact hQ J zKpt_rfl hO
theorem nI_m2 : ∀ n, n < 6 → 1 ≤ n → nI n - 2 = nI (n - 1) - 1 := by decide +kernel
theorem nI_m1' : ∀ n, n < 6 → 1 ≤ n → nI n - 1 = nI (n - 1) := by decide +kernel
set_option maxRecDepth 20000 in
theorem cl_step (hn : 1 ≤ n) (hn5 : n ≤ 5) (h53 : I 53 1 = nI n) (hl : lOk n l) (hO : zOrd (I 54) l) (hQ0 : oNxt l = none → Q (some (.int 0)) (SH, I, L, RF p s r)) (hQ1 : ∀ l' I', oNxt l = some l' → zKpt (zOne 54) I I' → zOrd (I' 54) l' → Q (some (.int 1)) (SH, I', L, RF p s r)) : zXM w mX3_step rX3_step [.ref 53] (SH, I, L, RF p s r) Q := by
  unfold zXM
  have x0 := nI_m2 n (by omega) hn
  have x1 := nI_m1' n (by omega) hn
  have hlen := hl.1
  have h5 : ∀ i, i < l.length → l.getD i 0 < 5 := fun i hi => by have := hl.2 i (by omega); omega
  refine zBlkR (M := mX3_step) (nL := 5) (rt := (Option.some .boolean)) (blk := bX3_step_0) (T := []) 0 hX3_step_0 zChks_nil rfl rfl rfl (Nat.le_of_ble_eq_true rfl) (Nat.le_of_ble_eq_true rfl) ?_
  simp (implicitDefEqProofs := false) only [bX3_step_0, zRun_cons, zRun_nil, zLk, zSto, zIns, zFil, zf0, zf1, zf2, zf3, List.filter_cons, List.filter_nil, Nat.reduceAdd, Nat.reduceEqDiff, Nat.reduceLT, Nat.reduceLeDiff, Nat.reduceBEq, Nat.reduceBNe, reduceIte, if_true, if_false, Bool.false_and, Bool.true_and, Bool.and_true, Bool.and_false, Bool.not_false, Bool.not_true, Bool.false_eq_true, beq_self_eq_true, BEq.rfl, zCat1, zCat2, zCat3, zKdI, zKdL, zKdR, true_and, and_true, zSI, zSL, zSR, zu_at, and_self, and_false, false_and, lv_args, zKdZ, zKdO, zB01, zB11, Option.toList_none, Option.toList_some, List.nil_append, List.cons_append, true_or, or_true, zRow_rd, zu_rd, zo_aload_n, zo_getfield, zo_iconst, zo_isub, zo_istore_n, zi_2, zKd_3_1, sh_53, zcl_2, zKn_0, h53, x0, zN10, zN01, not_true_eq_false, not_false_eq_true, false_implies, true_implies, implies_true, eq_self, nI_1, nI_40, nI_7, vz0, vz1, zb1_e0, zb1_n0]
  refine cl_rise (l := l) (m := n - 1) (by omega) (by omega) hO h5 (fun h => hQ0 ?_) (fun k hk => ?_)
  · unfold oNxt; rw [hlen, h]
  · have hk1 := oRise_lt hk
    have hab := oAbove_le (l := l) (r := k) (n - 1)
    refine zBlkR (M := mX3_step) (nL := 5) (rt := (Option.some .boolean)) (blk := bX3_step_40) (T := []) 0 hX3_step_40 zChks_nil rfl rfl rfl (Nat.le_of_ble_eq_true rfl) (Nat.le_of_ble_eq_true rfl) ?_
    simp (implicitDefEqProofs := false) only [bX3_step_40, zRun_cons, zRun_nil, zLk, zSto, zIns, zFil, zf0, zf1, zf2, zf3, List.filter_cons, List.filter_nil, Nat.reduceAdd, Nat.reduceEqDiff, Nat.reduceLT, Nat.reduceLeDiff, Nat.reduceBEq, Nat.reduceBNe, reduceIte, if_true, if_false, Bool.false_and, Bool.true_and, Bool.and_true, Bool.and_false, Bool.not_false, Bool.not_true, Bool.false_eq_true, beq_self_eq_true, BEq.rfl, zCat1, zCat2, zCat3, zKdI, zKdL, zKdR, true_and, and_true, zSI, zSL, zSR, zu_at, and_self, and_false, false_and, lv_args, zKdZ, zKdO, zB01, zB11, Option.toList_none, Option.toList_some, List.nil_append, List.cons_append, true_or, or_true, zRow_rd, zu_rd, zo_aload_n, zo_getfield, zo_iconst, zo_isub, zo_istore_n, zi_1, zKd_3_1, sh_53, zcl_1, zKn_0, h53, x1, zN10, zN01, not_true_eq_false, not_false_eq_true, false_implies, true_implies, implies_true, eq_self, nI_1, nI_40, nI_7, vz0, vz1, zb1_e0, zb1_n0]
    refine cl_above (l := l) (m := n - 1) (rr := k) (by omega) (by omega) (by omega) (by omega) hO h5 ?_
    refine zBlkR (M := mX3_step) (nL := 5) (rt := (Option.some .boolean)) (blk := bX3_step_73) (T := []) 0 hX3_step_73 zChks_nil rfl rfl rfl (Nat.le_of_ble_eq_true rfl) (Nat.le_of_ble_eq_true rfl) ?_
    simp (implicitDefEqProofs := false) only [bX3_step_73, zRun_cons, zRun_nil, zLk, zSto, zIns, zFil, zf0, zf1, zf2, zf3, List.filter_cons, List.filter_nil, Nat.reduceAdd, Nat.reduceEqDiff, Nat.reduceLT, Nat.reduceLeDiff, Nat.reduceBEq, Nat.reduceBNe, reduceIte, if_true, if_false, Bool.false_and, Bool.true_and, Bool.and_true, Bool.and_false, Bool.not_false, Bool.not_true, Bool.false_eq_true, beq_self_eq_true, BEq.rfl, zCat1, zCat2, zCat3, zKdI, zKdL, zKdR, true_and, and_true, zSI, zSL, zSR, zu_at, and_self, and_false, false_and, lv_args, zKdZ, zKdO, zB01, zB11, Option.toList_none, Option.toList_some, List.nil_append, List.cons_append, true_or, or_true, zRow_rd, zu_rd, zo_aload_n, zo_iload_n, zKn_0, zN10, zN01, not_true_eq_false, not_false_eq_true, false_implies, true_implies, implies_true, eq_self, nI_1, nI_40, nI_7, vz0, vz1, zb1_e0, zb1_n0]
    refine z_cV0 (M' := mX3_swap) (R' := rX3_swap) (i := 53) [.int (nI k), .int (nI (oAbove l k (n - 1)))] [] eX3_swap k3_28 (by decide +kernel : decode cX3_step 76 = .ok (.invokevirtual 28, 3)) (Nat.le_of_ble_eq_true rfl) ⟨Nat.le_of_ble_eq_true rfl, Nat.le_of_ble_eq_true rfl, Nat.le_of_ble_eq_true rfl, Nat.le_of_ble_eq_true rfl, Nat.le_of_ble_eq_true rfl⟩ rfl rfl rfl sh_53 ?_
    refine cl_swap (by omega) (by omega) hO (by omega) (by omega) (fun I1 k1 o1 => ?_)
    have h53' : I1 53 1 = nI n := by rw [k1 53 1 (by unfold zOne; omega), h53]
    refine zBlkR (M := mX3_step) (nL := 5) (rt := (Option.some .boolean)) (blk := bX3_step_79) (T := []) 0 hX3_step_79 zChks_nil rfl rfl rfl (Nat.le_of_ble_eq_true rfl) (Nat.le_of_ble_eq_true rfl) ?_
    simp (implicitDefEqProofs := false) only [bX3_step_79, zRun_cons, zRun_nil, zLk, zSto, zIns, zFil, zf0, zf1, zf2, zf3, List.filter_cons, List.filter_nil, Nat.reduceAdd, Nat.reduceEqDiff, Nat.reduceLT, Nat.reduceLeDiff, Nat.reduceBEq, Nat.reduceBNe, reduceIte, if_true, if_false, Bool.false_and, Bool.true_and, Bool.and_true, Bool.and_false, Bool.not_false, Bool.not_true, Bool.false_eq_true, beq_self_eq_true, BEq.rfl, zCat1, zCat2, zCat3, zKdI, zKdL, zKdR, true_and, and_true, zSI, zSL, zSR, zu_at, and_self, and_false, false_and, lv_args, zKdZ, zKdO, zB01, zB11, Option.toList_none, Option.toList_some, List.nil_append, List.cons_append, true_or, or_true, zRow_rd, zu_rd, zo_iload_n, zo_iconst, zo_iadd, zo_istore_n, zo_aload_n, zo_getfield, zo_isub, zo_istore, zi_1, zKd_3_1, zcl_1, sh_53, zKn_0, h53', x1, zN10, zN01, not_true_eq_false, not_false_eq_true, false_implies, true_implies, implies_true, eq_self, nI_1, nI_40, nI_7, vz0, vz1, zb1_e0, zb1_n0]
    refine cl_rev (g := 5) (a := k + 1) (b := n - 1) (by omega) (by omega) (by omega) (by rw [oSw_len]; omega) o1 (fun I2 k2 o2 => ?_)
    refine hQ1 _ I2 ?_ (k1.trans k2) o2
    unfold oNxt; rw [hlen, hk]
set_option maxRecDepth 20000 in
theorem cl_packed (hn5 : n ≤ 5) (h53 : I 53 1 = nI n) (hl : lOk n l) (hO : zOrd (I 54) l) (hQ : Q (some (.int (nI (oPkN l n)))) (SH, I, L, RF p s r)) : zXM w mX3_packed rX3_packed [.ref 53] (SH, I, L, RF p s r) Q := by
  unfold zXM
  have h16 : ∀ i, i < n → l.getD i 0 < 16 := fun i hi => by have := hl.2 i hi; omega
  have hlen := hl.1
  refine zBlkR (M := mX3_packed) (nL := 3) (rt := (Option.some .int)) (blk := bX3_packed_0) (T := []) 0 hX3_packed_0 zChks_nil rfl rfl rfl (Nat.le_of_ble_eq_true rfl) (Nat.le_of_ble_eq_true rfl) ?_
  simp (implicitDefEqProofs := false) only [bX3_packed_0, zRun_cons, zRun_nil, zLk, zSto, zIns, zFil, zf0, zf1, zf2, zf3, List.filter_cons, List.filter_nil, Nat.reduceAdd, Nat.reduceEqDiff, Nat.reduceLT, Nat.reduceLeDiff, Nat.reduceBEq, Nat.reduceBNe, reduceIte, if_true, if_false, Bool.false_and, Bool.true_and, Bool.and_true, Bool.and_false, Bool.not_false, Bool.not_true, Bool.false_eq_true, beq_self_eq_true, BEq.rfl, zCat1, zCat2, zCat3, zKdI, zKdL, zKdR, true_and, and_true, zSI, zSL, zSR, zu_at, and_self, and_false, false_and, lv_args, zKdZ, zKdO, zB01, zB11, Option.toList_none, Option.toList_some, List.nil_append, List.cons_append, true_or, or_true, zRow_rd, zu_rd, zo_iconst, zo_istore_n, zi_0, zcl_0, zKn_0, zN10, zN01, not_true_eq_false, not_false_eq_true, false_implies, true_implies, implies_true, eq_self, nI_1, nI_40, nI_7, vz0, vz1, zb1_e0, zb1_n0]
  refine zLoop (n := n) (P := fun k => zX w mX3_packed rX3_packed Q 0 0 4 [(0, Value.ref 53), (1, Value.int (nI (oPkN l k))), (2, Value.int (nI k))] [] (SH, I, L, RF p s r)) (fun k hk ih => ?_) 0 (Nat.zero_le _)
  by_cases hke : k = n
  · subst hke
    refine zBlkR (M := mX3_packed) (nL := 3) (rt := (Option.some .int)) (blk := bX3_packed_4) (T := [(31, bX3_packed_31)]) 1 hX3_packed_4 (zChks_cons hX3_packed_31 zChks_nil) rfl rfl rfl (Nat.le_of_ble_eq_true rfl) (Nat.le_of_ble_eq_true rfl) ?_
    simp (implicitDefEqProofs := false) only [bX3_packed_4, bX3_packed_31, zRun_cons, zRun_nil, zLk, zSto, zIns, zFil, zf0, zf1, zf2, zf3, List.filter_cons, List.filter_nil, Nat.reduceAdd, Nat.reduceEqDiff, Nat.reduceLT, Nat.reduceLeDiff, Nat.reduceBEq, Nat.reduceBNe, reduceIte, if_true, if_false, Bool.false_and, Bool.true_and, Bool.and_true, Bool.and_false, Bool.not_false, Bool.not_true, Bool.false_eq_true, beq_self_eq_true, BEq.rfl, zCat1, zCat2, zCat3, zKdI, zKdL, zKdR, true_and, and_true, zSI, zSL, zSR, zu_at, and_self, and_false, false_and, lv_args, zKdZ, zKdO, zB01, zB11, Option.toList_none, Option.toList_some, List.nil_append, List.cons_append, true_or, or_true, zRow_rd, zu_rd, zo_iload_n, zo_aload_n, zo_getfield, zo_icmp_ge, zo_iaload, zo_iconst, zo_imul, zo_ishl, zo_ior, zo_istore_n, zo_iinc, zo_goto, zo_ireturn, zi_4, zi_1, zKd_3_1, zKd_3_0, sh_53, rf_53_0, sh_54, zcl_4, zvi_4_5, zRt, zKn_s, zKn_0, zFind, h53, zle_nat (a := k) (b := k) (by omega) (by omega), Nat.le_refl, zN10, zN01, not_true_eq_false, not_false_eq_true, false_implies, true_implies, implies_true, eq_self, nI_1, nI_40, nI_7, vz0, vz1, zb1_e0, zb1_n0]
    exact hQ
  · have hx : (nI n ≤ nI k) = False := eq_false (by rw [zle_nat (by omega) (by omega)]; omega)
    have hv : vp_in (nI k) 5 := zvn (by omega) (by omega)
    have e1 := hO k (by omega)
    have ih := ih (by omega)
    refine zBlkR (M := mX3_packed) (nL := 3) (rt := (Option.some .int)) (blk := bX3_packed_4) (T := [(31, bX3_packed_31)]) 1 hX3_packed_4 (zChks_cons hX3_packed_31 zChks_nil) rfl rfl rfl (Nat.le_of_ble_eq_true rfl) (Nat.le_of_ble_eq_true rfl) ?_
    simp (implicitDefEqProofs := false) only [bX3_packed_4, bX3_packed_31, zRun_cons, zRun_nil, zLk, zSto, zIns, zFil, zf0, zf1, zf2, zf3, List.filter_cons, List.filter_nil, Nat.reduceAdd, Nat.reduceEqDiff, Nat.reduceLT, Nat.reduceLeDiff, Nat.reduceBEq, Nat.reduceBNe, reduceIte, if_true, if_false, Bool.false_and, Bool.true_and, Bool.and_true, Bool.and_false, Bool.not_false, Bool.not_true, Bool.false_eq_true, beq_self_eq_true, BEq.rfl, zCat1, zCat2, zCat3, zKdI, zKdL, zKdR, true_and, and_true, zSI, zSL, zSR, zu_at, and_self, and_false, false_and, lv_args, zKdZ, zKdO, zB01, zB11, Option.toList_none, Option.toList_some, List.nil_append, List.cons_append, true_or, or_true, zRow_rd, zu_rd, zo_iload_n, zo_aload_n, zo_getfield, zo_icmp_ge, zo_iaload, zo_iconst, zo_imul, zo_ishl, zo_ior, zo_istore_n, zo_iinc, zo_goto, zo_ireturn, zi_4, zi_1, zKd_3_1, zKd_3_0, sh_53, rf_53_0, sh_54, zcl_4, zvi_4_5, zRt, zKn_s, zKn_0, zFind, h53, hx, hv, e1, nI_clamp (n := k) (by omega), oPk_s h16 (show k < n by omega) hn5, zN10, zN01, not_true_eq_false, not_false_eq_true, false_implies, true_implies, implies_true, eq_self, nI_1, nI_40, nI_7, vz0, vz1, zb1_e0, zb1_n0]
    exact ih
/-- the class's order -/
def zIt (i _k : Nat) : Prop := i = 53 ∨ i = 54
set_option maxRecDepth 20000 in
theorem cl_start (hn5 : n ≤ 5) (hQ : ∀ I', zKpt zIt I I' → I' 53 1 = nI n → zOrd (I' 54) (List.range n) → Q none (SH, I', L, RF p s r)) : zXM w mX3_start rX3_start [.ref 53, .int (nI n)] (SH, I, L, RF p s r) Q := by
  unfold zXM
  refine zBlkR (M := mX3_start) (nL := 3) (rt := (Option.none : Option Jvm.ClassFile.FieldType)) (blk := bX3_start_0) (T := []) 0 hX3_start_0 zChks_nil rfl rfl rfl (Nat.le_of_ble_eq_true rfl) (Nat.le_of_ble_eq_true rfl) ?_
  simp (implicitDefEqProofs := false) only [bX3_start_0, zRun_cons, zRun_nil, zLk, zSto, zIns, zFil, zf0, zf1, zf2, zf3, List.filter_cons, List.filter_nil, Nat.reduceAdd, Nat.reduceEqDiff, Nat.reduceLT, Nat.reduceLeDiff, Nat.reduceBEq, Nat.reduceBNe, reduceIte, if_true, if_false, Bool.false_and, Bool.true_and, Bool.and_true, Bool.and_false, Bool.not_false, Bool.not_true, Bool.false_eq_true, beq_self_eq_true, BEq.rfl, zCat1, zCat2, zCat3, zKdI, zKdL, zKdR, true_and, and_true, zSI, zSL, zSR, zu_at, and_self, and_false, false_and, lv_args, zKdZ, zKdO, zB01, zB11, Option.toList_none, Option.toList_some, List.nil_append, List.cons_append, true_or, or_true, zRow_rd, zu_rd, zo_aload_n, zo_iconst, zo_iload_n, zi_0, zi_5, zcl_0, zcl_5, zKn_0, zN10, zN01, not_true_eq_false, not_false_eq_true, false_implies, true_implies, implies_true, eq_self, nI_1, nI_40, nI_7, vz0, vz1, zb1_e0, zb1_n0]
  refine z_cS0 (M' := mJ9_min_7cf53) (R' := rJ9_min_7cf53) [.int (nI n), .int 5] [.int 0, .ref 53] eJ9_min_7cf53 k3_15 (by decide +kernel : decode cX3_start 4 = .ok (.invokestatic 15, 3)) (Nat.le_of_ble_eq_true rfl) ⟨Nat.le_of_ble_eq_true rfl, Nat.le_of_ble_eq_true rfl, Nat.le_of_ble_eq_true rfl, Nat.le_of_ble_eq_true rfl, Nat.le_of_ble_eq_true rfl⟩ rfl rfl rfl ?_
  refine sp_min ?_
  have e1 : (if (5 : Int32) < nI n then (5 : Int32) else nI n) = nI n := if_neg (by rw [show (5 : Int32) = nI 5 from rfl, zlt_nat (by omega) (by omega)]; omega)
  rw [e1]
  refine z_cS0 (M' := mJ9_max_7cf53) (R' := rJ9_max_7cf53) [.int 0, .int (nI n)] [.ref 53] eJ9_max_7cf53 k3_21 (by decide +kernel : decode cX3_start 7 = .ok (.invokestatic 21, 3)) (Nat.le_of_ble_eq_true rfl) ⟨Nat.le_of_ble_eq_true rfl, Nat.le_of_ble_eq_true rfl, Nat.le_of_ble_eq_true rfl, Nat.le_of_ble_eq_true rfl, Nat.le_of_ble_eq_true rfl⟩ rfl rfl rfl ?_
  refine sp_max ?_
  have e2 : (if (0 : Int32) < nI n then nI n else 0) = nI n := by
    split
    · rfl
    · rename_i h
      rw [show (0 : Int32) = nI 0 from rfl, zlt_nat (by omega) (by omega)] at h
      have : n = 0 := by omega
      subst this; rfl
  rw [e2]
  refine zBlkR (M := mX3_start) (nL := 3) (rt := (Option.none : Option Jvm.ClassFile.FieldType)) (blk := bX3_start_10) (T := []) 0 hX3_start_10 zChks_nil rfl rfl rfl (Nat.le_of_ble_eq_true rfl) (Nat.le_of_ble_eq_true rfl) ?_
  simp (implicitDefEqProofs := false) only [bX3_start_10, zRun_cons, zRun_nil, zLk, zSto, zIns, zFil, zf0, zf1, zf2, zf3, List.filter_cons, List.filter_nil, Nat.reduceAdd, Nat.reduceEqDiff, Nat.reduceLT, Nat.reduceLeDiff, Nat.reduceBEq, Nat.reduceBNe, reduceIte, if_true, if_false, Bool.false_and, Bool.true_and, Bool.and_true, Bool.and_false, Bool.not_false, Bool.not_true, Bool.false_eq_true, beq_self_eq_true, BEq.rfl, zCat1, zCat2, zCat3, zKdI, zKdL, zKdR, true_and, and_true, zSI, zSL, zSR, zu_at, and_self, and_false, false_and, lv_args, zKdZ, zKdO, zB01, zB11, Option.toList_none, Option.toList_some, List.nil_append, List.cons_append, true_or, or_true, zRow_rd, zu_rd, zo_putfield, zo_putfield_2, zo_putfield_3, zo_iconst, zo_istore_n, zi_0, zKd_3_1, zTy_3_1, sh_53, zcl_0, zPutC, zKn_0, zN10, zN01, not_true_eq_false, not_false_eq_true, false_implies, true_implies, implies_true, eq_self, nI_1, nI_40, nI_7, vz0, vz1, zb1_e0, zb1_n0]
  refine zLoop (n := n) (P := fun k => ∀ J, zKpt zIt I J → J 53 1 = nI n → (∀ i, i < k → J 54 i = nI i) → zX w mX3_start rX3_start Q 0 0 15 [(0, Value.ref 53), (1, Value.int (nI n)), (2, Value.int (nI k))] [] (SH, J, L, RF p s r)) (fun k hk ih => ?_) 0 (Nat.zero_le _) _ (zKpt_rfl.u (by unfold zIt; omega)) (by simp [zu_at]) (fun i hi => absurd hi (by omega))
  intro J hJ h1 hr
  by_cases hke : k = n
  · subst hke
    refine zBlkR (M := mX3_start) (nL := 3) (rt := (Option.none : Option Jvm.ClassFile.FieldType)) (blk := bX3_start_15) (T := [(36, bX3_start_36)]) 1 hX3_start_15 (zChks_cons hX3_start_36 zChks_nil) rfl rfl rfl (Nat.le_of_ble_eq_true rfl) (Nat.le_of_ble_eq_true rfl) ?_
    simp (implicitDefEqProofs := false) only [bX3_start_15, bX3_start_36, zRun_cons, zRun_nil, zLk, zSto, zIns, zFil, zf0, zf1, zf2, zf3, List.filter_cons, List.filter_nil, Nat.reduceAdd, Nat.reduceEqDiff, Nat.reduceLT, Nat.reduceLeDiff, Nat.reduceBEq, Nat.reduceBNe, reduceIte, if_true, if_false, Bool.false_and, Bool.true_and, Bool.and_true, Bool.and_false, Bool.not_false, Bool.not_true, Bool.false_eq_true, beq_self_eq_true, BEq.rfl, zCat1, zCat2, zCat3, zKdI, zKdL, zKdR, true_and, and_true, zSI, zSL, zSR, zu_at, and_self, and_false, false_and, lv_args, zKdZ, zKdO, zB01, zB11, Option.toList_none, Option.toList_some, List.nil_append, List.cons_append, true_or, or_true, zRow_rd, zu_rd, zo_iload_n, zo_aload_n, zo_getfield, zo_icmp_ge, zo_iastore, zo_iinc, zo_goto, zo_return_, zi_1, zKd_3_1, zKd_3_0, sh_53, rf_53_0, sh_54, zKn_s, zKn_0, zFind, h1, zle_nat (a := k) (b := k) (by omega) (by omega), Nat.le_refl, zN10, zN01, not_true_eq_false, not_false_eq_true, false_implies, true_implies, implies_true, eq_self, nI_1, nI_40, nI_7, vz0, vz1, zb1_e0, zb1_n0]
    refine hQ J hJ h1 (fun i hi => ?_)
    have hi : i < k := by simpa using hi
    rw [hr i hi]; simp [List.getD_eq_getElem?_getD, hi]
  · have hx : (nI n ≤ nI k) = False := eq_false (by rw [zle_nat (by omega) (by omega)]; omega)
    have hv : vp_in (nI k) 5 := zvn (by omega) (by omega)
    refine zBlkR (M := mX3_start) (nL := 3) (rt := (Option.none : Option Jvm.ClassFile.FieldType)) (blk := bX3_start_15) (T := [(36, bX3_start_36)]) 1 hX3_start_15 (zChks_cons hX3_start_36 zChks_nil) rfl rfl rfl (Nat.le_of_ble_eq_true rfl) (Nat.le_of_ble_eq_true rfl) ?_
    simp (implicitDefEqProofs := false) only [bX3_start_15, bX3_start_36, zRun_cons, zRun_nil, zLk, zSto, zIns, zFil, zf0, zf1, zf2, zf3, List.filter_cons, List.filter_nil, Nat.reduceAdd, Nat.reduceEqDiff, Nat.reduceLT, Nat.reduceLeDiff, Nat.reduceBEq, Nat.reduceBNe, reduceIte, if_true, if_false, Bool.false_and, Bool.true_and, Bool.and_true, Bool.and_false, Bool.not_false, Bool.not_true, Bool.false_eq_true, beq_self_eq_true, BEq.rfl, zCat1, zCat2, zCat3, zKdI, zKdL, zKdR, true_and, and_true, zSI, zSL, zSR, zu_at, and_self, and_false, false_and, lv_args, zKdZ, zKdO, zB01, zB11, Option.toList_none, Option.toList_some, List.nil_append, List.cons_append, true_or, or_true, zRow_rd, zu_rd, zo_iload_n, zo_aload_n, zo_getfield, zo_icmp_ge, zo_iastore, zo_iinc, zo_goto, zo_return_, zi_1, zKd_3_1, zKd_3_0, sh_53, rf_53_0, sh_54, zKn_s, zKn_0, zFind, h1, hx, hv, nI_clamp (n := k) (by omega), zN10, zN01, not_true_eq_false, not_false_eq_true, false_implies, true_implies, implies_true, eq_self, nI_1, nI_40, nI_7, vz0, vz1, zb1_e0, zb1_n0]
    refine ih (by omega) _ (hJ.u (by unfold zIt; omega)) (by simp [zu_at]; exact h1) (fun i hi => ?_)
    rw [zu_at]
    by_cases e : i = k
    · subst e; simp
    · rw [if_neg (fun g => e g.2)]; exact hr i (by omega)
/-! the reference's orders -/
set_option maxRecDepth 20000 in
theorem mo_turn (hi : i < 5) (hj : j < 5) (hO : zOrd (I 128) l) (hil : i < l.length) (hjl : j < l.length) (hQ : ∀ I', zKpt (zOne 128) I I' → zOrd (I' 128) (oSw l i j) → Q none (SH, I', L, RF p s r)) : zXM w mX10_turn rX10_turn [.ref 87, .int (nI i), .int (nI j)] (SH, I, L, RF p s r) Q := by
  unfold zXM
  have hvi : vp_in (nI i) 5 := zvn (by omega) (by omega)
  have hvj : vp_in (nI j) 5 := zvn (by omega) (by omega)
  refine zBlkR (M := mX10_turn) (nL := 4) (rt := (Option.none : Option Jvm.ClassFile.FieldType)) (blk := bX10_turn_0) (T := []) 0 hX10_turn_0 zChks_nil rfl rfl rfl (Nat.le_of_ble_eq_true rfl) (Nat.le_of_ble_eq_true rfl) ?_
  simp (implicitDefEqProofs := false) only [bX10_turn_0, zRun_cons, zRun_nil, zLk, zSto, zIns, zFil, zf0, zf1, zf2, zf3, List.filter_cons, List.filter_nil, Nat.reduceAdd, Nat.reduceEqDiff, Nat.reduceLT, Nat.reduceLeDiff, Nat.reduceBEq, Nat.reduceBNe, reduceIte, if_true, if_false, Bool.false_and, Bool.true_and, Bool.and_true, Bool.and_false, Bool.not_false, Bool.not_true, Bool.false_eq_true, beq_self_eq_true, BEq.rfl, zCat1, zCat2, zCat3, zKdI, zKdL, zKdR, true_and, and_true, zSI, zSL, zSR, zu_at, and_self, and_false, false_and, lv_args, zKdZ, zKdO, zB01, zB11, Option.toList_none, Option.toList_some, List.nil_append, List.cons_append, true_or, or_true, zRow_rd, zu_rd, zo_aload_n, zo_getfield, zo_iload_n, zo_iaload, zo_istore_n, zo_iastore, zo_return_, zKd_10_84, sh_87, rf_87_84, sh_128, zKn_0, hvi, hvj, nI_clamp (n := i) (by omega), nI_clamp (n := j) (by omega), zN10, zN01, not_true_eq_false, not_false_eq_true, false_implies, true_implies, implies_true, eq_self, nI_1, nI_40, nI_7, vz0, vz1, zb1_e0, zb1_n0]
  refine hQ _ ((zKpt_rfl.u (show zOne 128 128 _ from rfl)).u (show zOne 128 128 _ from rfl)) ?_
  have := zOrd_sw hO hil hjl
  have e : (zu (zu I 128 i (I 128 j)) 128 j (I 128 i)) 128 = fun b => if b = j then I 128 i else if b = i then I 128 j else I 128 b := by
    funext b
    simp only [zu_at, true_and]
  rw [e]
  exact this
set_option maxRecDepth 20000 in
theorem mo_rise {m : Nat} (hm : m < 5) (hml : m < l.length) (hO : zOrd (I 128) l) (h5 : ∀ i, i < l.length → l.getD i 0 < 5) (h0 : oRise l m = none → Q (some (.int 0)) (SH, I, L, RF p s r)) (h1 : ∀ k, oRise l m = some k → zX w mX10_nextOrder rX10_nextOrder Q 0 0 40 [(0, Value.ref 87), (1, Value.int (nI k))] [] (SH, I, L, RF p s r)) : zX w mX10_nextOrder rX10_nextOrder Q 0 0 7 [(0, Value.ref 87), (1, Value.int (nI m - 1))] [] (SH, I, L, RF p s r) := by
  induction m with
  | zero =>
    have e1 : nI 0 - 1 = (-1 : Int32) := by decide
    rw [e1]
    have n1 : ((-1 : Int32) < 0) = True := eq_true (by decide)
    have n2 : ((0 : Int32) ≤ -1) = False := eq_false (by decide)
    refine zBlkR (M := mX10_nextOrder) (nL := 5) (rt := (Option.some .boolean)) (blk := bX10_nextOrder_7) (T := [(34, bX10_nextOrder_34), (40, bX10_nextOrder_40)]) 2 hX10_nextOrder_7 (zChks_cons hX10_nextOrder_34 (zChks_cons hX10_nextOrder_40 zChks_nil)) rfl rfl rfl (Nat.le_of_ble_eq_true rfl) (Nat.le_of_ble_eq_true rfl) ?_
    simp (implicitDefEqProofs := false) only [bX10_nextOrder_7, bX10_nextOrder_34, bX10_nextOrder_40, zRun_cons, zRun_nil, zLk, zSto, zIns, zFil, zf0, zf1, zf2, zf3, List.filter_cons, List.filter_nil, Nat.reduceAdd, Nat.reduceEqDiff, Nat.reduceLT, Nat.reduceLeDiff, Nat.reduceBEq, Nat.reduceBNe, reduceIte, if_true, if_false, Bool.false_and, Bool.true_and, Bool.and_true, Bool.and_false, Bool.not_false, Bool.not_true, Bool.false_eq_true, beq_self_eq_true, BEq.rfl, zCat1, zCat2, zCat3, zKdI, zKdL, zKdR, true_and, and_true, zSI, zSL, zSR, zu_at, and_self, and_false, false_and, lv_args, zKdZ, zKdO, zB01, zB11, Option.toList_none, Option.toList_some, List.nil_append, List.cons_append, true_or, or_true, zRow_rd, zu_rd, zo_iload_n, zo_if_lt, zo_aload_n, zo_getfield, zo_iaload, zo_iconst, zo_iadd, zo_icmp_le, zo_iinc, zo_goto, zo_if_ge, zo_ireturn, zo_isub, zo_istore_n, zi_1, zi_m1, zi_0, zKd_10_84, zKd_10_12, sh_87, rf_87_84, sh_128, zcl_1, zcl_0, zvi_1_5, zvi_0_5, zRt, zKn_s, zKn_0, zFind, n1, n2, zN10, zN01, not_true_eq_false, not_false_eq_true, false_implies, true_implies, implies_true, eq_self, nI_1, nI_40, nI_7, vz0, vz1, zb1_e0, zb1_n0]
    exact h0 rfl
  | succ m ih =>
    rw [nI_pred]
    have n1 : (nI m < 0) = False := eq_false (nI_nn (by omega))
    have n2 : ((0 : Int32) ≤ nI m) = True := eq_true (nI_pos' (by omega))
    have hv : vp_in (nI m) 5 := zvn (by omega) (by omega)
    have hv1 : vp_in (nI (m + 1)) 5 := zvn (by omega) (by omega)
    have b1 := h5 m (by omega)
    have b2 := h5 (m + 1) hml
    have e1 := hO m (by omega)
    have e2 := hO (m + 1) hml
    have hle : (nI (l.getD m 0) ≤ nI (l.getD (m + 1) 0)) = (l.getD m 0 ≤ l.getD (m + 1) 0) := zle_nat (by omega) (by omega)
    have x1 : nI m + -1 = nI m - 1 := (Int32.sub_eq_add_neg _ _).symm
    refine zBlkR (M := mX10_nextOrder) (nL := 5) (rt := (Option.some .boolean)) (blk := bX10_nextOrder_7) (T := [(34, bX10_nextOrder_34)]) 1 hX10_nextOrder_7 (zChks_cons hX10_nextOrder_34 zChks_nil) rfl rfl rfl (Nat.le_of_ble_eq_true rfl) (Nat.le_of_ble_eq_true rfl) ?_
    simp (implicitDefEqProofs := false) only [bX10_nextOrder_7, bX10_nextOrder_34, zRun_cons, zRun_nil, zLk, zSto, zIns, zFil, zf0, zf1, zf2, zf3, List.filter_cons, List.filter_nil, Nat.reduceAdd, Nat.reduceEqDiff, Nat.reduceLT, Nat.reduceLeDiff, Nat.reduceBEq, Nat.reduceBNe, reduceIte, if_true, if_false, Bool.false_and, Bool.true_and, Bool.and_true, Bool.and_false, Bool.not_false, Bool.not_true, Bool.false_eq_true, beq_self_eq_true, BEq.rfl, zCat1, zCat2, zCat3, zKdI, zKdL, zKdR, true_and, and_true, zSI, zSL, zSR, zu_at, and_self, and_false, false_and, lv_args, zKdZ, zKdO, zB01, zB11, Option.toList_none, Option.toList_some, List.nil_append, List.cons_append, true_or, or_true, zRow_rd, zu_rd, zo_iload_n, zo_if_lt, zo_aload_n, zo_getfield, zo_iaload, zo_iconst, zo_iadd, zo_icmp_le, zo_iinc, zo_goto, zo_if_ge, zo_ireturn, zi_1, zi_m1, zi_0, zKd_10_84, sh_87, rf_87_84, sh_128, zcl_1, zcl_0, zvi_1_5, zvi_0_5, zRt, zKn_s, zKn_0, zFind, n1, n2, hv, hv1, e1, e2, hle, x1, nI_clamp (n := m) (by omega), nI_clamp (n := m + 1) (by omega), zN10, zN01, not_true_eq_false, not_false_eq_true, false_implies, true_implies, implies_true, eq_self, nI_1, nI_40, nI_7, vz0, vz1, zb1_e0, zb1_n0]
    refine ⟨fun h => ?_, fun h => ?_⟩
    · exact h1 m (by rw [oRise, if_neg (by omega)])
    · rw [oRise, if_pos (by omega)] at h0 h1
      exact ih (by omega) (by omega) h0 h1
set_option maxRecDepth 20000 in
theorem mo_above {m rr : Nat} (hrm : rr ≤ m) (hm : m < 5) (hml : m < l.length) (hO : zOrd (I 128) l) (h5 : ∀ i, i < l.length → l.getD i 0 < 5) (h1 : zX w mX10_nextOrder rX10_nextOrder Q 0 0 68 [(0, Value.ref 87), (1, Value.int (nI rr)), (2, Value.int (nI (oAbove l rr m)))] [] (SH, I, L, RF p s r)) : zX w mX10_nextOrder rX10_nextOrder Q 0 0 47 [(0, Value.ref 87), (1, Value.int (nI rr)), (2, Value.int (nI m))] [] (SH, I, L, RF p s r) := by
  have hv : vp_in (nI rr) 5 := zvn (by omega) (by omega)
  have hv1 : vp_in (nI m) 5 := zvn (by omega) (by omega)
  have b1 := h5 rr (by omega)
  have b2 := h5 m hml
  have e1 := hO rr (by omega)
  have e2 := hO m hml
  have hle2 : (nI (l.getD rr 0) ≤ nI (l.getD m 0)) = (l.getD rr 0 ≤ l.getD m 0) := zle_nat (by omega) (by omega)
  induction m with
  | zero =>
    have : rr = 0 := by omega
    subst this
    refine zBlkR (M := mX10_nextOrder) (nL := 5) (rt := (Option.some .boolean)) (blk := bX10_nextOrder_47) (T := []) 0 hX10_nextOrder_47 zChks_nil rfl rfl rfl (Nat.le_of_ble_eq_true rfl) (Nat.le_of_ble_eq_true rfl) ?_
    simp (implicitDefEqProofs := false) only [bX10_nextOrder_47, zRun_cons, zRun_nil, zLk, zSto, zIns, zFil, zf0, zf1, zf2, zf3, List.filter_cons, List.filter_nil, Nat.reduceAdd, Nat.reduceEqDiff, Nat.reduceLT, Nat.reduceLeDiff, Nat.reduceBEq, Nat.reduceBNe, reduceIte, if_true, if_false, Bool.false_and, Bool.true_and, Bool.and_true, Bool.and_false, Bool.not_false, Bool.not_true, Bool.false_eq_true, beq_self_eq_true, BEq.rfl, zCat1, zCat2, zCat3, zKdI, zKdL, zKdR, true_and, and_true, zSI, zSL, zSR, zu_at, and_self, and_false, false_and, lv_args, zKdZ, zKdO, zB01, zB11, Option.toList_none, Option.toList_some, List.nil_append, List.cons_append, true_or, or_true, zRow_rd, zu_rd, zo_aload_n, zo_getfield, zo_iload_n, zo_iaload, zo_icmp_ge, zo_iinc, zo_goto, zi_m1, zKd_10_84, sh_87, rf_87_84, sh_128, zKn_0, hv, e1, hle2, nI_clamp (n := 0) (by omega), Nat.le_refl, zN10, zN01, not_true_eq_false, not_false_eq_true, false_implies, true_implies, implies_true, eq_self, nI_1, nI_40, nI_7, vz0, vz1, zb1_e0, zb1_n0]
    exact h1
  | succ m ih =>
    have x2 : nI (m + 1) + -1 = nI m := pk_m1 m
    refine zBlkR (M := mX10_nextOrder) (nL := 5) (rt := (Option.some .boolean)) (blk := bX10_nextOrder_47) (T := []) 0 hX10_nextOrder_47 zChks_nil rfl rfl rfl (Nat.le_of_ble_eq_true rfl) (Nat.le_of_ble_eq_true rfl) ?_
    simp (implicitDefEqProofs := false) only [bX10_nextOrder_47, zRun_cons, zRun_nil, zLk, zSto, zIns, zFil, zf0, zf1, zf2, zf3, List.filter_cons, List.filter_nil, Nat.reduceAdd, Nat.reduceEqDiff, Nat.reduceLT, Nat.reduceLeDiff, Nat.reduceBEq, Nat.reduceBNe, reduceIte, if_true, if_false, Bool.false_and, Bool.true_and, Bool.and_true, Bool.and_false, Bool.not_false, Bool.not_true, Bool.false_eq_true, beq_self_eq_true, BEq.rfl, zCat1, zCat2, zCat3, zKdI, zKdL, zKdR, true_and, and_true, zSI, zSL, zSR, zu_at, and_self, and_false, false_and, lv_args, zKdZ, zKdO, zB01, zB11, Option.toList_none, Option.toList_some, List.nil_append, List.cons_append, true_or, or_true, zRow_rd, zu_rd, zo_aload_n, zo_getfield, zo_iload_n, zo_iaload, zo_icmp_ge, zo_iinc, zo_goto, zi_m1, zKd_10_84, sh_87, rf_87_84, sh_128, zKn_0, hv, hv1, e1, e2, hle2, x2, nI_clamp (n := rr) (by omega), nI_clamp (n := m + 1) (by omega), zN10, zN01, not_true_eq_false, not_false_eq_true, false_implies, true_implies, implies_true, eq_self, nI_1, nI_40, nI_7, vz0, vz1, zb1_e0, zb1_n0]
    rw [oAbove] at h1
    refine ⟨fun h => ?_, fun h => ?_⟩
    · rw [if_neg (by omega)] at h1; exact h1
    · have hne : rr ≠ m + 1 := fun g => by subst g; omega
      rw [if_pos (by omega)] at h1
      exact ih (by omega) (by omega) (by omega) h1 (zvn (by omega) (by omega)) (h5 m (by omega)) (hO m (by omega)) (zle_nat (by omega) (by have := h5 m (by omega); omega))
set_option maxRecDepth 20000 in
theorem mo_rev {a1 a2 : Int32} : ∀ {g a b : Nat} {l : List Nat} {J : Nat → Nat → Int32}, b < a + 2 * g → a < 20 → b < 5 → b < l.length → zOrd (J 128) l → (∀ I', zKpt (zOne 128) J I' → zOrd (I' 128) (oRevF g l a b) → Q (some (.int 1)) (SH, I', L, RF p s r)) → zX w mX10_nextOrder rX10_nextOrder Q 0 0 86 [(0, Value.ref 87), (1, Value.int a1), (2, Value.int a2), (3, Value.int (nI a)), (4, Value.int (nI b))] [] (SH, J, L, RF p s r)
  | 0, a, b, l, J, hg, ha, hb, hbl, hO, hQ => by
    have n1 : (nI b ≤ nI a) = True := eq_true (nI_le (by omega) (by omega))
    refine zBlkR (M := mX10_nextOrder) (nL := 5) (rt := (Option.some .boolean)) (blk := bX10_nextOrder_86) (T := [(108, bX10_nextOrder_108)]) 1 hX10_nextOrder_86 (zChks_cons hX10_nextOrder_108 zChks_nil) rfl rfl rfl (Nat.le_of_ble_eq_true rfl) (Nat.le_of_ble_eq_true rfl) ?_
    simp (implicitDefEqProofs := false) only [bX10_nextOrder_86, bX10_nextOrder_108, zRun_cons, zRun_nil, zLk, zSto, zIns, zFil, zf0, zf1, zf2, zf3, List.filter_cons, List.filter_nil, Nat.reduceAdd, Nat.reduceEqDiff, Nat.reduceLT, Nat.reduceLeDiff, Nat.reduceBEq, Nat.reduceBNe, reduceIte, if_true, if_false, Bool.false_and, Bool.true_and, Bool.and_true, Bool.and_false, Bool.not_false, Bool.not_true, Bool.false_eq_true, beq_self_eq_true, BEq.rfl, zCat1, zCat2, zCat3, zKdI, zKdL, zKdR, true_and, and_true, zSI, zSL, zSR, zu_at, and_self, and_false, false_and, lv_args, zKdZ, zKdO, zB01, zB11, Option.toList_none, Option.toList_some, List.nil_append, List.cons_append, true_or, or_true, zRow_rd, zu_rd, zo_iload_n, zo_iload, zo_icmp_ge, zo_aload_n, zo_iconst, zo_ireturn, zi_1, zcl_1, zRt, zKn_s, zKn_0, zFind, n1, zN10, zN01, not_true_eq_false, not_false_eq_true, false_implies, true_implies, implies_true, eq_self, nI_1, nI_40, nI_7, vz0, vz1, zb1_e0, zb1_n0]
    exact hQ J zKpt_rfl hO
  | g + 1, a, b, l, J, hg, ha, hb, hbl, hO, hQ => by
    unfold oRevF at hQ
    by_cases hab : a < b
    · rw [if_pos hab] at hQ
      have n1 : (nI b ≤ nI a) = False := eq_false (by rw [zle_nat (by omega) (by omega)]; omega)
      refine zBlkR (M := mX10_nextOrder) (nL := 5) (rt := (Option.some .boolean)) (blk := bX10_nextOrder_86) (T := [(108, bX10_nextOrder_108)]) 1 hX10_nextOrder_86 (zChks_cons hX10_nextOrder_108 zChks_nil) rfl rfl rfl (Nat.le_of_ble_eq_true rfl) (Nat.le_of_ble_eq_true rfl) ?_
      simp (implicitDefEqProofs := false) only [bX10_nextOrder_86, bX10_nextOrder_108, zRun_cons, zRun_nil, zLk, zSto, zIns, zFil, zf0, zf1, zf2, zf3, List.filter_cons, List.filter_nil, Nat.reduceAdd, Nat.reduceEqDiff, Nat.reduceLT, Nat.reduceLeDiff, Nat.reduceBEq, Nat.reduceBNe, reduceIte, if_true, if_false, Bool.false_and, Bool.true_and, Bool.and_true, Bool.and_false, Bool.not_false, Bool.not_true, Bool.false_eq_true, beq_self_eq_true, BEq.rfl, zCat1, zCat2, zCat3, zKdI, zKdL, zKdR, true_and, and_true, zSI, zSL, zSR, zu_at, and_self, and_false, false_and, lv_args, zKdZ, zKdO, zB01, zB11, Option.toList_none, Option.toList_some, List.nil_append, List.cons_append, true_or, or_true, zRow_rd, zu_rd, zo_iload_n, zo_iload, zo_icmp_ge, zo_aload_n, zo_iconst, zo_ireturn, zi_1, zcl_1, zRt, zKn_s, zKn_0, zFind, n1, zN10, zN01, not_true_eq_false, not_false_eq_true, false_implies, true_implies, implies_true, eq_self, nI_1, nI_40, nI_7, vz0, vz1, zb1_e0, zb1_n0]
      refine z_cV0 (M' := mX10_turn) (R' := rX10_turn) (i := 87) [.int (nI a), .int (nI b)] [] eX10_turn k10_543 (by decide +kernel : decode cX10_nextOrder 96 = .ok (.invokevirtual 543, 3)) (Nat.le_of_ble_eq_true rfl) ⟨Nat.le_of_ble_eq_true rfl, Nat.le_of_ble_eq_true rfl, Nat.le_of_ble_eq_true rfl, Nat.le_of_ble_eq_true rfl, Nat.le_of_ble_eq_true rfl⟩ rfl rfl rfl sh_87 ?_
      refine mo_turn (by omega) hb hO (by omega) hbl (fun I1 k1 o1 => ?_)
      have x2 : nI b + -1 = nI (b - 1) := by
        have : b = (b - 1) + 1 := by omega
        rw [this, pk_m1]; simp
      refine zBlkR (M := mX10_nextOrder) (nL := 5) (rt := (Option.some .boolean)) (blk := bX10_nextOrder_99) (T := []) 0 hX10_nextOrder_99 zChks_nil rfl rfl rfl (Nat.le_of_ble_eq_true rfl) (Nat.le_of_ble_eq_true rfl) ?_
      simp (implicitDefEqProofs := false) only [bX10_nextOrder_99, zRun_cons, zRun_nil, zLk, zSto, zIns, zFil, zf0, zf1, zf2, zf3, List.filter_cons, List.filter_nil, Nat.reduceAdd, Nat.reduceEqDiff, Nat.reduceLT, Nat.reduceLeDiff, Nat.reduceBEq, Nat.reduceBNe, reduceIte, if_true, if_false, Bool.false_and, Bool.true_and, Bool.and_true, Bool.and_false, Bool.not_false, Bool.not_true, Bool.false_eq_true, beq_self_eq_true, BEq.rfl, zCat1, zCat2, zCat3, zKdI, zKdL, zKdR, true_and, and_true, zSI, zSL, zSR, zu_at, and_self, and_false, false_and, lv_args, zKdZ, zKdO, zB01, zB11, Option.toList_none, Option.toList_some, List.nil_append, List.cons_append, true_or, or_true, zRow_rd, zu_rd, zo_iinc, zo_goto, zi_1, zi_m1, zKn_0, x2, zN10, zN01, not_true_eq_false, not_false_eq_true, false_implies, true_implies, implies_true, eq_self, nI_1, nI_40, nI_7, vz0, vz1, zb1_e0, zb1_n0]
      exact mo_rev (by omega) (by omega) (by omega) (by rw [oSw_len]; omega) o1 (fun I2 k2 o2 => hQ I2 (k1.trans k2) o2)
    · rw [if_neg hab] at hQ
      have n1 : (nI b ≤ nI a) = True := eq_true (nI_le (by omega) (by omega))
      refine zBlkR (M := mX10_nextOrder) (nL := 5) (rt := (Option.some .boolean)) (blk := bX10_nextOrder_86) (T := [(108, bX10_nextOrder_108)]) 1 hX10_nextOrder_86 (zChks_cons hX10_nextOrder_108 zChks_nil) rfl rfl rfl (Nat.le_of_ble_eq_true rfl) (Nat.le_of_ble_eq_true rfl) ?_
      simp (implicitDefEqProofs := false) only [bX10_nextOrder_86, bX10_nextOrder_108, zRun_cons, zRun_nil, zLk, zSto, zIns, zFil, zf0, zf1, zf2, zf3, List.filter_cons, List.filter_nil, Nat.reduceAdd, Nat.reduceEqDiff, Nat.reduceLT, Nat.reduceLeDiff, Nat.reduceBEq, Nat.reduceBNe, reduceIte, if_true, if_false, Bool.false_and, Bool.true_and, Bool.and_true, Bool.and_false, Bool.not_false, Bool.not_true, Bool.false_eq_true, beq_self_eq_true, BEq.rfl, zCat1, zCat2, zCat3, zKdI, zKdL, zKdR, true_and, and_true, zSI, zSL, zSR, zu_at, and_self, and_false, false_and, lv_args, zKdZ, zKdO, zB01, zB11, Option.toList_none, Option.toList_some, List.nil_append, List.cons_append, true_or, or_true, zRow_rd, zu_rd, zo_iload_n, zo_iload, zo_icmp_ge, zo_aload_n, zo_iconst, zo_ireturn, zi_1, zcl_1, zRt, zKn_s, zKn_0, zFind, n1, zN10, zN01, not_true_eq_false, not_false_eq_true, false_implies, true_implies, implies_true, eq_self, nI_1, nI_40, nI_7, vz0, vz1, zb1_e0, zb1_n0]
      exact hQ J zKpt_rfl hO
set_option maxRecDepth 20000 in
theorem mo_nextOrder (hn : 1 ≤ n) (hn5 : n ≤ 5) (h12 : I 87 12 = nI n) (hl : lOk n l) (hO : zOrd (I 128) l) (hQ0 : oNxt l = none → Q (some (.int 0)) (SH, I, L, RF p s r)) (hQ1 : ∀ l' I', oNxt l = some l' → zKpt (zOne 128) I I' → zOrd (I' 128) l' → Q (some (.int 1)) (SH, I', L, RF p s r)) : zXM w mX10_nextOrder rX10_nextOrder [.ref 87] (SH, I, L, RF p s r) Q := by
  unfold zXM
  have x0 := nI_m2 n (by omega) hn
  have x1 := nI_m1' n (by omega) hn
  have hlen := hl.1
  have h5 : ∀ i, i < l.length → l.getD i 0 < 5 := fun i hi => by have := hl.2 i (by omega); omega
  refine zBlkR (M := mX10_nextOrder) (nL := 5) (rt := (Option.some .boolean)) (blk := bX10_nextOrder_0) (T := []) 0 hX10_nextOrder_0 zChks_nil rfl rfl rfl (Nat.le_of_ble_eq_true rfl) (Nat.le_of_ble_eq_true rfl) ?_
  simp (implicitDefEqProofs := false) only [bX10_nextOrder_0, zRun_cons, zRun_nil, zLk, zSto, zIns, zFil, zf0, zf1, zf2, zf3, List.filter_cons, List.filter_nil, Nat.reduceAdd, Nat.reduceEqDiff, Nat.reduceLT, Nat.reduceLeDiff, Nat.reduceBEq, Nat.reduceBNe, reduceIte, if_true, if_false, Bool.false_and, Bool.true_and, Bool.and_true, Bool.and_false, Bool.not_false, Bool.not_true, Bool.false_eq_true, beq_self_eq_true, BEq.rfl, zCat1, zCat2, zCat3, zKdI, zKdL, zKdR, true_and, and_true, zSI, zSL, zSR, zu_at, and_self, and_false, false_and, lv_args, zKdZ, zKdO, zB01, zB11, Option.toList_none, Option.toList_some, List.nil_append, List.cons_append, true_or, or_true, zRow_rd, zu_rd, zo_aload_n, zo_getfield, zo_iconst, zo_isub, zo_istore_n, zi_2, zKd_10_12, sh_87, zcl_2, zKn_0, h12, x0, zN10, zN01, not_true_eq_false, not_false_eq_true, false_implies, true_implies, implies_true, eq_self, nI_1, nI_40, nI_7, vz0, vz1, zb1_e0, zb1_n0]
  refine mo_rise (l := l) (m := n - 1) (by omega) (by omega) hO h5 (fun h => hQ0 ?_) (fun k hk => ?_)
  · unfold oNxt; rw [hlen, h]
  · have hk1 := oRise_lt hk
    have hab := oAbove_le (l := l) (r := k) (n - 1)
    refine zBlkR (M := mX10_nextOrder) (nL := 5) (rt := (Option.some .boolean)) (blk := bX10_nextOrder_40) (T := []) 0 hX10_nextOrder_40 zChks_nil rfl rfl rfl (Nat.le_of_ble_eq_true rfl) (Nat.le_of_ble_eq_true rfl) ?_
    simp (implicitDefEqProofs := false) only [bX10_nextOrder_40, zRun_cons, zRun_nil, zLk, zSto, zIns, zFil, zf0, zf1, zf2, zf3, List.filter_cons, List.filter_nil, Nat.reduceAdd, Nat.reduceEqDiff, Nat.reduceLT, Nat.reduceLeDiff, Nat.reduceBEq, Nat.reduceBNe, reduceIte, if_true, if_false, Bool.false_and, Bool.true_and, Bool.and_true, Bool.and_false, Bool.not_false, Bool.not_true, Bool.false_eq_true, beq_self_eq_true, BEq.rfl, zCat1, zCat2, zCat3, zKdI, zKdL, zKdR, true_and, and_true, zSI, zSL, zSR, zu_at, and_self, and_false, false_and, lv_args, zKdZ, zKdO, zB01, zB11, Option.toList_none, Option.toList_some, List.nil_append, List.cons_append, true_or, or_true, zRow_rd, zu_rd, zo_aload_n, zo_getfield, zo_iconst, zo_isub, zo_istore_n, zi_1, zKd_10_12, sh_87, zcl_1, zKn_0, h12, x1, zN10, zN01, not_true_eq_false, not_false_eq_true, false_implies, true_implies, implies_true, eq_self, nI_1, nI_40, nI_7, vz0, vz1, zb1_e0, zb1_n0]
    refine mo_above (l := l) (m := n - 1) (rr := k) (by omega) (by omega) (by omega) hO h5 ?_
    refine zBlkR (M := mX10_nextOrder) (nL := 5) (rt := (Option.some .boolean)) (blk := bX10_nextOrder_68) (T := []) 0 hX10_nextOrder_68 zChks_nil rfl rfl rfl (Nat.le_of_ble_eq_true rfl) (Nat.le_of_ble_eq_true rfl) ?_
    simp (implicitDefEqProofs := false) only [bX10_nextOrder_68, zRun_cons, zRun_nil, zLk, zSto, zIns, zFil, zf0, zf1, zf2, zf3, List.filter_cons, List.filter_nil, Nat.reduceAdd, Nat.reduceEqDiff, Nat.reduceLT, Nat.reduceLeDiff, Nat.reduceBEq, Nat.reduceBNe, reduceIte, if_true, if_false, Bool.false_and, Bool.true_and, Bool.and_true, Bool.and_false, Bool.not_false, Bool.not_true, Bool.false_eq_true, beq_self_eq_true, BEq.rfl, zCat1, zCat2, zCat3, zKdI, zKdL, zKdR, true_and, and_true, zSI, zSL, zSR, zu_at, and_self, and_false, false_and, lv_args, zKdZ, zKdO, zB01, zB11, Option.toList_none, Option.toList_some, List.nil_append, List.cons_append, true_or, or_true, zRow_rd, zu_rd, zo_aload_n, zo_iload_n, zKn_0, zN10, zN01, not_true_eq_false, not_false_eq_true, false_implies, true_implies, implies_true, eq_self, nI_1, nI_40, nI_7, vz0, vz1, zb1_e0, zb1_n0]
    refine z_cV0 (M' := mX10_turn) (R' := rX10_turn) (i := 87) [.int (nI k), .int (nI (oAbove l k (n - 1)))] [] eX10_turn k10_543 (by decide +kernel : decode cX10_nextOrder 71 = .ok (.invokevirtual 543, 3)) (Nat.le_of_ble_eq_true rfl) ⟨Nat.le_of_ble_eq_true rfl, Nat.le_of_ble_eq_true rfl, Nat.le_of_ble_eq_true rfl, Nat.le_of_ble_eq_true rfl, Nat.le_of_ble_eq_true rfl⟩ rfl rfl rfl sh_87 ?_
    refine mo_turn (by omega) (by omega) hO (by omega) (by omega) (fun I1 k1 o1 => ?_)
    have h12' : I1 87 12 = nI n := by rw [k1 87 12 (by unfold zOne; omega), h12]
    refine zBlkR (M := mX10_nextOrder) (nL := 5) (rt := (Option.some .boolean)) (blk := bX10_nextOrder_74) (T := []) 0 hX10_nextOrder_74 zChks_nil rfl rfl rfl (Nat.le_of_ble_eq_true rfl) (Nat.le_of_ble_eq_true rfl) ?_
    simp (implicitDefEqProofs := false) only [bX10_nextOrder_74, zRun_cons, zRun_nil, zLk, zSto, zIns, zFil, zf0, zf1, zf2, zf3, List.filter_cons, List.filter_nil, Nat.reduceAdd, Nat.reduceEqDiff, Nat.reduceLT, Nat.reduceLeDiff, Nat.reduceBEq, Nat.reduceBNe, reduceIte, if_true, if_false, Bool.false_and, Bool.true_and, Bool.and_true, Bool.and_false, Bool.not_false, Bool.not_true, Bool.false_eq_true, beq_self_eq_true, BEq.rfl, zCat1, zCat2, zCat3, zKdI, zKdL, zKdR, true_and, and_true, zSI, zSL, zSR, zu_at, and_self, and_false, false_and, lv_args, zKdZ, zKdO, zB01, zB11, Option.toList_none, Option.toList_some, List.nil_append, List.cons_append, true_or, or_true, zRow_rd, zu_rd, zo_iload_n, zo_iconst, zo_iadd, zo_istore_n, zo_aload_n, zo_getfield, zo_isub, zo_istore, zi_1, zKd_10_12, zcl_1, sh_87, zKn_0, h12', x1, zN10, zN01, not_true_eq_false, not_false_eq_true, false_implies, true_implies, implies_true, eq_self, nI_1, nI_40, nI_7, vz0, vz1, zb1_e0, zb1_n0]
    refine mo_rev (g := 5) (a := k + 1) (b := n - 1) (by omega) (by omega) (by omega) (by rw [oSw_len]; omega) o1 (fun I2 k2 o2 => ?_)
    refine hQ1 _ I2 ?_ (k1.trans k2) o2
    unfold oNxt; rw [hlen, hk]
set_option maxRecDepth 20000 in
theorem mo_packed_ (hn5 : n ≤ 5) (h12 : I 87 12 = nI n) (hl : lOk n l) (hO : zOrd (I 128) l) (hQ : Q (some (.int (nI (oPkN l n)))) (SH, I, L, RF p s r)) : zXM w mX10_packed_ rX10_packed_ [.ref 87] (SH, I, L, RF p s r) Q := by
  unfold zXM
  have h16 : ∀ i, i < n → l.getD i 0 < 16 := fun i hi => by have := hl.2 i hi; omega
  have hlen := hl.1
  refine zBlkR (M := mX10_packed_) (nL := 3) (rt := (Option.some .int)) (blk := bX10_packed__0) (T := []) 0 hX10_packed__0 zChks_nil rfl rfl rfl (Nat.le_of_ble_eq_true rfl) (Nat.le_of_ble_eq_true rfl) ?_
  simp (implicitDefEqProofs := false) only [bX10_packed__0, zRun_cons, zRun_nil, zLk, zSto, zIns, zFil, zf0, zf1, zf2, zf3, List.filter_cons, List.filter_nil, Nat.reduceAdd, Nat.reduceEqDiff, Nat.reduceLT, Nat.reduceLeDiff, Nat.reduceBEq, Nat.reduceBNe, reduceIte, if_true, if_false, Bool.false_and, Bool.true_and, Bool.and_true, Bool.and_false, Bool.not_false, Bool.not_true, Bool.false_eq_true, beq_self_eq_true, BEq.rfl, zCat1, zCat2, zCat3, zKdI, zKdL, zKdR, true_and, and_true, zSI, zSL, zSR, zu_at, and_self, and_false, false_and, lv_args, zKdZ, zKdO, zB01, zB11, Option.toList_none, Option.toList_some, List.nil_append, List.cons_append, true_or, or_true, zRow_rd, zu_rd, zo_iconst, zo_istore_n, zi_0, zcl_0, zKn_0, zN10, zN01, not_true_eq_false, not_false_eq_true, false_implies, true_implies, implies_true, eq_self, nI_1, nI_40, nI_7, vz0, vz1, zb1_e0, zb1_n0]
  refine zLoop (n := n) (P := fun k => zX w mX10_packed_ rX10_packed_ Q 0 0 4 [(0, Value.ref 87), (1, Value.int (nI (oPkN l k))), (2, Value.int (nI k))] [] (SH, I, L, RF p s r)) (fun k hk ih => ?_) 0 (Nat.zero_le _)
  by_cases hke : k = n
  · subst hke
    refine zBlkR (M := mX10_packed_) (nL := 3) (rt := (Option.some .int)) (blk := bX10_packed__4) (T := [(31, bX10_packed__31)]) 1 hX10_packed__4 (zChks_cons hX10_packed__31 zChks_nil) rfl rfl rfl (Nat.le_of_ble_eq_true rfl) (Nat.le_of_ble_eq_true rfl) ?_
    simp (implicitDefEqProofs := false) only [bX10_packed__4, bX10_packed__31, zRun_cons, zRun_nil, zLk, zSto, zIns, zFil, zf0, zf1, zf2, zf3, List.filter_cons, List.filter_nil, Nat.reduceAdd, Nat.reduceEqDiff, Nat.reduceLT, Nat.reduceLeDiff, Nat.reduceBEq, Nat.reduceBNe, reduceIte, if_true, if_false, Bool.false_and, Bool.true_and, Bool.and_true, Bool.and_false, Bool.not_false, Bool.not_true, Bool.false_eq_true, beq_self_eq_true, BEq.rfl, zCat1, zCat2, zCat3, zKdI, zKdL, zKdR, true_and, and_true, zSI, zSL, zSR, zu_at, and_self, and_false, false_and, lv_args, zKdZ, zKdO, zB01, zB11, Option.toList_none, Option.toList_some, List.nil_append, List.cons_append, true_or, or_true, zRow_rd, zu_rd, zo_iload_n, zo_aload_n, zo_getfield, zo_icmp_ge, zo_iaload, zo_iconst, zo_imul, zo_ishl, zo_ior, zo_istore_n, zo_iinc, zo_goto, zo_ireturn, zi_4, zi_1, zKd_10_12, zKd_10_84, sh_87, rf_87_84, sh_128, zcl_4, zvi_4_5, zRt, zKn_s, zKn_0, zFind, h12, zle_nat (a := k) (b := k) (by omega) (by omega), Nat.le_refl, zN10, zN01, not_true_eq_false, not_false_eq_true, false_implies, true_implies, implies_true, eq_self, nI_1, nI_40, nI_7, vz0, vz1, zb1_e0, zb1_n0]
    exact hQ
  · have hx : (nI n ≤ nI k) = False := eq_false (by rw [zle_nat (by omega) (by omega)]; omega)
    have hv : vp_in (nI k) 5 := zvn (by omega) (by omega)
    have e1 := hO k (by omega)
    have ih := ih (by omega)
    refine zBlkR (M := mX10_packed_) (nL := 3) (rt := (Option.some .int)) (blk := bX10_packed__4) (T := [(31, bX10_packed__31)]) 1 hX10_packed__4 (zChks_cons hX10_packed__31 zChks_nil) rfl rfl rfl (Nat.le_of_ble_eq_true rfl) (Nat.le_of_ble_eq_true rfl) ?_
    simp (implicitDefEqProofs := false) only [bX10_packed__4, bX10_packed__31, zRun_cons, zRun_nil, zLk, zSto, zIns, zFil, zf0, zf1, zf2, zf3, List.filter_cons, List.filter_nil, Nat.reduceAdd, Nat.reduceEqDiff, Nat.reduceLT, Nat.reduceLeDiff, Nat.reduceBEq, Nat.reduceBNe, reduceIte, if_true, if_false, Bool.false_and, Bool.true_and, Bool.and_true, Bool.and_false, Bool.not_false, Bool.not_true, Bool.false_eq_true, beq_self_eq_true, BEq.rfl, zCat1, zCat2, zCat3, zKdI, zKdL, zKdR, true_and, and_true, zSI, zSL, zSR, zu_at, and_self, and_false, false_and, lv_args, zKdZ, zKdO, zB01, zB11, Option.toList_none, Option.toList_some, List.nil_append, List.cons_append, true_or, or_true, zRow_rd, zu_rd, zo_iload_n, zo_aload_n, zo_getfield, zo_icmp_ge, zo_iaload, zo_iconst, zo_imul, zo_ishl, zo_ior, zo_istore_n, zo_iinc, zo_goto, zo_ireturn, zi_4, zi_1, zKd_10_12, zKd_10_84, sh_87, rf_87_84, sh_128, zcl_4, zvi_4_5, zRt, zKn_s, zKn_0, zFind, h12, hx, hv, e1, nI_clamp (n := k) (by omega), oPk_s h16 (show k < n by omega) hn5, zN10, zN01, not_true_eq_false, not_false_eq_true, false_implies, true_implies, implies_true, eq_self, nI_1, nI_40, nI_7, vz0, vz1, zb1_e0, zb1_n0]
    exact ih
set_option maxRecDepth 20000 in
theorem mo_firstOrder (hn5 : n ≤ 5) (hQ : ∀ I', zKpt (zOne 128) I I' → zOrd (I' 128) (List.range n) → Q none (SH, I', L, RF p s r)) : zXM w mX10_firstOrder rX10_firstOrder [.ref 87] (SH, I, L, RF p s r) Q := by
  unfold zXM
  refine zBlkR (M := mX10_firstOrder) (nL := 2) (rt := (Option.none : Option Jvm.ClassFile.FieldType)) (blk := bX10_firstOrder_0) (T := []) 0 hX10_firstOrder_0 zChks_nil rfl rfl rfl (Nat.le_of_ble_eq_true rfl) (Nat.le_of_ble_eq_true rfl) ?_
  simp (implicitDefEqProofs := false) only [bX10_firstOrder_0, zRun_cons, zRun_nil, zLk, zSto, zIns, zFil, zf0, zf1, zf2, zf3, List.filter_cons, List.filter_nil, Nat.reduceAdd, Nat.reduceEqDiff, Nat.reduceLT, Nat.reduceLeDiff, Nat.reduceBEq, Nat.reduceBNe, reduceIte, if_true, if_false, Bool.false_and, Bool.true_and, Bool.and_true, Bool.and_false, Bool.not_false, Bool.not_true, Bool.false_eq_true, beq_self_eq_true, BEq.rfl, zCat1, zCat2, zCat3, zKdI, zKdL, zKdR, true_and, and_true, zSI, zSL, zSR, zu_at, and_self, and_false, false_and, lv_args, zKdZ, zKdO, zB01, zB11, Option.toList_none, Option.toList_some, List.nil_append, List.cons_append, true_or, or_true, zRow_rd, zu_rd, zo_iconst, zo_istore_n, zi_0, zcl_0, zKn_0, zN10, zN01, not_true_eq_false, not_false_eq_true, false_implies, true_implies, implies_true, eq_self, nI_1, nI_40, nI_7, vz0, vz1, zb1_e0, zb1_n0]
  refine zLoop (n := 5) (P := fun k => ∀ J, zKpt (zOne 128) I J → (∀ i, i < k → J 128 i = nI i) → zX w mX10_firstOrder rX10_firstOrder Q 0 0 2 [(0, Value.ref 87), (1, Value.int (nI k))] [] (SH, J, L, RF p s r)) (fun k hk ih => ?_) 0 (Nat.zero_le _) I zKpt_rfl (fun i hi => absurd hi (by omega))
  intro J hJ hr
  by_cases hke : k = 5
  · subst hke
    refine zBlkR (M := mX10_firstOrder) (nL := 2) (rt := (Option.none : Option Jvm.ClassFile.FieldType)) (blk := bX10_firstOrder_2) (T := [(20, bX10_firstOrder_20)]) 1 hX10_firstOrder_2 (zChks_cons hX10_firstOrder_20 zChks_nil) rfl rfl rfl (Nat.le_of_ble_eq_true rfl) (Nat.le_of_ble_eq_true rfl) ?_
    simp (implicitDefEqProofs := false) only [bX10_firstOrder_2, bX10_firstOrder_20, zRun_cons, zRun_nil, zLk, zSto, zIns, zFil, zf0, zf1, zf2, zf3, List.filter_cons, List.filter_nil, Nat.reduceAdd, Nat.reduceEqDiff, Nat.reduceLT, Nat.reduceLeDiff, Nat.reduceBEq, Nat.reduceBNe, reduceIte, if_true, if_false, Bool.false_and, Bool.true_and, Bool.and_true, Bool.and_false, Bool.not_false, Bool.not_true, Bool.false_eq_true, beq_self_eq_true, BEq.rfl, zCat1, zCat2, zCat3, zKdI, zKdL, zKdR, true_and, and_true, zSI, zSL, zSR, zu_at, and_self, and_false, false_and, lv_args, zKdZ, zKdO, zB01, zB11, Option.toList_none, Option.toList_some, List.nil_append, List.cons_append, true_or, or_true, zRow_rd, zu_rd, zo_iload_n, zo_iconst, zo_icmp_ge, zo_aload_n, zo_getfield, zo_iastore, zo_iinc, zo_goto, zo_return_, zi_5, zi_1, zKd_10_84, zcl_5, sh_87, rf_87_84, sh_128, zKn_s, zKn_0, zFind, show ((5 : Int32) ≤ nI 5) = True from eq_true (by decide), zN10, zN01, not_true_eq_false, not_false_eq_true, false_implies, true_implies, implies_true, eq_self, nI_1, nI_40, nI_7, vz0, vz1, zb1_e0, zb1_n0]
    refine hQ J hJ (fun i hi => ?_)
    have hi : i < n := by simpa using hi
    rw [hr i (by omega)]; simp [List.getD_eq_getElem?_getD, hi]
  · have hx : ((5 : Int32) ≤ nI k) = False := eq_false (by rw [show (5 : Int32) = nI 5 from rfl, zle_nat (by omega) (by omega)]; omega)
    have hv : vp_in (nI k) 5 := zvn (by omega) (by omega)
    refine zBlkR (M := mX10_firstOrder) (nL := 2) (rt := (Option.none : Option Jvm.ClassFile.FieldType)) (blk := bX10_firstOrder_2) (T := [(20, bX10_firstOrder_20)]) 1 hX10_firstOrder_2 (zChks_cons hX10_firstOrder_20 zChks_nil) rfl rfl rfl (Nat.le_of_ble_eq_true rfl) (Nat.le_of_ble_eq_true rfl) ?_
    simp (implicitDefEqProofs := false) only [bX10_firstOrder_2, bX10_firstOrder_20, zRun_cons, zRun_nil, zLk, zSto, zIns, zFil, zf0, zf1, zf2, zf3, List.filter_cons, List.filter_nil, Nat.reduceAdd, Nat.reduceEqDiff, Nat.reduceLT, Nat.reduceLeDiff, Nat.reduceBEq, Nat.reduceBNe, reduceIte, if_true, if_false, Bool.false_and, Bool.true_and, Bool.and_true, Bool.and_false, Bool.not_false, Bool.not_true, Bool.false_eq_true, beq_self_eq_true, BEq.rfl, zCat1, zCat2, zCat3, zKdI, zKdL, zKdR, true_and, and_true, zSI, zSL, zSR, zu_at, and_self, and_false, false_and, lv_args, zKdZ, zKdO, zB01, zB11, Option.toList_none, Option.toList_some, List.nil_append, List.cons_append, true_or, or_true, zRow_rd, zu_rd, zo_iload_n, zo_iconst, zo_icmp_ge, zo_aload_n, zo_getfield, zo_iastore, zo_iinc, zo_goto, zo_return_, zi_5, zi_1, zKd_10_84, zcl_5, sh_87, rf_87_84, sh_128, zKn_s, zKn_0, zFind, hx, hv, nI_clamp (n := k) (by omega), zN10, zN01, not_true_eq_false, not_false_eq_true, false_implies, true_implies, implies_true, eq_self, nI_1, nI_40, nI_7, vz0, vz1, zb1_e0, zb1_n0]
    refine ih (by omega) _ (hJ.u (show zOne 128 128 _ from rfl)) (fun i hi => ?_)
    rw [zu_at]
    by_cases e : i = k
    · subst e; simp
    · rw [if_neg (fun g => e g.2)]; exact hr i (by omega)
end ZO80
