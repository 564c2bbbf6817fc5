/-! ===== THE CLASS: a front's chairs ===== -/
theorem zCnt_pt {P P' : Nat → Bool} {c : Nat} : ∀ {n : Nat}, c < n → (∀ d, d < n → d ≠ c → P' d = P d) → zCnt P' n + (if P c = true then 1 else 0) = zCnt P n + (if P' c = true then 1 else 0)
  | 0, hc, _ => absurd hc (by omega)
  | n + 1, hc, h => by
    rw [zCnt, zCnt]
    by_cases e : c = n
    · subst e
      rw [zCnt_congr (P := P') (P' := P) (fun d hd => h d (by omega) (by omega))]
      omega
    · have ih := zCnt_pt (n := n) (by omega) (fun d hd hne => h d (by omega) hne)
      rw [h n (by omega) (fun q => e q.symm)]
      omega
def oStk (V : Nat → Nat → Int32) (n : Nat) : Nat := zCnt (fun c => V 1 c == 0) n
theorem oCnt_mv {V V' : Nat → Nat → Int32} {c ch : Nat} (hc : c < ch) (h1 : ∀ d, d ≠ c → V' 1 d = V 1 d) (h2 : ∀ d, d ≠ c → V' 2 d = V 2 d) (q x : Int32) : oCnt V' q x ch + (if V 1 c = x ∧ V 2 c = q then 1 else 0) = oCnt V q x ch + (if V' 1 c = x ∧ V' 2 c = q then 1 else 0) := by
  have h := zCnt_pt (P := fun c => V 1 c == x && V 2 c == q) (P' := fun c => V' 1 c == x && V' 2 c == q) hc (fun d _ hd => by simp only [h1 d hd, h2 d hd])
  simpa [oCnt] using h
theorem oStk_mv {V V' : Nat → Nat → Int32} {c ch : Nat} (hc : c < ch) (h1 : ∀ d, d ≠ c → V' 1 d = V 1 d) : oStk V' ch + (if V 1 c = 0 then 1 else 0) = oStk V ch + (if V' 1 c = 0 then 1 else 0) := by
  have h := zCnt_pt (P := fun c => V 1 c == 0) (P' := fun c => V' 1 c == 0) hc (fun d _ hd => by simp only [h1 d hd])
  simpa [oStk] using h
/-- what the chairs of a front may change -/
def zFB (B i k : Nat) : Prop := (B + 1 ≤ i ∧ i ≤ B + 8) ∨ (i = B ∧ k = 9)
/-- the front at B has these chairs, and counts them right -/
def zFC (B : Nat) (I : Nat → Nat → Int32) (ch : Nat) (V : Nat → Nat → Int32) : Prop := vC B I = V ∧ I B 8 = nI ch ∧ (∀ q, q < 5 → I (B + 6) q = nI (oCnt V (nI q) 1 ch)) ∧ (∀ q, q < 5 → I (B + 7) q = nI (oCnt V (nI q) 2 ch)) ∧ I B 9 = nI (oStk V ch)
/-- the sitter goes, if there is one -/
def oUn (c : Nat) (V : Nat → Nat → Int32) : Nat → Nat → Int32 := if V 1 c = 2 then zu (oOff c V) 1 c 1 else V
def oLs (c : Nat) (V : Nat → Nat → Int32) : Nat → Nat → Int32 := if V 1 c = 1 ∨ V 1 c = 2 then oLose c V else V
def oStack (c : Nat) (V : Nat → Nat → Int32) : Nat → Nat → Int32 := if V 1 c = 1 then zu (zu V 1 c 0) 2 c (-1) else V
def oPutC (q c : Nat) (V : Nat → Nat → Int32) : Nat → Nat → Int32 := if V 1 c = 0 then zu (zu V 1 c 1) 2 c (nI q) else V
section ZF61
variable {I V V' : Nat → Nat → Int32} {B c k ch q0 : Nat} {x : Int32} {A : Nat → Int32} {f f' : Nat → Nat}
theorem vCu1 (hc : c < 40) : vC B (zu I (B + 1) c x) = zu (vC B I) 1 c x := vC_u (i := 1) (by omega) hc
theorem vCu2 (hc : c < 40) : vC B (zu I (B + 2) c x) = zu (vC B I) 2 c x := vC_u (i := 2) (by omega) hc
theorem vCu3 (hc : c < 40) : vC B (zu I (B + 3) c x) = zu (vC B I) 3 c x := vC_u (i := 3) (by omega) hc
theorem vCu4 (hc : c < 40) : vC B (zu I (B + 4) c x) = zu (vC B I) 4 c x := vC_u (i := 4) (by omega) hc
theorem vCu5 (hc : c < 40) : vC B (zu I (B + 5) c x) = zu (vC B I) 5 c x := vC_u (i := 5) (by omega) hc
theorem vCu6 : vC B (zu I (B + 6) k x) = vC B I := vC_un (by omega)
theorem vCu7 : vC B (zu I (B + 7) k x) = vC B I := vC_un (by omega)
theorem vCuB : vC B (zu I B k x) = vC B I := vC_un (by omega)
theorem zFC.v1 (h : zFC B I ch V) (hc : c < 40) : I (B + 1) c = V 1 c := by rw [← h.1, vC_at (by omega) hc]
theorem zFC.v2 (h : zFC B I ch V) (hc : c < 40) : I (B + 2) c = V 2 c := by rw [← h.1, vC_at (by omega) hc]
theorem zFC.v3 (h : zFC B I ch V) (hc : c < 40) : I (B + 3) c = V 3 c := by rw [← h.1, vC_at (by omega) hc]
theorem zFC.v4 (h : zFC B I ch V) (hc : c < 40) : I (B + 4) c = V 4 c := by rw [← h.1, vC_at (by omega) hc]
theorem zFC.v5 (h : zFC B I ch V) (hc : c < 40) : I (B + 5) c = V 5 c := by rw [← h.1, vC_at (by omega) hc]
theorem zFC.v8 (h : zFC B I ch V) (hc : c < 7) : I (B + 8) c = V 8 c := by rw [← h.1, vC_8 hc]
theorem cnt_up (h : ∀ q, q < 5 → A q = nI (oCnt V (nI q) x ch)) (h0 : q0 < 5) (hm : oCnt V' (nI q0) x ch = oCnt V (nI q0) x ch + 1 ∧ ∀ q, q < 5 → q ≠ q0 → oCnt V' (nI q) x ch = oCnt V (nI q) x ch) : ∀ q, q < 5 → (if q = q0 then A q0 + 1 else A q) = nI (oCnt V' (nI q) x ch) := by
  intro q hq
  by_cases e : q = q0
  · subst e; rw [if_pos rfl, h _ h0, nI_1, hm.1]
  · rw [if_neg e, h q hq, hm.2 q hq e]
theorem cnt_dn (h : ∀ q, q < 5 → A q = nI (oCnt V (nI q) x ch)) (h0 : q0 < 5) (hm : oCnt V (nI q0) x ch = oCnt V' (nI q0) x ch + 1 ∧ ∀ q, q < 5 → q ≠ q0 → oCnt V' (nI q) x ch = oCnt V (nI q) x ch) : ∀ q, q < 5 → (if q = q0 then A q0 - 1 else A q) = nI (oCnt V' (nI q) x ch) := by
  intro q hq
  by_cases e : q = q0
  · subst e; rw [if_pos rfl, h _ h0, hm.1, nI_pred]
  · rw [if_neg e, h q hq, hm.2 q hq e]
theorem cnt_no (h : ∀ q, q < 5 → A q = nI (oCnt V (nI q) x ch)) (hf : ∀ q, q < 5 → oCnt V' (nI q) x ch = oCnt V (nI q) x ch) : ∀ q, q < 5 → A q = nI (oCnt V' (nI q) x ch) := fun q hq => by rw [h q hq, hf q hq]
theorem nI_q {a b : Nat} (ha : a < 5) (hb : b < 5) : (nI a = nI b) = (a = b) := zeq_nat (by omega) (by omega)
/-- the sitter of c at q0 goes -/
theorem mv_un (hc : c < ch) (h0 : q0 < 5) (e1 : V 1 c = 2) (e2 : V 2 c = nI q0) (k1 : ∀ d, d ≠ c → V' 1 d = V 1 d) (k2 : ∀ d, d ≠ c → V' 2 d = V 2 d) (e3 : V' 1 c = 1) (e4 : V' 2 c = nI q0) : (oCnt V' (nI q0) 1 ch = oCnt V (nI q0) 1 ch + 1 ∧ ∀ q, q < 5 → q ≠ q0 → oCnt V' (nI q) 1 ch = oCnt V (nI q) 1 ch) ∧ (oCnt V (nI q0) 2 ch = oCnt V' (nI q0) 2 ch + 1 ∧ ∀ q, q < 5 → q ≠ q0 → oCnt V' (nI q) 2 ch = oCnt V (nI q) 2 ch) ∧ oStk V' ch = oStk V ch := by
  refine ⟨⟨?_, fun q hq hne => ?_⟩, ⟨?_, fun q hq hne => ?_⟩, ?_⟩
  · have := oCnt_mv hc k1 k2 (nI q0) 1
    simp [e1, e2, e3, e4] at this; exact this
  · have := oCnt_mv hc k1 k2 (nI q) 1
    simp [e1, e2, e3, e4, nI_q h0 hq, Ne.symm hne] at this; exact this
  · have := oCnt_mv hc k1 k2 (nI q0) 2
    simp [e1, e2, e3, e4] at this; exact this.symm
  · have := oCnt_mv hc k1 k2 (nI q) 2
    simp [e1, e2, e3, e4, nI_q h0 hq, Ne.symm hne] at this; exact this
  · have := oStk_mv hc k1
    simp [e1, e3] at this; exact this
/-- c, out at q0, is lost (x = 3) or sat on (x = 2) or stacked (x = 0) -/
theorem mv_out (hc : c < ch) (h0 : q0 < 5) (e1 : V 1 c = 1) (e2 : V 2 c = nI q0) (k1 : ∀ d, d ≠ c → V' 1 d = V 1 d) (k2 : ∀ d, d ≠ c → V' 2 d = V 2 d) (hx : V' 1 c ≠ 1) : (oCnt V (nI q0) 1 ch = oCnt V' (nI q0) 1 ch + 1 ∧ ∀ q, q < 5 → q ≠ q0 → oCnt V' (nI q) 1 ch = oCnt V (nI q) 1 ch) := by
  refine ⟨?_, fun q hq hne => ?_⟩
  · have := oCnt_mv hc k1 k2 (nI q0) 1
    simp [e1, e2, hx] at this; exact this.symm
  · have := oCnt_mv hc k1 k2 (nI q) 1
    simp [e1, e2, hx, nI_q h0 hq, Ne.symm hne] at this; exact this
theorem mv_same (hc : c < ch) (e1 : V 1 c ≠ x) (e3 : V' 1 c ≠ x) (k1 : ∀ d, d ≠ c → V' 1 d = V 1 d) (k2 : ∀ d, d ≠ c → V' 2 d = V 2 d) : ∀ q, q < 5 → oCnt V' (nI q) x ch = oCnt V (nI q) x ch := by
  intro q hq
  have := oCnt_mv hc k1 k2 (nI q) x
  simp [e1, e3] at this; exact this
theorem st_same (hc : c < ch) (e1 : V 1 c ≠ 0) (e3 : V' 1 c ≠ 0) (k1 : ∀ d, d ≠ c → V' 1 d = V 1 d) : oStk V' ch = oStk V ch := by
  have := oStk_mv hc k1
  simp [e1, e3] at this; exact this
theorem mv_in (hc : c < ch) (h0 : q0 < 5) (e1 : V 1 c ≠ x) (k1 : ∀ d, d ≠ c → V' 1 d = V 1 d) (k2 : ∀ d, d ≠ c → V' 2 d = V 2 d) (e3 : V' 1 c = x) (e4 : V' 2 c = nI q0) : (oCnt V' (nI q0) x ch = oCnt V (nI q0) x ch + 1 ∧ ∀ q, q < 5 → q ≠ q0 → oCnt V' (nI q) x ch = oCnt V (nI q) x ch) := by
  refine ⟨?_, fun q hq hne => ?_⟩
  · have := oCnt_mv hc k1 k2 (nI q0) x
    simp [e1, e3, e4] at this; exact this
  · have := oCnt_mv hc k1 k2 (nI q) x
    simp [e1, e3, e4, nI_q h0 hq, Ne.symm hne] at this; exact this
end ZF61
section ZF62
variable {w : zP} {Q : Option Value → zMem → Prop} {μ : zMem} {I V : Nat → Nat → Int32} {L : Nat → Nat → Int64} {p s : Nat} {r : Option Nat} {B c ch np q0 : Nat} {wm x till : Int32}
set_option maxRecDepth 20000 in
theorem cl_isPlace (h0 : q0 < 5) (hQ : Q (some (.int 1)) μ) : zXM w mX2_isPlace rX2_isPlace [.int (nI q0)] μ Q := by
  unfold zXM
  have e1 : ¬ nI q0 < 0 := nI_nn (by omega)
  have e2 : ¬ (5 : Int32) ≤ nI q0 := by rw [show (5 : Int32) = nI 5 from rfl, zle_nat (by omega) (by omega)]; omega
  refine zBlkR (M := mX2_isPlace) (nL := 1) (rt := (Option.some .boolean)) (blk := bX2_isPlace_0) (T := [(13, bX2_isPlace_13), (14, bX2_isPlace_14)]) 1 hX2_isPlace_0 (zChks_cons hX2_isPlace_13 (zChks_cons hX2_isPlace_14 zChks_nil)) rfl rfl rfl (Nat.le_of_ble_eq_true rfl) (Nat.le_of_ble_eq_true rfl) ?_
  simp only [bX2_isPlace_0, bX2_isPlace_13, bX2_isPlace_14, zRun_cons, zRun_nil, zLk, zSto, zIns, zFil, zf0, zf1, zf2, zf3, List.filter_cons, List.filter_nil, Nat.reduceAdd, Nat.reduceEqDiff, Nat.reduceLT, Nat.reduceLeDiff, Nat.reduceBEq, Nat.reduceBNe, reduceIte, if_true, if_false, Bool.false_and, Bool.true_and, Bool.and_true, Bool.and_false, Bool.not_false, Bool.not_true, Bool.false_eq_true, beq_self_eq_true, BEq.rfl, zCat1, zCat2, zCat3, zKdI, zKdL, zKdR, true_and, and_true, zSI, zSL, zSR, zu_at, and_self, and_false, false_and, lv_args, zKdZ, zKdO, zB01, zB11, Option.toList_none, Option.toList_some, List.nil_append, List.cons_append, true_or, or_true, zRow_rd, zu_rd, zo_iload_n, zo_if_lt, zo_iconst, zo_icmp_ge, zo_goto, zo_ireturn, zi_5, zi_1, zi_0, zcl_5, zcl_1, zcl_0, zRt, zKn_s, zKn_0, zFind, e1, e2, zN10, zN01, not_true_eq_false, not_false_eq_true, false_implies, true_implies, implies_true, eq_self, nI_1, nI_40, nI_7, vz0, vz1, zb1_e0, zb1_n0]
  exact hQ
set_option maxRecDepth 20000 in
theorem cl_unseat (hB : zBc B) (hc : c < ch) (hch : ch ≤ 40) (hnp : np ≤ 5) (hF : zFC B I ch V) (hok : oOk ch np wm V) (hQ : ∀ I', zKpt (zFB B) I I' → zFC B I' ch (oUn c V) → Q none (SH, I', L, RF p s r)) : zXM w mX2_unseat rX2_unseat [.ref B, .int (nI c)] (SH, I, L, RF p s r) Q := by
  unfold zXM
  have hc4 : c < 40 := by omega
  have hv : vp_in (nI c) 40 := zvn (by omega) (by omega)
  refine zBlkR (M := mX2_unseat) (nL := 2) (rt := (Option.none : Option Jvm.ClassFile.FieldType)) (blk := bX2_unseat_0) (T := [(90, bX2_unseat_90)]) 1 hX2_unseat_0 (zChks_cons hX2_unseat_90 zChks_nil) rfl rfl rfl (Nat.le_of_ble_eq_true rfl) (Nat.le_of_ble_eq_true rfl) ?_
  simp only [bX2_unseat_0, bX2_unseat_90, zRun_cons, zRun_nil, zLk, zSto, zIns, zFil, zf0, zf1, zf2, zf3, List.filter_cons, List.filter_nil, Nat.reduceAdd, Nat.reduceEqDiff, Nat.reduceLT, Nat.reduceLeDiff, Nat.reduceBEq, Nat.reduceBNe, reduceIte, if_true, if_false, Bool.false_and, Bool.true_and, Bool.and_true, Bool.and_false, Bool.not_false, Bool.not_true, Bool.false_eq_true, beq_self_eq_true, BEq.rfl, zCat1, zCat2, zCat3, zKdI, zKdL, zKdR, true_and, and_true, zSI, zSL, zSR, zu_at, and_self, and_false, false_and, lv_args, zKdZ, zKdO, zB01, zB11, Option.toList_none, Option.toList_some, List.nil_append, List.cons_append, true_or, or_true, zRow_rd, zu_rd, zo_aload_n, zo_getfield, zo_iload_n, zo_iaload, zo_iconst, zo_icmp_ne, zo_return_, zi_2, zKd_2_0, zKd_2_1, sh_10, rf_10_0, sh_11, sh_19, rf_19_0, sh_20, sh_28, rf_28_0, sh_29, zcl_2, rf_10_1, sh_12, rf_19_1, sh_21, rf_28_1, sh_30, zvi_2_40, zKn_s, zKn_0, zFind, (fsh_0 hB), (fsh_1 hB), (fsh_2 hB), (fsh_3 hB), (fsh_4 hB), (fsh_5 hB), (fsh_6 hB), (fsh_7 hB), (fsh_8 hB), (frf_0 hB), (frf_1 hB), (frf_2 hB), (frf_3 hB), (frf_4 hB), (frf_5 hB), (frf_6 hB), (frf_7 hB), Nat.add_left_cancel_iff, Nat.left_eq_add, Nat.add_eq_left, hv, nI_clamp (n := c) (by omega), hF.v1 hc4, hF.v2 hc4, zN10, zN01, not_true_eq_false, not_false_eq_true, false_implies, true_implies, implies_true, eq_self, nI_1, nI_40, nI_7, vz0, vz1, zb1_e0, zb1_n0]
  refine ⟨fun h => ?_, fun h => ?_⟩
  · exact hQ I zKpt_rfl (by rw [oUn, if_neg h]; exact hF)
  obtain ⟨-, ⟨q0, h0, e2⟩, -⟩ := oOk_front hok hc4 (Or.inr h)
  have h05 : q0 < 5 := by omega
  have hv0 : vp_in (nI q0) 5 := zvn (by omega) (by omega)
  have e5 : V 5 c = 0 ∨ V 5 c = 1 := by
    rcases hok c hc4 with g | g | g | g
    · exact Or.inl g.2.2.2.1
    · exact Or.inl g.2.2.2.2.1
    · exact g.2.2.2.1
    · exact Or.inl g.2.2.2.2
  rw [e2]
  refine z_cS0 (M' := mX2_isPlace) (R' := rX2_isPlace) [.int (nI q0)] [] eX2_isPlace k2_92 (by decide +kernel : decode cX2_unseat 16 = .ok (.invokestatic 92, 3)) (Nat.le_of_ble_eq_true rfl) ⟨Nat.le_of_ble_eq_true rfl, Nat.le_of_ble_eq_true rfl, Nat.le_of_ble_eq_true rfl, Nat.le_of_ble_eq_true rfl, Nat.le_of_ble_eq_true rfl⟩ rfl rfl rfl ?_
  refine cl_isPlace h05 ?_
  refine zBlkR (M := mX2_unseat) (nL := 2) (rt := (Option.none : Option Jvm.ClassFile.FieldType)) (blk := bX2_unseat_19) (T := [(90, bX2_unseat_90)]) 1 hX2_unseat_19 (zChks_cons hX2_unseat_90 zChks_nil) rfl rfl rfl (Nat.le_of_ble_eq_true rfl) (Nat.le_of_ble_eq_true rfl) ?_
  simp only [bX2_unseat_19, bX2_unseat_90, zRun_cons, zRun_nil, zLk, zSto, zIns, zFil, zf0, zf1, zf2, zf3, List.filter_cons, List.filter_nil, Nat.reduceAdd, Nat.reduceEqDiff, Nat.reduceLT, Nat.reduceLeDiff, Nat.reduceBEq, Nat.reduceBNe, reduceIte, if_true, if_false, Bool.false_and, Bool.true_and, Bool.and_true, Bool.and_false, Bool.not_false, Bool.not_true, Bool.false_eq_true, beq_self_eq_true, BEq.rfl, zCat1, zCat2, zCat3, zKdI, zKdL, zKdR, true_and, and_true, zSI, zSL, zSR, zu_at, and_self, and_false, false_and, lv_args, zKdZ, zKdO, zB01, zB11, Option.toList_none, Option.toList_some, List.nil_append, List.cons_append, true_or, or_true, zRow_rd, zu_rd, zo_if_eq, zo_aload_n, zo_getfield, zo_iconst, zo_dup2, zo_dup2_2, zo_iaload, zo_iload_n, zo_isub, zo_iadd, zo_iastore, zo_return_, zi_3, zi_1, zi_m1, zi_0, zKd_2_7, zKd_2_4, zKd_2_0, zKd_2_3, zKd_2_6, zKd_2_1, zKd_2_5, sh_10, rf_10_7, sh_18, sh_19, rf_19_7, sh_27, sh_28, rf_28_7, sh_36, zcl_3, zcl_1, rf_10_4, sh_15, rf_19_4, sh_24, rf_28_4, sh_33, rf_10_0, sh_11, rf_19_0, sh_20, rf_28_0, sh_29, rf_10_3, sh_14, rf_19_3, sh_23, rf_28_3, sh_32, zcl_0, rf_10_6, sh_17, rf_19_6, sh_26, rf_28_6, sh_35, rf_10_1, sh_12, rf_19_1, sh_21, rf_28_1, sh_30, rf_10_5, sh_16, rf_19_5, sh_25, rf_28_5, sh_34, zvi_3_5, zvi_3_7, zvi_3_40, zvi_1_5, zvi_1_7, zvi_1_40, zvi_0_5, zvi_0_7, zvi_0_40, zKn_s, zKn_0, zFind, (fsh_0 hB), (fsh_1 hB), (fsh_2 hB), (fsh_3 hB), (fsh_4 hB), (fsh_5 hB), (fsh_6 hB), (fsh_7 hB), (fsh_8 hB), (frf_0 hB), (frf_1 hB), (frf_2 hB), (frf_3 hB), (frf_4 hB), (frf_5 hB), (frf_6 hB), (frf_7 hB), Nat.add_left_cancel_iff, Nat.left_eq_add, Nat.add_eq_left, hv, hv0, e2, nI_clamp (n := c) (by omega), nI_clamp (n := q0) (by omega), hF.v2 hc4, hF.v5 hc4, zN10, zN01, not_true_eq_false, not_false_eq_true, false_implies, true_implies, implies_true, eq_self, nI_1, nI_40, nI_7, vz0, vz1, zb1_e0, zb1_n0]
  have hV' : oUn c V = zu (oOff c V) 1 c 1 := by rw [oUn, if_pos h]
  have g1 : ∀ d, d ≠ c → oUn c V 1 d = V 1 d := fun d hd => by rw [hV', zu_at, oOff_at]; simp [hd]
  have g2 : ∀ d, d ≠ c → oUn c V 2 d = V 2 d := fun d hd => by rw [hV', zu_at, oOff_at]; simp
  have g3 : oUn c V 1 c = 1 := by rw [hV', zu_at]; simp
  have g4 : oUn c V 2 c = nI q0 := by rw [hV', zu_at, oOff_at]; simp [e2]
  obtain ⟨⟨a1, a2⟩, ⟨b1, b2⟩, c1⟩ := mv_un hc h05 h e2 g1 g2 g3 g4
  refine hQ _ ?_ ⟨?_, ?_, fun q hq => ?_, fun q hq => ?_, ?_⟩
  · refine (((((zKpt_rfl.u ?_).u ?_).u ?_).u ?_).u ?_).u ?_ <;> unfold zFB <;> omega
  · rw [vCu6, vCu7, vCu5 hc4, vCu4 hc4, vCu1 hc4, vC_u8 (by omega), hF.1, hV', hF.v8 (c := 3) (by omega)]
    funext i d
    simp only [zu_at, oOff_at]
    rcases e5 with e5 | e5 <;> simp only [e5] <;> grind
  · simp [zu_at]; exact hF.2.1
  · simp [zu_at]; exact cnt_up hF.2.2.1 h05 ⟨a1, a2⟩ q hq
  · simp [zu_at]; exact cnt_dn hF.2.2.2.1 h05 ⟨b1, b2⟩ q hq
  · simp [zu_at]; rw [c1]; exact hF.2.2.2.2
theorem oOk_un (h : oOk ch np wm V) : oOk ch np wm (oUn c V) := by
  unfold oUn
  split
  · rename_i q; exact oOk_out h (Or.inr q)
  · exact h
theorem oOk_ls (hc : c < 40) (h : oOk ch np wm V) : oOk ch np wm (oLs c V) := by
  unfold oLs
  split
  · rename_i q; exact oOk_lose (fun d hd _ => h d hd) (oOk_front h hc q).1
  · exact h
/-- a chair that is out, and nobody on it -/
theorem oOk_1 (h : oOk ch np wm V) (hc : c < 40) (h1 : V 1 c = 1) : V 4 c = -1 ∧ V 5 c = 0 := by
  rcases h c hc with g | g | g | g
  · rw [g.1] at h1; exact absurd h1 (by decide)
  · exact ⟨g.2.2.2.1, g.2.2.2.2.1⟩
  · rw [g.1] at h1; exact absurd h1 (by decide)
  · rw [g.1] at h1; exact absurd h1 (by decide)
set_option maxRecDepth 20000 in
theorem cl_lose (hB : zBc B) (hc : c < ch) (hch : ch ≤ 40) (hnp : np ≤ 5) (hF : zFC B I ch V) (hok : oOk ch np wm V) (hQ : ∀ I', zKpt (zFB B) I I' → zFC B I' ch (oLs c V) → Q none (SH, I', L, RF p s r)) : zXM w mX2_lose rX2_lose [.ref B, .int (nI c)] (SH, I, L, RF p s r) Q := by
  unfold zXM
  have hc4 : c < 40 := by omega
  have hv : vp_in (nI c) 40 := zvn (by omega) (by omega)
  refine zBlkR (M := mX2_lose) (nL := 2) (rt := (Option.none : Option Jvm.ClassFile.FieldType)) (blk := bX2_lose_0) (T := []) 0 hX2_lose_0 zChks_nil rfl rfl rfl (Nat.le_of_ble_eq_true rfl) (Nat.le_of_ble_eq_true rfl) ?_
  simp only [bX2_lose_0, zRun_cons, zRun_nil, zLk, zSto, zIns, zFil, zf0, zf1, zf2, zf3, List.filter_cons, List.filter_nil, Nat.reduceAdd, Nat.reduceEqDiff, Nat.reduceLT, Nat.reduceLeDiff, Nat.reduceBEq, Nat.reduceBNe, reduceIte, if_true, if_false, Bool.false_and, Bool.true_and, Bool.and_true, Bool.and_false, Bool.not_false, Bool.not_true, Bool.false_eq_true, beq_self_eq_true, BEq.rfl, zCat1, zCat2, zCat3, zKdI, zKdL, zKdR, true_and, and_true, zSI, zSL, zSR, zu_at, and_self, and_false, false_and, lv_args, zKdZ, zKdO, zB01, zB11, Option.toList_none, Option.toList_some, List.nil_append, List.cons_append, true_or, or_true, zRow_rd, zu_rd, zo_aload_n, zo_iload_n, zKn_0, zN10, zN01, not_true_eq_false, not_false_eq_true, false_implies, true_implies, implies_true, eq_self, nI_1, nI_40, nI_7, vz0, vz1, zb1_e0, zb1_n0]
  refine z_cV0 (M' := mX2_unseat) (R' := rX2_unseat) (i := B) [.int (nI c)] [] eX2_unseat k2_96 (by decide +kernel : decode cX2_lose 2 = .ok (.invokevirtual 96, 3)) (Nat.le_of_ble_eq_true rfl) ⟨Nat.le_of_ble_eq_true rfl, Nat.le_of_ble_eq_true rfl, Nat.le_of_ble_eq_true rfl, Nat.le_of_ble_eq_true rfl, Nat.le_of_ble_eq_true rfl⟩ rfl rfl rfl (fsh_0 hB) ?_
  refine cl_unseat hB hc hch hnp hF hok (fun I1 hk hF1 => ?_)
  have hok1 := oOk_un (c := c) hok
  refine zBlkR (M := mX2_lose) (nL := 2) (rt := (Option.none : Option Jvm.ClassFile.FieldType)) (blk := bX2_lose_5) (T := [(66, bX2_lose_66)]) 1 hX2_lose_5 (zChks_cons hX2_lose_66 zChks_nil) rfl rfl rfl (Nat.le_of_ble_eq_true rfl) (Nat.le_of_ble_eq_true rfl) ?_
  simp only [bX2_lose_5, bX2_lose_66, zRun_cons, zRun_nil, zLk, zSto, zIns, zFil, zf0, zf1, zf2, zf3, List.filter_cons, List.filter_nil, Nat.reduceAdd, Nat.reduceEqDiff, Nat.reduceLT, Nat.reduceLeDiff, Nat.reduceBEq, Nat.reduceBNe, reduceIte, if_true, if_false, Bool.false_and, Bool.true_and, Bool.and_true, Bool.and_false, Bool.not_false, Bool.not_true, Bool.false_eq_true, beq_self_eq_true, BEq.rfl, zCat1, zCat2, zCat3, zKdI, zKdL, zKdR, true_and, and_true, zSI, zSL, zSR, zu_at, and_self, and_false, false_and, lv_args, zKdZ, zKdO, zB01, zB11, Option.toList_none, Option.toList_some, List.nil_append, List.cons_append, true_or, or_true, zRow_rd, zu_rd, zo_aload_n, zo_getfield, zo_iload_n, zo_iaload, zo_iconst, zo_icmp_ne, zo_return_, zi_1, zKd_2_0, zKd_2_1, sh_10, rf_10_0, sh_11, sh_19, rf_19_0, sh_20, sh_28, rf_28_0, sh_29, zcl_1, rf_10_1, sh_12, rf_19_1, sh_21, rf_28_1, sh_30, zvi_1_40, zKn_s, zKn_0, zFind, (fsh_0 hB), (fsh_1 hB), (fsh_2 hB), (fsh_3 hB), (fsh_4 hB), (fsh_5 hB), (fsh_6 hB), (fsh_7 hB), (fsh_8 hB), (frf_0 hB), (frf_1 hB), (frf_2 hB), (frf_3 hB), (frf_4 hB), (frf_5 hB), (frf_6 hB), (frf_7 hB), Nat.add_left_cancel_iff, Nat.left_eq_add, Nat.add_eq_left, hv, nI_clamp (n := c) (by omega), hF1.v1 hc4, hF1.v2 hc4, zN10, zN01, not_true_eq_false, not_false_eq_true, false_implies, true_implies, implies_true, eq_self, nI_1, nI_40, nI_7, vz0, vz1, zb1_e0, zb1_n0]
  have hU1 : oUn c V 1 c = 1 ↔ (V 1 c = 1 ∨ V 1 c = 2) := by
    unfold oUn
    split
    · rename_i g; simp [zu_at, g]
    · rename_i g; simp [g]
  refine ⟨fun h => ?_, fun h => ?_⟩
  · have hn : ¬ (V 1 c = 1 ∨ V 1 c = 2) := fun g => h (hU1.mpr g)
    refine hQ I1 hk ?_
    rw [oLs, if_neg hn]
    rw [oUn, if_neg (fun g => hn (Or.inr g))] at hF1
    exact hF1
  have hfr := hU1.mp h
  obtain ⟨-, ⟨q0, h0, e2⟩, -⟩ := oOk_front hok1 hc4 (Or.inl h)
  have h05 : q0 < 5 := by omega
  have hv0 : vp_in (nI q0) 5 := zvn (by omega) (by omega)
  rw [e2]
  refine z_cS0 (M' := mX2_isPlace) (R' := rX2_isPlace) [.int (nI q0)] [] eX2_isPlace k2_92 (by decide +kernel : decode cX2_lose 21 = .ok (.invokestatic 92, 3)) (Nat.le_of_ble_eq_true rfl) ⟨Nat.le_of_ble_eq_true rfl, Nat.le_of_ble_eq_true rfl, Nat.le_of_ble_eq_true rfl, Nat.le_of_ble_eq_true rfl, Nat.le_of_ble_eq_true rfl⟩ rfl rfl rfl ?_
  refine cl_isPlace h05 ?_
  refine zBlkR (M := mX2_lose) (nL := 2) (rt := (Option.none : Option Jvm.ClassFile.FieldType)) (blk := bX2_lose_24) (T := [(66, bX2_lose_66)]) 1 hX2_lose_24 (zChks_cons hX2_lose_66 zChks_nil) rfl rfl rfl (Nat.le_of_ble_eq_true rfl) (Nat.le_of_ble_eq_true rfl) ?_
  simp only [bX2_lose_24, bX2_lose_66, zRun_cons, zRun_nil, zLk, zSto, zIns, zFil, zf0, zf1, zf2, zf3, List.filter_cons, List.filter_nil, Nat.reduceAdd, Nat.reduceEqDiff, Nat.reduceLT, Nat.reduceLeDiff, Nat.reduceBEq, Nat.reduceBNe, reduceIte, if_true, if_false, Bool.false_and, Bool.true_and, Bool.and_true, Bool.and_false, Bool.not_false, Bool.not_true, Bool.false_eq_true, beq_self_eq_true, BEq.rfl, zCat1, zCat2, zCat3, zKdI, zKdL, zKdR, true_and, and_true, zSI, zSL, zSR, zu_at, and_self, and_false, false_and, lv_args, zKdZ, zKdO, zB01, zB11, Option.toList_none, Option.toList_some, List.nil_append, List.cons_append, true_or, or_true, zRow_rd, zu_rd, zo_if_eq, zo_aload_n, zo_getfield, zo_iload_n, zo_iaload, zo_dup2, zo_dup2_2, zo_iconst, zo_isub, zo_iastore, zo_iadd, zo_return_, zi_1, zi_3, zi_m1, zi_5, zKd_2_5, zKd_2_1, zKd_2_0, zKd_2_7, sh_10, rf_10_5, sh_16, sh_19, rf_19_5, sh_25, sh_28, rf_28_5, sh_34, rf_10_1, sh_12, rf_19_1, sh_21, rf_28_1, sh_30, zcl_1, rf_10_0, sh_11, rf_19_0, sh_20, rf_28_0, sh_29, zcl_3, rf_10_7, sh_18, rf_19_7, sh_27, rf_28_7, sh_36, zcl_5, zvi_1_5, zvi_1_7, zvi_1_40, zvi_3_5, zvi_3_7, zvi_3_40, zvi_5_7, zvi_5_40, zKn_s, zKn_0, zFind, (fsh_0 hB), (fsh_1 hB), (fsh_2 hB), (fsh_3 hB), (fsh_4 hB), (fsh_5 hB), (fsh_6 hB), (fsh_7 hB), (fsh_8 hB), (frf_0 hB), (frf_1 hB), (frf_2 hB), (frf_3 hB), (frf_4 hB), (frf_5 hB), (frf_6 hB), (frf_7 hB), Nat.add_left_cancel_iff, Nat.left_eq_add, Nat.add_eq_left, hv, hv0, e2, nI_clamp (n := c) (by omega), nI_clamp (n := q0) (by omega), hF1.v2 hc4, zN10, zN01, not_true_eq_false, not_false_eq_true, false_implies, true_implies, implies_true, eq_self, nI_1, nI_40, nI_7, vz0, vz1, zb1_e0, zb1_n0]
  have hV' : oLs c V = zu (zu (zu (oUn c V) 1 c 3) 2 c (-1)) 8 5 (oUn c V 8 5 + 1) := by
    rw [oLs, if_pos hfr, oUn]
    funext i d
    rcases hfr with g | g
    · have := oOk_1 hok hc4 g
      simp only [zu_at, oLose_at, oOff_at, g]
      grind
    · simp only [zu_at, oLose_at, oOff_at, g, if_true]
      grind
  have g1 : ∀ d, d ≠ c → oLs c V 1 d = oUn c V 1 d := fun d hd => by rw [hV']; simp [zu_at, hd]
  have g2 : ∀ d, d ≠ c → oLs c V 2 d = oUn c V 2 d := fun d hd => by rw [hV']; simp [zu_at, hd]
  have g3 : oLs c V 1 c = 3 := by rw [hV']; simp [zu_at]
  refine hQ _ ?_ ⟨?_, ?_, fun q hq => ?_, fun q hq => ?_, ?_⟩
  · refine hk.trans ((((zKpt_rfl.u ?_).u ?_).u ?_).u ?_) <;> unfold zFB <;> omega
  · rw [vC_u8 (by omega), vCu2 hc4, vCu1 hc4, vCu6, hF1.1, hV', hF1.v8 (c := 5) (by omega)]
  · simp [zu_at]; exact hF1.2.1
  · simp [zu_at]; exact cnt_dn hF1.2.2.1 h05 (mv_out hc h05 h e2 g1 g2 (by rw [g3]; decide)) q hq
  · simp [zu_at]; exact cnt_no hF1.2.2.2.1 (mv_same hc (by rw [h]; decide) (by rw [g3]; decide) g1 g2) q hq
  · simp [zu_at]; rw [st_same hc (by rw [h]; decide) (by rw [g3]; decide) g1]; exact hF1.2.2.2.2
theorem oOk_stack (h : oOk ch np wm V) : oOk ch np wm (oStack c V) := by
  unfold oStack
  split
  · rename_i g
    refine oOk_of (c := c) h (fun i d h1 h2 h3 => ?_) (fun hc hk => ?_)
    · simp only [zu_at, h3, and_false, if_false]
    · simp only [zu_at, Nat.reduceEqDiff, false_and, if_false, if_true, true_and, and_self]
      rcases hk with ⟨q1, h2, h3, h4, h5⟩ | ⟨q1, h2, h3, h4, h5, h6⟩ | ⟨q1, h2, h3, h4, h5⟩ | ⟨q1, h2, h3, h4, h5⟩
      · rw [q1] at g; exact absurd g (by decide)
      · exact Or.inl ⟨rfl, rfl, h4, h5, h6⟩
      · rw [q1] at g; exact absurd g (by decide)
      · rw [q1] at g; exact absurd g (by decide)
  · exact h
theorem oOk_put (h : oOk ch np wm V) (hc : c < ch) (hq : q0 < np) : oOk ch np wm (oPutC q0 c V) := by
  unfold oPutC
  split
  · rename_i g
    refine oOk_of (c := c) h (fun i d h1 h2 h3 => ?_) (fun _ hk => ?_)
    · simp only [zu_at, h3, and_false, if_false]
    · simp only [zu_at, Nat.reduceEqDiff, false_and, if_false, if_true, true_and, and_self]
      rcases hk with ⟨q1, h2, h3, h4, h5⟩ | ⟨q1, h2, h3, h4, h5, h6⟩ | ⟨q1, h2, h3, h4, h5⟩ | ⟨q1, h2, h3, h4, h5⟩
      · exact Or.inr (Or.inl ⟨rfl, hc, ⟨q0, hq, rfl⟩, h3, h4, h5⟩)
      · rw [q1] at g; exact absurd g (by decide)
      · rw [q1] at g; exact absurd g (by decide)
      · rw [q1] at g; exact absurd g (by decide)
  · exact h
set_option maxRecDepth 20000 in
theorem cl_setStacked (hB : zBc B) (hc : c < ch) (hch : ch ≤ 40) (hnp : np ≤ 5) (hF : zFC B I ch V) (hok : oOk ch np wm V) (hQ : ∀ I', zKpt (zFB B) I I' → zFC B I' ch (oStack c V) → Q none (SH, I', L, RF p s r)) : zXM w mX2_setStacked rX2_setStacked [.ref B, .int (nI c)] (SH, I, L, RF p s r) Q := by
  unfold zXM
  have hc4 : c < 40 := by omega
  have hv : vp_in (nI c) 40 := zvn (by omega) (by omega)
  refine zBlkR (M := mX2_setStacked) (nL := 2) (rt := (Option.none : Option Jvm.ClassFile.FieldType)) (blk := bX2_setStacked_0) (T := [(61, bX2_setStacked_61)]) 1 hX2_setStacked_0 (zChks_cons hX2_setStacked_61 zChks_nil) rfl rfl rfl (Nat.le_of_ble_eq_true rfl) (Nat.le_of_ble_eq_true rfl) ?_
  simp only [bX2_setStacked_0, bX2_setStacked_61, zRun_cons, zRun_nil, zLk, zSto, zIns, zFil, zf0, zf1, zf2, zf3, List.filter_cons, List.filter_nil, Nat.reduceAdd, Nat.reduceEqDiff, Nat.reduceLT, Nat.reduceLeDiff, Nat.reduceBEq, Nat.reduceBNe, reduceIte, if_true, if_false, Bool.false_and, Bool.true_and, Bool.and_true, Bool.and_false, Bool.not_false, Bool.not_true, Bool.false_eq_true, beq_self_eq_true, BEq.rfl, zCat1, zCat2, zCat3, zKdI, zKdL, zKdR, true_and, and_true, zSI, zSL, zSR, zu_at, and_self, and_false, false_and, lv_args, zKdZ, zKdO, zB01, zB11, Option.toList_none, Option.toList_some, List.nil_append, List.cons_append, true_or, or_true, zRow_rd, zu_rd, zo_aload_n, zo_getfield, zo_iload_n, zo_iaload, zo_iconst, zo_icmp_ne, zo_return_, zi_1, zKd_2_0, zKd_2_1, sh_10, rf_10_0, sh_11, sh_19, rf_19_0, sh_20, sh_28, rf_28_0, sh_29, zcl_1, rf_10_1, sh_12, rf_19_1, sh_21, rf_28_1, sh_30, zvi_1_40, zKn_s, zKn_0, zFind, (fsh_0 hB), (fsh_1 hB), (fsh_2 hB), (fsh_3 hB), (fsh_4 hB), (fsh_5 hB), (fsh_6 hB), (fsh_7 hB), (fsh_8 hB), (frf_0 hB), (frf_1 hB), (frf_2 hB), (frf_3 hB), (frf_4 hB), (frf_5 hB), (frf_6 hB), (frf_7 hB), Nat.add_left_cancel_iff, Nat.left_eq_add, Nat.add_eq_left, hv, nI_clamp (n := c) (by omega), hF.v1 hc4, hF.v2 hc4, zN10, zN01, not_true_eq_false, not_false_eq_true, false_implies, true_implies, implies_true, eq_self, nI_1, nI_40, nI_7, vz0, vz1, zb1_e0, zb1_n0]
  refine ⟨fun h => ?_, fun h => ?_⟩
  · exact hQ I zKpt_rfl (by rw [oStack, if_neg h]; exact hF)
  obtain ⟨-, ⟨q0, h0, e2⟩, -⟩ := oOk_front hok hc4 (Or.inl h)
  have h05 : q0 < 5 := by omega
  have hv0 : vp_in (nI q0) 5 := zvn (by omega) (by omega)
  rw [e2]
  refine z_cS0 (M' := mX2_isPlace) (R' := rX2_isPlace) [.int (nI q0)] [] eX2_isPlace k2_92 (by decide +kernel : decode cX2_setStacked 16 = .ok (.invokestatic 92, 3)) (Nat.le_of_ble_eq_true rfl) ⟨Nat.le_of_ble_eq_true rfl, Nat.le_of_ble_eq_true rfl, Nat.le_of_ble_eq_true rfl, Nat.le_of_ble_eq_true rfl, Nat.le_of_ble_eq_true rfl⟩ rfl rfl rfl ?_
  refine cl_isPlace h05 ?_
  refine zBlkR (M := mX2_setStacked) (nL := 2) (rt := (Option.none : Option Jvm.ClassFile.FieldType)) (blk := bX2_setStacked_19) (T := [(61, bX2_setStacked_61)]) 1 hX2_setStacked_19 (zChks_cons hX2_setStacked_61 zChks_nil) rfl rfl rfl (Nat.le_of_ble_eq_true rfl) (Nat.le_of_ble_eq_true rfl) ?_
  simp only [bX2_setStacked_19, bX2_setStacked_61, zRun_cons, zRun_nil, zLk, zSto, zIns, zFil, zf0, zf1, zf2, zf3, List.filter_cons, List.filter_nil, Nat.reduceAdd, Nat.reduceEqDiff, Nat.reduceLT, Nat.reduceLeDiff, Nat.reduceBEq, Nat.reduceBNe, reduceIte, if_true, if_false, Bool.false_and, Bool.true_and, Bool.and_true, Bool.and_false, Bool.not_false, Bool.not_true, Bool.false_eq_true, beq_self_eq_true, BEq.rfl, zCat1, zCat2, zCat3, zKdI, zKdL, zKdR, true_and, and_true, zSI, zSL, zSR, zu_at, and_self, and_false, false_and, lv_args, zKdZ, zKdO, zB01, zB11, Option.toList_none, Option.toList_some, List.nil_append, List.cons_append, true_or, or_true, zRow_rd, zu_rd, zo_if_eq, zo_aload_n, zo_getfield, zo_iload_n, zo_iaload, zo_dup2, zo_dup2_2, zo_iconst, zo_isub, zo_iastore, zo_dup, zo_iadd, zo_putfield, zo_putfield_2, zo_putfield_3, zo_return_, zi_1, zi_0, zi_m1, zKd_2_5, zKd_2_1, zKd_2_9, zTy_2_9, zKd_2_0, sh_10, rf_10_5, sh_16, sh_19, rf_19_5, sh_25, sh_28, rf_28_5, sh_34, rf_10_1, sh_12, rf_19_1, sh_21, rf_28_1, sh_30, zcl_1, rf_10_0, sh_11, rf_19_0, sh_20, rf_28_0, sh_29, zcl_0, zvi_1_5, zvi_1_40, zvi_0_5, zvi_0_40, zPutC, zKn_s, zKn_0, zFind, (fsh_0 hB), (fsh_1 hB), (fsh_2 hB), (fsh_3 hB), (fsh_4 hB), (fsh_5 hB), (fsh_6 hB), (fsh_7 hB), (fsh_8 hB), (frf_0 hB), (frf_1 hB), (frf_2 hB), (frf_3 hB), (frf_4 hB), (frf_5 hB), (frf_6 hB), (frf_7 hB), Nat.add_left_cancel_iff, Nat.left_eq_add, Nat.add_eq_left, hv, hv0, e2, nI_clamp (n := c) (by omega), nI_clamp (n := q0) (by omega), hF.v2 hc4, zN10, zN01, not_true_eq_false, not_false_eq_true, false_implies, true_implies, implies_true, eq_self, nI_1, nI_40, nI_7, vz0, vz1, zb1_e0, zb1_n0]
  have hV' : oStack c V = zu (zu V 1 c 0) 2 c (-1) := by rw [oStack, if_pos h]
  have g1 : ∀ d, d ≠ c → oStack c V 1 d = V 1 d := fun d hd => by rw [hV']; simp [zu_at, hd]
  have g2 : ∀ d, d ≠ c → oStack c V 2 d = V 2 d := fun d hd => by rw [hV']; simp [zu_at, hd]
  have g3 : oStack c V 1 c = 0 := by rw [hV']; simp [zu_at]
  refine hQ _ ?_ ⟨?_, ?_, fun q hq => ?_, fun q hq => ?_, ?_⟩
  · refine (((zKpt_rfl.u ?_).u ?_).u ?_).u ?_ <;> unfold zFB <;> omega
  · rw [vCu2 hc4, vCu1 hc4, vCuB, vCu6, hF.1, hV']
  · simp [zu_at]; exact hF.2.1
  · simp [zu_at]; exact cnt_dn hF.2.2.1 h05 (mv_out hc h05 h e2 g1 g2 (by rw [g3]; decide)) q hq
  · simp [zu_at]; exact cnt_no hF.2.2.2.1 (mv_same hc (by rw [h]; decide) (by rw [g3]; decide) g1 g2) q hq
  · have hst := oStk_mv hc g1
    simp [h, g3] at hst
    simp [zu_at]; rw [hF.2.2.2.2, nI_1, hst]
set_option maxRecDepth 20000 in
theorem cl_setOut (hB : zBc B) (hc : c < ch) (hch : ch ≤ 40) (h05 : q0 < 5) (hF : zFC B I ch V) (hQ : ∀ I', zKpt (zFB B) I I' → zFC B I' ch (oPutC q0 c V) → Q none (SH, I', L, RF p s r)) : zXM w mX2_setOut rX2_setOut [.ref B, .int (nI c), .int (nI q0)] (SH, I, L, RF p s r) Q := by
  unfold zXM
  have hc4 : c < 40 := by omega
  have hv : vp_in (nI c) 40 := zvn (by omega) (by omega)
  refine zBlkR (M := mX2_setOut) (nL := 3) (rt := (Option.none : Option Jvm.ClassFile.FieldType)) (blk := bX2_setOut_0) (T := [(50, bX2_setOut_50)]) 1 hX2_setOut_0 (zChks_cons hX2_setOut_50 zChks_nil) rfl rfl rfl (Nat.le_of_ble_eq_true rfl) (Nat.le_of_ble_eq_true rfl) ?_
  simp only [bX2_setOut_0, bX2_setOut_50, zRun_cons, zRun_nil, zLk, zSto, zIns, zFil, zf0, zf1, zf2, zf3, List.filter_cons, List.filter_nil, Nat.reduceAdd, Nat.reduceEqDiff, Nat.reduceLT, Nat.reduceLeDiff, Nat.reduceBEq, Nat.reduceBNe, reduceIte, if_true, if_false, Bool.false_and, Bool.true_and, Bool.and_true, Bool.and_false, Bool.not_false, Bool.not_true, Bool.false_eq_true, beq_self_eq_true, BEq.rfl, zCat1, zCat2, zCat3, zKdI, zKdL, zKdR, true_and, and_true, zSI, zSL, zSR, zu_at, and_self, and_false, false_and, lv_args, zKdZ, zKdO, zB01, zB11, Option.toList_none, Option.toList_some, List.nil_append, List.cons_append, true_or, or_true, zRow_rd, zu_rd, zo_aload_n, zo_getfield, zo_iload_n, zo_iaload, zo_if_ne, zo_return_, zKd_2_0, sh_10, rf_10_0, sh_11, sh_19, rf_19_0, sh_20, sh_28, rf_28_0, sh_29, zKn_s, zKn_0, zFind, (fsh_0 hB), (fsh_1 hB), (fsh_2 hB), (fsh_3 hB), (fsh_4 hB), (fsh_5 hB), (fsh_6 hB), (fsh_7 hB), (fsh_8 hB), (frf_0 hB), (frf_1 hB), (frf_2 hB), (frf_3 hB), (frf_4 hB), (frf_5 hB), (frf_6 hB), (frf_7 hB), Nat.add_left_cancel_iff, Nat.left_eq_add, Nat.add_eq_left, hv, nI_clamp (n := c) (by omega), hF.v1 hc4, zN10, zN01, not_true_eq_false, not_false_eq_true, false_implies, true_implies, implies_true, eq_self, nI_1, nI_40, nI_7, vz0, vz1, zb1_e0, zb1_n0]
  refine ⟨fun h => ?_, fun h => ?_⟩
  · exact hQ I zKpt_rfl (by rw [oPutC, if_neg h]; exact hF)
  have hv0 : vp_in (nI q0) 5 := zvn (by omega) (by omega)
  refine z_cS0 (M' := mX2_isPlace) (R' := rX2_isPlace) [.int (nI q0)] [] eX2_isPlace k2_92 (by decide +kernel : decode cX2_setOut 10 = .ok (.invokestatic 92, 3)) (Nat.le_of_ble_eq_true rfl) ⟨Nat.le_of_ble_eq_true rfl, Nat.le_of_ble_eq_true rfl, Nat.le_of_ble_eq_true rfl, Nat.le_of_ble_eq_true rfl, Nat.le_of_ble_eq_true rfl⟩ rfl rfl rfl ?_
  refine cl_isPlace h05 ?_
  refine zBlkR (M := mX2_setOut) (nL := 3) (rt := (Option.none : Option Jvm.ClassFile.FieldType)) (blk := bX2_setOut_13) (T := [(50, bX2_setOut_50)]) 1 hX2_setOut_13 (zChks_cons hX2_setOut_50 zChks_nil) rfl rfl rfl (Nat.le_of_ble_eq_true rfl) (Nat.le_of_ble_eq_true rfl) ?_
  simp only [bX2_setOut_13, bX2_setOut_50, zRun_cons, zRun_nil, zLk, zSto, zIns, zFil, zf0, zf1, zf2, zf3, List.filter_cons, List.filter_nil, Nat.reduceAdd, Nat.reduceEqDiff, Nat.reduceLT, Nat.reduceLeDiff, Nat.reduceBEq, Nat.reduceBNe, reduceIte, if_true, if_false, Bool.false_and, Bool.true_and, Bool.and_true, Bool.and_false, Bool.not_false, Bool.not_true, Bool.false_eq_true, beq_self_eq_true, BEq.rfl, zCat1, zCat2, zCat3, zKdI, zKdL, zKdR, true_and, and_true, zSI, zSL, zSR, zu_at, and_self, and_false, false_and, lv_args, zKdZ, zKdO, zB01, zB11, Option.toList_none, Option.toList_some, List.nil_append, List.cons_append, true_or, or_true, zRow_rd, zu_rd, zo_if_eq, zo_aload_n, zo_getfield, zo_iload_n, zo_iconst, zo_iastore, zo_dup2, zo_dup2_2, zo_iaload, zo_iadd, zo_dup, zo_isub, zo_putfield, zo_putfield_2, zo_putfield_3, zo_return_, zi_1, zKd_2_0, zKd_2_1, zKd_2_5, zKd_2_9, zTy_2_9, sh_10, rf_10_0, sh_11, sh_19, rf_19_0, sh_20, sh_28, rf_28_0, sh_29, zcl_1, rf_10_1, sh_12, rf_19_1, sh_21, rf_28_1, sh_30, rf_10_5, sh_16, rf_19_5, sh_25, rf_28_5, sh_34, zvi_1_5, zvi_1_40, zPutC, zKn_s, zKn_0, zFind, (fsh_0 hB), (fsh_1 hB), (fsh_2 hB), (fsh_3 hB), (fsh_4 hB), (fsh_5 hB), (fsh_6 hB), (fsh_7 hB), (fsh_8 hB), (frf_0 hB), (frf_1 hB), (frf_2 hB), (frf_3 hB), (frf_4 hB), (frf_5 hB), (frf_6 hB), (frf_7 hB), Nat.add_left_cancel_iff, Nat.left_eq_add, Nat.add_eq_left, hv, hv0, nI_clamp (n := c) (by omega), nI_clamp (n := q0) (by omega), zN10, zN01, not_true_eq_false, not_false_eq_true, false_implies, true_implies, implies_true, eq_self, nI_1, nI_40, nI_7, vz0, vz1, zb1_e0, zb1_n0]
  have hV' : oPutC q0 c V = zu (zu V 1 c 1) 2 c (nI q0) := by rw [oPutC, if_pos h]
  have g1 : ∀ d, d ≠ c → oPutC q0 c V 1 d = V 1 d := fun d hd => by rw [hV']; simp [zu_at, hd]
  have g2 : ∀ d, d ≠ c → oPutC q0 c V 2 d = V 2 d := fun d hd => by rw [hV']; simp [zu_at, hd]
  have g3 : oPutC q0 c V 1 c = 1 := by rw [hV']; simp [zu_at]
  have g4 : oPutC q0 c V 2 c = nI q0 := by rw [hV']; simp [zu_at]
  refine hQ _ ?_ ⟨?_, ?_, fun q hq => ?_, fun q hq => ?_, ?_⟩
  · refine (((zKpt_rfl.u ?_).u ?_).u ?_).u ?_ <;> unfold zFB <;> omega
  · rw [vCuB, vCu6, vCu2 hc4, vCu1 hc4, hF.1, hV']
  · simp [zu_at]; exact hF.2.1
  · simp [zu_at]; exact cnt_up hF.2.2.1 h05 (mv_in hc h05 (by rw [h]; decide) g1 g2 g3 g4) q hq
  · simp [zu_at]; exact cnt_no hF.2.2.2.1 (mv_same hc (by rw [h]; decide) (by rw [g3]; decide) g1 g2) q hq
  · have hst := oStk_mv hc g1
    simp [h, g3] at hst
    simp [zu_at]; rw [hF.2.2.2.2, ← hst, nI_pred]
set_option maxRecDepth 20000 in
theorem cl_seatOne (hB : zBc B) (hch : ch ≤ 40) (h05 : q0 < 5) (hF : zFC B I ch V) (hok : oOk ch np wm V) (hf : zFst (oFree V q0) ch < ch) (hQ : ∀ I', zKpt (zFB B) I I' → zFC B I' ch (oSeat till (zFst (oFree V q0) ch) V) → Q none (SH, I', L, RF p s r)) : zXM w mX2_seatOne rX2_seatOne [.ref B, .int (nI q0), .int till] (SH, I, L, RF p s r) Q := by
  unfold zXM
  refine zBlkR (M := mX2_seatOne) (nL := 4) (rt := (Option.none : Option Jvm.ClassFile.FieldType)) (blk := bX2_seatOne_0) (T := []) 0 hX2_seatOne_0 zChks_nil rfl rfl rfl (Nat.le_of_ble_eq_true rfl) (Nat.le_of_ble_eq_true rfl) ?_
  simp only [bX2_seatOne_0, zRun_cons, zRun_nil, zLk, zSto, zIns, zFil, zf0, zf1, zf2, zf3, List.filter_cons, List.filter_nil, Nat.reduceAdd, Nat.reduceEqDiff, Nat.reduceLT, Nat.reduceLeDiff, Nat.reduceBEq, Nat.reduceBNe, reduceIte, if_true, if_false, Bool.false_and, Bool.true_and, Bool.and_true, Bool.and_false, Bool.not_false, Bool.not_true, Bool.false_eq_true, beq_self_eq_true, BEq.rfl, zCat1, zCat2, zCat3, zKdI, zKdL, zKdR, true_and, and_true, zSI, zSL, zSR, zu_at, and_self, and_false, false_and, lv_args, zKdZ, zKdO, zB01, zB11, Option.toList_none, Option.toList_some, List.nil_append, List.cons_append, true_or, or_true, zRow_rd, zu_rd, zo_iconst, zo_istore_n, zi_0, zcl_0, zKn_0, zN10, zN01, not_true_eq_false, not_false_eq_true, false_implies, true_implies, implies_true, eq_self, nI_1, nI_40, nI_7, vz0, vz1, zb1_e0, zb1_n0]
  have hv0 : vp_in (nI q0) 5 := zvn (by omega) (by omega)
  refine zLoop (n := zFst (oFree V q0) ch) (P := fun c => zX w mX2_seatOne rX2_seatOne Q 0 0 2 [(0, Value.ref B), (1, Value.int (nI q0)), (2, Value.int till), (3, Value.int (nI c))] [] (SH, I, L, RF p s r)) (fun c hc ih => ?_) 0 (Nat.zero_le _)
  have hcc : c < ch := by omega
  have hc4 : c < 40 := by omega
  have hv : vp_in (nI c) 40 := zvn (by omega) (by omega)
  refine zBlkR (M := mX2_seatOne) (nL := 4) (rt := (Option.none : Option Jvm.ClassFile.FieldType)) (blk := bX2_seatOne_2) (T := [(72, bX2_seatOne_72), (78, bX2_seatOne_78)]) 1 hX2_seatOne_2 (zChks_cons hX2_seatOne_72 (zChks_cons hX2_seatOne_78 zChks_nil)) rfl rfl rfl (Nat.le_of_ble_eq_true rfl) (Nat.le_of_ble_eq_true rfl) ?_
  simp only [bX2_seatOne_2, bX2_seatOne_72, bX2_seatOne_78, zRun_cons, zRun_nil, zLk, zSto, zIns, zFil, zf0, zf1, zf2, zf3, List.filter_cons, List.filter_nil, Nat.reduceAdd, Nat.reduceEqDiff, Nat.reduceLT, Nat.reduceLeDiff, Nat.reduceBEq, Nat.reduceBNe, reduceIte, if_true, if_false, Bool.false_and, Bool.true_and, Bool.and_true, Bool.and_false, Bool.not_false, Bool.not_true, Bool.false_eq_true, beq_self_eq_true, BEq.rfl, zCat1, zCat2, zCat3, zKdI, zKdL, zKdR, true_and, and_true, zSI, zSL, zSR, zu_at, and_self, and_false, false_and, lv_args, zKdZ, zKdO, zB01, zB11, Option.toList_none, Option.toList_some, List.nil_append, List.cons_append, true_or, or_true, zRow_rd, zu_rd, zo_iload_n, zo_aload_n, zo_getfield, zo_icmp_ge, zo_iaload, zo_iconst, zo_icmp_ne, zo_iinc, zo_goto, zo_return_, zi_1, zKd_2_8, zKd_2_0, zKd_2_1, sh_10, sh_19, sh_28, rf_10_0, sh_11, rf_19_0, sh_20, rf_28_0, sh_29, zcl_1, rf_10_1, sh_12, rf_19_1, sh_21, rf_28_1, sh_30, zvi_1_40, zKn_s, zKn_0, zFind, (fsh_0 hB), (fsh_1 hB), (fsh_2 hB), (fsh_3 hB), (fsh_4 hB), (fsh_5 hB), (fsh_6 hB), (fsh_7 hB), (fsh_8 hB), (frf_0 hB), (frf_1 hB), (frf_2 hB), (frf_3 hB), (frf_4 hB), (frf_5 hB), (frf_6 hB), (frf_7 hB), Nat.add_left_cancel_iff, Nat.left_eq_add, Nat.add_eq_left, hv, nI_clamp (n := c) (by omega), hF.v1 hc4, hF.v2 hc4, hF.2.1, zle_nat (a := ch) (b := c) (by omega) (by omega), zN10, zN01, not_true_eq_false, not_false_eq_true, false_implies, true_implies, implies_true, eq_self, nI_1, nI_40, nI_7, vz0, vz1, zb1_e0, zb1_n0]
  have hstep : ¬ (V 1 c = 1 ∧ V 2 c = nI q0) → c < zFst (oFree V q0) ch := by
    intro g
    rcases Nat.lt_or_ge c (zFst (oFree V q0) ch) with g2 | g2
    · exact g2
    · have e : c = zFst (oFree V q0) ch := by omega
      exact absurd (oFree_1 (zFst_lt hf)) (by rw [← e]; exact g)
  refine ⟨fun h => absurd h (by omega), fun _ => ⟨fun h1 => ih (hstep (fun g => h1 g.1)), fun h1 => ⟨fun h2 => ih (hstep (fun g => h2 g.2)), fun h2 => ?_⟩⟩⟩
  refine z_cS0 (M' := mX2_isPlace) (R' := rX2_isPlace) [.int (nI q0)] [] eX2_isPlace k2_92 (by decide +kernel : decode cX2_seatOne 31 = .ok (.invokestatic 92, 3)) (Nat.le_of_ble_eq_true rfl) ⟨Nat.le_of_ble_eq_true rfl, Nat.le_of_ble_eq_true rfl, Nat.le_of_ble_eq_true rfl, Nat.le_of_ble_eq_true rfl, Nat.le_of_ble_eq_true rfl⟩ rfl rfl rfl ?_
  refine cl_isPlace h05 ?_
  refine zBlkR (M := mX2_seatOne) (nL := 4) (rt := (Option.none : Option Jvm.ClassFile.FieldType)) (blk := bX2_seatOne_34) (T := [(72, bX2_seatOne_72)]) 1 hX2_seatOne_34 (zChks_cons hX2_seatOne_72 zChks_nil) rfl rfl rfl (Nat.le_of_ble_eq_true rfl) (Nat.le_of_ble_eq_true rfl) ?_
  simp only [bX2_seatOne_34, bX2_seatOne_72, zRun_cons, zRun_nil, zLk, zSto, zIns, zFil, zf0, zf1, zf2, zf3, List.filter_cons, List.filter_nil, Nat.reduceAdd, Nat.reduceEqDiff, Nat.reduceLT, Nat.reduceLeDiff, Nat.reduceBEq, Nat.reduceBNe, reduceIte, if_true, if_false, Bool.false_and, Bool.true_and, Bool.and_true, Bool.and_false, Bool.not_false, Bool.not_true, Bool.false_eq_true, beq_self_eq_true, BEq.rfl, zCat1, zCat2, zCat3, zKdI, zKdL, zKdR, true_and, and_true, zSI, zSL, zSR, zu_at, and_self, and_false, false_and, lv_args, zKdZ, zKdO, zB01, zB11, Option.toList_none, Option.toList_some, List.nil_append, List.cons_append, true_or, or_true, zRow_rd, zu_rd, zo_if_eq, zo_aload_n, zo_getfield, zo_iload_n, zo_iconst, zo_iastore, zo_dup2, zo_dup2_2, zo_iaload, zo_isub, zo_iadd, zo_return_, zo_iinc, zo_goto, zi_2, zi_1, zKd_2_0, zKd_2_3, zKd_2_5, zKd_2_6, sh_10, rf_10_0, sh_11, sh_19, rf_19_0, sh_20, sh_28, rf_28_0, sh_29, zcl_2, rf_10_3, sh_14, rf_19_3, sh_23, rf_28_3, sh_32, rf_10_5, sh_16, rf_19_5, sh_25, rf_28_5, sh_34, zcl_1, rf_10_6, sh_17, rf_19_6, sh_26, rf_28_6, sh_35, zvi_2_5, zvi_2_40, zvi_1_5, zvi_1_40, zKn_s, zKn_0, zFind, (fsh_0 hB), (fsh_1 hB), (fsh_2 hB), (fsh_3 hB), (fsh_4 hB), (fsh_5 hB), (fsh_6 hB), (fsh_7 hB), (fsh_8 hB), (frf_0 hB), (frf_1 hB), (frf_2 hB), (frf_3 hB), (frf_4 hB), (frf_5 hB), (frf_6 hB), (frf_7 hB), Nat.add_left_cancel_iff, Nat.left_eq_add, Nat.add_eq_left, hv, hv0, nI_clamp (n := c) (by omega), nI_clamp (n := q0) (by omega), zN10, zN01, not_true_eq_false, not_false_eq_true, false_implies, true_implies, implies_true, eq_self, nI_1, nI_40, nI_7, vz0, vz1, zb1_e0, zb1_n0]
  have e : zFst (oFree V q0) ch = c := by
    rcases Nat.lt_or_ge c (zFst (oFree V q0) ch) with g | g
    · have := zFst_no g
      simp [oFree, h1, h2] at this
    · omega
  rw [e] at hQ
  have hp := oOk_1 hok hc4 h1
  have g1 : ∀ d, d ≠ c → oSeat till c V 1 d = V 1 d := fun d hd => by simp [oSeat, zu_at, hd]
  have g2 : ∀ d, d ≠ c → oSeat till c V 2 d = V 2 d := fun d hd => by simp [oSeat, zu_at]
  have g3 : oSeat till c V 1 c = 2 := by simp [oSeat, zu_at]
  have g4 : oSeat till c V 2 c = nI q0 := by simp [oSeat, zu_at, h2]
  refine hQ _ ?_ ⟨?_, ?_, fun q hq => ?_, fun q hq => ?_, ?_⟩
  · refine (((zKpt_rfl.u ?_).u ?_).u ?_).u ?_ <;> unfold zFB <;> omega
  · rw [vCu7, vCu6, vCu4 hc4, vCu1 hc4, hF.1, oSeat]
    funext i d
    simp only [zu_at]
    grind
  · simp [zu_at]; exact hF.2.1
  · simp [zu_at]; exact cnt_dn hF.2.2.1 h05 (mv_out hcc h05 h1 h2 g1 g2 (by rw [g3]; decide)) q hq
  · simp [zu_at]; exact cnt_up hF.2.2.2.1 h05 (mv_in hcc h05 (by rw [h1]; decide) g1 g2 g3 g4) q hq
  · simp [zu_at]; rw [st_same hcc (by rw [h1]; decide) (by rw [g3]; decide) g1]; exact hF.2.2.2.2
end ZF62
