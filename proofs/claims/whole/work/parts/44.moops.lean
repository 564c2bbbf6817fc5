-- needs: 40a 42 43
/-! ===== ONE CHAIR ===== -/
/-- the sitter of the chair c goes -/
def oOff (c : Nat) (V : Nat → Nat → Int32) : Nat → Nat → Int32 := zu (zu (if V 1 c = 2 ∧ V 5 c = 0 then zu V 8 3 (V 8 3 + 1) else V) 5 c 0) 4 c (-1)
def oLose (c : Nat) (V : Nat → Nat → Int32) : Nat → Nat → Int32 := zu (zu (zu (oOff c V) 1 c 3) 2 c (-1)) 8 5 (oOff c V 8 5 + 1)
def oTide (hit : Int32 → Bool) (c : Nat) (V : Nat → Nat → Int32) : Nat → Nat → Int32 := if (V 1 c = 1 ∨ V 1 c = 2) ∧ hit (V 2 c) = true then oLose c V else V
def oWet (nw : Bool) (c : Nat) (V : Nat → Nat → Int32) : Nat → Nat → Int32 := zu V 3 c (V 3 c + zb1 (!nw))
def oRain (nw : Bool) (wm : Int32) (c : Nat) (V : Nat → Nat → Int32) : Nat → Nat → Int32 := if V 1 c = 1 ∨ V 1 c = 2 then (if V 3 c + zb1 (!nw) < wm then zu (oOff c (oWet nw c V)) 1 c 1 else zu (oLose c (oWet nw c V)) 8 6 (V 8 6 + 1)) else V
def oGo (t : Int32) (c : Nat) (V : Nat → Nat → Int32) : Nat → Nat → Int32 := if V 1 c = 2 ∧ V 4 c = t then zu (oOff c V) 1 c 1 else V
/-- again and again -/
def zIter {α : Type} (f : Nat → α → α) : Nat → α → α
  | 0, a => a
  | n + 1, a => f n (zIter f n a)
theorem zIter_ok {α : Type} {f : Nat → α → α} {P : α → Prop} (h : ∀ c a, P a → P (f c a)) : ∀ n a, P a → P (zIter f n a)
  | 0, _, ha => ha
  | n + 1, a, ha => h n _ (zIter_ok h n a ha)
theorem zIter_lt {α : Type} {f : Nat → α → α} {P : α → Prop} {N : Nat} (h : ∀ c a, c < N → P a → P (f c a)) : ∀ n a, n ≤ N → P a → P (zIter f n a)
  | 0, _, _, ha => ha
  | n + 1, a, hn, ha => h n _ (by omega) (zIter_lt h n a (by omega) ha)
/-- what a chair may be -/
def kOk (ch np : Nat) (wm : Int32) (c : Nat) (st wh we ti pa : Int32) : Prop :=
  (st = 0 ∧ wh = -1 ∧ ti = -1 ∧ pa = 0 ∧ we < wm) ∨ (st = 1 ∧ c < ch ∧ (∃ q, q < np ∧ wh = nI q) ∧ ti = -1 ∧ pa = 0 ∧ we < wm) ∨ (st = 2 ∧ c < ch ∧ (∃ q, q < np ∧ wh = nI q) ∧ (pa = 0 ∨ pa = 1) ∧ we < wm) ∨ (st = 3 ∧ c < ch ∧ wh = -1 ∧ ti = -1 ∧ pa = 0)
def oOk (ch np : Nat) (wm : Int32) (V : Nat → Nat → Int32) : Prop := ∀ c, c < 40 → kOk ch np wm c (V 1 c) (V 2 c) (V 3 c) (V 4 c) (V 5 c)
section ZOP
variable {V V' : Nat → Nat → Int32} {c d i ch np : Nat} {wm t : Int32} {hit : Int32 → Bool} {nw : Bool}
theorem oOff_at : oOff c V i d = if i = 4 ∧ d = c then -1 else if i = 5 ∧ d = c then 0 else if i = 8 ∧ d = 3 ∧ V 1 c = 2 ∧ V 5 c = 0 then V 8 3 + 1 else V i d := by
  unfold oOff
  rw [zu_at, zu_at]
  by_cases h : V 1 c = 2 ∧ V 5 c = 0
  · rw [if_pos h, zu_at]
    simp [h]
  · rw [if_neg h]
    have : ¬ (i = 8 ∧ d = 3 ∧ V 1 c = 2 ∧ V 5 c = 0) := fun q => h q.2.2
    rw [if_neg this]
theorem oLose_at : oLose c V i d = if i = 8 ∧ d = 5 then V 8 5 + 1 else if i = 2 ∧ d = c then -1 else if i = 1 ∧ d = c then 3 else oOff c V i d := by
  unfold oLose
  rw [zu_at, zu_at, zu_at]
  have : oOff c V 8 5 = V 8 5 := by rw [oOff_at]; simp
  rw [this]
theorem oWet_at : oWet nw c V i d = if i = 3 ∧ d = c then V 3 c + zb1 (!nw) else V i d := zu_at _ _ _ _ _ _
theorem oOk_of (h : oOk ch np wm V) (hd : ∀ i d, 1 ≤ i → i ≤ 5 → d ≠ c → V' i d = V i d) (hc : c < 40 → kOk ch np wm c (V 1 c) (V 2 c) (V 3 c) (V 4 c) (V 5 c) → kOk ch np wm c (V' 1 c) (V' 2 c) (V' 3 c) (V' 4 c) (V' 5 c)) : oOk ch np wm V' := by
  intro d hd40
  by_cases e : d = c
  · subst e; exact hc hd40 (h _ hd40)
  · rw [hd 1 d (by omega) (by omega) e, hd 2 d (by omega) (by omega) e, hd 3 d (by omega) (by omega) e, hd 4 d (by omega) (by omega) e, hd 5 d (by omega) (by omega) e]
    exact h d hd40
theorem oOk_off (h : oOk ch np wm V) : oOk ch np wm (oOff c V) := by
  refine oOk_of (c := c) h (fun i d h1 h2 h3 => ?_) (fun hc hk => ?_)
  · rw [oOff_at]
    simp only [h3, and_false, if_false]
    rw [if_neg (by omega)]
  · simp only [oOff_at]
    simp only [Nat.reduceEqDiff, false_and, if_false, if_true, true_and]
    rcases hk with ⟨h1, h2, h3, h4, h5⟩ | ⟨h1, h2, h3, h4, h5, h6⟩ | ⟨h1, h2, h3, h4, h5⟩ | ⟨h1, h2, h3, h4, h5⟩
    · exact Or.inl ⟨h1, h2, rfl, rfl, h5⟩
    · exact Or.inr (Or.inl ⟨h1, h2, h3, rfl, rfl, h6⟩)
    · exact Or.inr (Or.inr (Or.inl ⟨h1, h2, h3, Or.inl rfl, h5⟩))
    · exact Or.inr (Or.inr (Or.inr ⟨h1, h2, h3, rfl, rfl⟩))
theorem oOk_s8 (h : oOk ch np wm V) {k : Nat} {x : Int32} : oOk ch np wm (zu V 8 k x) := fun c hc => h c hc
theorem oOk_out (h : oOk ch np wm V) (h1 : V 1 c = 1 ∨ V 1 c = 2) : oOk ch np wm (zu (oOff c V) 1 c 1) := by
  refine oOk_of (c := c) h (fun i d h1 h2 h3 => ?_) (fun hc hk => ?_)
  · rw [zu_at, oOff_at]
    simp only [h3, and_false, if_false]
    rw [if_neg (by omega)]
  · simp only [zu_at, oOff_at, Nat.reduceEqDiff, false_and, if_false, if_true, true_and, and_self]
    rcases hk with ⟨q1, h2, h3, h4, h5⟩ | ⟨q1, h2, h3, h4, h5, h6⟩ | ⟨q1, h2, h3, h4, h5⟩ | ⟨q1, h2, h3, h4, h5⟩
    · rw [q1] at h1; exact absurd h1 (by decide)
    · exact Or.inr (Or.inl ⟨rfl, h2, h3, rfl, rfl, h6⟩)
    · exact Or.inr (Or.inl ⟨rfl, h2, h3, rfl, rfl, h5⟩)
    · rw [q1] at h1; exact absurd h1 (by decide)
theorem oOk_lose (h : ∀ d, d < 40 → d ≠ c → kOk ch np wm d (V 1 d) (V 2 d) (V 3 d) (V 4 d) (V 5 d)) (hch : c < ch) : oOk ch np wm (oLose c V) := by
  intro d hd
  by_cases e : d = c
  · subst e
    simp only [oLose_at, oOff_at, Nat.reduceEqDiff, false_and, if_false, if_true, true_and, and_self]
    exact Or.inr (Or.inr (Or.inr ⟨rfl, hch, rfl, rfl, rfl⟩))
  · simp only [oLose_at, oOff_at, Nat.reduceEqDiff, false_and, if_false, if_true, true_and, and_false, e]
    exact h d hd e
theorem oOk_front (h : oOk ch np wm V) (hc : c < 40) (h1 : V 1 c = 1 ∨ V 1 c = 2) : c < ch ∧ (∃ q, q < np ∧ V 2 c = nI q) ∧ V 3 c < wm := by
  rcases h c hc with ⟨q1, h2, h3, h4, h5⟩ | ⟨q1, h2, h3, h4, h5, h6⟩ | ⟨q1, h2, h3, h4, h5⟩ | ⟨q1, h2, h3, h4, h5⟩
  · rw [q1] at h1; exact absurd h1 (by decide)
  · exact ⟨h2, h3, h6⟩
  · exact ⟨h2, h3, h5⟩
  · rw [q1] at h1; exact absurd h1 (by decide)
theorem oOk_tide (hc : c < 40) (h : oOk ch np wm V) : oOk ch np wm (oTide hit c V) := by
  unfold oTide
  split
  · rename_i q
    exact oOk_lose (fun d hd _ => h d hd) (oOk_front h hc q.1).1
  · exact h
theorem oOk_go (h : oOk ch np wm V) : oOk ch np wm (oGo t c V) := by
  unfold oGo
  split
  · rename_i q
    exact oOk_out h (Or.inr q.1)
  · exact h
theorem oOk_wet (h : oOk ch np wm V) (hw : V 3 c + zb1 (!nw) < wm) : oOk ch np wm (oWet nw c V) := by
  refine oOk_of (c := c) h (fun i d h1 h2 h3 => ?_) (fun hc hk => ?_)
  · rw [oWet_at, if_neg (fun q => h3 q.2)]
  · simp only [oWet_at, Nat.reduceEqDiff, false_and, if_false, if_true, true_and, and_self]
    rcases hk with ⟨h1, h2, h3, h4, h5⟩ | ⟨h1, h2, h3, h4, h5, h6⟩ | ⟨h1, h2, h3, h4, h5⟩ | h1
    · exact Or.inl ⟨h1, h2, h3, h4, hw⟩
    · exact Or.inr (Or.inl ⟨h1, h2, h3, h4, h5, hw⟩)
    · exact Or.inr (Or.inr (Or.inl ⟨h1, h2, h3, h4, hw⟩))
    · exact Or.inr (Or.inr (Or.inr h1))
theorem oOk_rain (hc : c < 40) (h : oOk ch np wm V) : oOk ch np wm (oRain nw wm c V) := by
  unfold oRain
  split
  · rename_i q
    split
    · rename_i q2
      exact oOk_out (oOk_wet h q2) (by rw [oWet_at]; simpa using q)
    · refine oOk_s8 (oOk_lose (fun d hd e => ?_) (oOk_front h hc q).1)
      simp only [oWet_at, e, and_false, if_false]
      exact h d hd
  · exact h
end ZOP
section ZMO
variable {w : zP} {Q : Option Value → zMem → Prop} {I V : Nat → Nat → Int32} {L : Nat → Nat → Int64} {p s : Nat} {r : Option Nat} {b c ch np : Nat} {wm : Int32}
set_option maxRecDepth 20000 in
theorem mo_goesOff (hb : b < 2) (hc : c < 40) (hV : vR b I = V) (hQ : ∀ I', zKpt (zFR b) I I' → vR b I' = oOff c V → Q none (SH, I', L, RF p s r)) : zXM w mX10_goesOff rX10_goesOff [.ref 87, .int (nI b), .int (nI c)] (SH, I, L, RF p s r) Q := by
  unfold zXM
  refine zBlkR (M := mX10_goesOff) (nL := 3) (rt := (Option.none : Option Jvm.ClassFile.FieldType)) (blk := bX10_goesOff_0) (T := [(44, bX10_goesOff_44)]) 1 hX10_goesOff_0 (zChks_cons hX10_goesOff_44 zChks_nil) rfl rfl rfl (Nat.le_of_ble_eq_true rfl) (Nat.le_of_ble_eq_true rfl) ?_
  simp only [bX10_goesOff_0, bX10_goesOff_44, zRun_cons, zRun_nil, zLk, zSto, zIns, zFil, zf0, zf1, zf2, zf3, List.filter_cons, List.filter_nil, Nat.reduceAdd, Nat.reduceEqDiff, Nat.reduceLT, Nat.reduceLeDiff, Nat.reduceBEq, Nat.reduceBNe, reduceIte, if_true, if_false, Bool.false_and, Bool.true_and, Bool.and_true, Bool.and_false, Bool.not_false, Bool.not_true, Bool.false_eq_true, beq_self_eq_true, BEq.rfl, zCat1, zCat2, zCat3, zKdI, zKdL, zKdR, true_and, and_true, zSI, zSL, zSR, zu_at, and_self, and_false, false_and, lv_args, zKdZ, zKdO, zB01, zB11, Option.toList_none, Option.toList_some, List.nil_append, List.cons_append, true_or, or_true, zRow_rd, zu_rd, zo_aload_n, zo_getfield, zo_bipush, zo_iload_n, zo_imul, zo_iadd, zo_iaload, zo_iconst, zo_icmp_ne, zo_baload, zo_if_ne, zo_dup2, zo_dup2_2, zo_iastore, zo_bastore, zo_return_, zb_40, zi_2, zb_7, zi_3, zi_1, zi_0, zi_m1, zKd_10_57, zKd_10_61, zKd_10_62, zKd_10_60, sh_87, rf_87_57, sh_114, zcl_40, zcl_2, rf_87_61, sh_118, rf_87_62, sh_119, zcl_7, zcl_3, zcl_1, zcl_0, rf_87_60, sh_117, zvi_40_80, zvi_2_14, zvi_2_80, zvi_7_14, zvi_7_80, zvi_3_14, zvi_3_80, zvi_1_14, zvi_1_80, zvi_0_14, zvi_0_80, zKn_s, zKn_0, zFind, nI_40, nI_7, nI_1, vz0]
  have hv : vp_in (nI (40 * b + c)) 80 := zvn (by omega) (by omega)
  have hv2 : vp_in (nI (7 * b + 3)) 14 := zvn (by omega) (by omega)
  simp only [show (3 : Int32) = nI 3 from rfl, nI_7, nI_clamp (n := 40 * b + c) (by omega), nI_clamp (n := 7 * b + 3) (by omega), hv, hv2, true_and]
  have e1 : V 1 c = I 114 (40 * b + c) := by rw [← hV, vR_1 hc]
  have e5 : V 5 c = I 118 (40 * b + c) := by rw [← hV, vR_5 hc]
  have e8 : V 8 3 = I 119 (7 * b + 3) := by rw [← hV, vR_8 (by omega)]
  refine ⟨fun h => hQ _ ?_ ?_, fun h => ⟨fun h2 => hQ _ ?_ ?_, fun h2 => hQ _ ?_ ?_⟩⟩
  · exact (zKpt_rfl.u (by unfold zFR; omega)).u (by unfold zFR; omega)
  · simp only [vR_u4 hc, vR_u5 hc, hV, oOff, e1, h, false_and, if_false]
  · exact (zKpt_rfl.u (by unfold zFR; omega)).u (by unfold zFR; omega)
  · simp only [vR_u4 hc, vR_u5 hc, hV, oOff, e5, h2, and_false, if_false]
  · exact ((zKpt_rfl.u (by unfold zFR; omega)).u (by unfold zFR; omega)).u (by unfold zFR; omega)
  · simp only [vR_u4 hc, vR_u5 hc, vR_u8 (k := 3) (by omega), hV, oOff, e1, e5, e8, h, h2, and_self, if_true]
set_option maxRecDepth 20000 in
theorem mo_isFront (hb : b < 2) (hc : c < 40) (hV : vR b I = V) (hQ : Q (some (.int (if V 1 c = 1 ∨ V 1 c = 2 then 1 else 0))) (SH, I, L, RF p s r)) : zXM w mX10_isFront rX10_isFront [.ref 87, .int (nI b), .int (nI c)] (SH, I, L, RF p s r) Q := by
  unfold zXM
  refine zBlkR (M := mX10_isFront) (nL := 3) (rt := (Option.some .boolean)) (blk := bX10_isFront_0) (T := [(30, bX10_isFront_30), (34, bX10_isFront_34), (35, bX10_isFront_35)]) 2 hX10_isFront_0 (zChks_cons hX10_isFront_30 (zChks_cons hX10_isFront_34 (zChks_cons hX10_isFront_35 zChks_nil))) rfl rfl rfl (Nat.le_of_ble_eq_true rfl) (Nat.le_of_ble_eq_true rfl) ?_
  simp only [bX10_isFront_0, bX10_isFront_30, bX10_isFront_34, bX10_isFront_35, zRun_cons, zRun_nil, zLk, zSto, zIns, zFil, zf0, zf1, zf2, zf3, List.filter_cons, List.filter_nil, Nat.reduceAdd, Nat.reduceEqDiff, Nat.reduceLT, Nat.reduceLeDiff, Nat.reduceBEq, Nat.reduceBNe, reduceIte, if_true, if_false, Bool.false_and, Bool.true_and, Bool.and_true, Bool.and_false, Bool.not_false, Bool.not_true, Bool.false_eq_true, beq_self_eq_true, BEq.rfl, zCat1, zCat2, zCat3, zKdI, zKdL, zKdR, true_and, and_true, zSI, zSL, zSR, zu_at, and_self, and_false, false_and, lv_args, zKdZ, zKdO, zB01, zB11, Option.toList_none, Option.toList_some, List.nil_append, List.cons_append, true_or, or_true, zRow_rd, zu_rd, zo_aload_n, zo_getfield, zo_bipush, zo_iload_n, zo_imul, zo_iadd, zo_iaload, zo_iconst, zo_icmp_eq, zo_icmp_ne, zo_goto, zo_ireturn, zb_40, zi_1, zi_2, zi_0, zKd_10_57, sh_87, rf_87_57, sh_114, zcl_40, zcl_1, zcl_2, zcl_0, zvi_40_80, zvi_1_80, zvi_2_80, zvi_0_80, zRt, zKn_s, zKn_0, zFind, nI_40]
  rw [← hV, vR_1 hc] at hQ
  have hv : vp_in (nI (40 * b + c)) 80 := zvn (by omega) (by omega)
  simp only [nI_clamp (n := 40 * b + c) (by omega)]
  by_cases h1 : I 114 (40 * b + c) = 1 <;> by_cases h2 : I 114 (40 * b + c) = 2 <;> simp [h1, h2, hv] at hQ ⊢ <;> exact hQ
set_option maxRecDepth 20000 in
theorem mo_loses (hb : b < 2) (hc : c < 40) (hV : vR b I = V) (hQ : ∀ I', zKpt (zFR b) I I' → vR b I' = oLose c V → Q none (SH, I', L, RF p s r)) : zXM w mX10_loses rX10_loses [.ref 87, .int (nI b), .int (nI c)] (SH, I, L, RF p s r) Q := by
  unfold zXM
  refine zBlkR (M := mX10_loses) (nL := 3) (rt := (Option.none : Option Jvm.ClassFile.FieldType)) (blk := bX10_loses_0) (T := []) 0 hX10_loses_0 zChks_nil rfl rfl rfl (Nat.le_of_ble_eq_true rfl) (Nat.le_of_ble_eq_true rfl) ?_
  simp only [bX10_loses_0, zRun_cons, zRun_nil, zLk, zSto, zIns, zFil, zf0, zf1, zf2, zf3, List.filter_cons, List.filter_nil, Nat.reduceAdd, Nat.reduceEqDiff, Nat.reduceLT, Nat.reduceLeDiff, Nat.reduceBEq, Nat.reduceBNe, reduceIte, if_true, if_false, Bool.false_and, Bool.true_and, Bool.and_true, Bool.and_false, Bool.not_false, Bool.not_true, Bool.false_eq_true, beq_self_eq_true, BEq.rfl, zCat1, zCat2, zCat3, zKdI, zKdL, zKdR, true_and, and_true, zSI, zSL, zSR, zu_at, and_self, and_false, false_and, lv_args, zKdZ, zKdO, zB01, zB11, Option.toList_none, Option.toList_some, List.nil_append, List.cons_append, true_or, or_true, zRow_rd, zu_rd, zo_aload_n, zo_iload_n, zKn_0]
  refine z_cV0 (M' := mX10_goesOff) (R' := rX10_goesOff) (i := 87) [.int (nI b), .int (nI c)] [] eX10_goesOff k10_456 (by decide +kernel : decode cX10_loses 3 = .ok (.invokevirtual 456, 3)) (Nat.le_of_ble_eq_true rfl) ⟨Nat.le_of_ble_eq_true rfl, Nat.le_of_ble_eq_true rfl, Nat.le_of_ble_eq_true rfl, Nat.le_of_ble_eq_true rfl, Nat.le_of_ble_eq_true rfl⟩ rfl rfl rfl sh_87 ?_
  refine mo_goesOff hb hc hV (fun I1 hk h1 => ?_)
  refine zBlkR (M := mX10_loses) (nL := 3) (rt := (Option.none : Option Jvm.ClassFile.FieldType)) (blk := bX10_loses_6) (T := []) 0 hX10_loses_6 zChks_nil rfl rfl rfl (Nat.le_of_ble_eq_true rfl) (Nat.le_of_ble_eq_true rfl) ?_
  simp only [bX10_loses_6, zRun_cons, zRun_nil, zLk, zSto, zIns, zFil, zf0, zf1, zf2, zf3, List.filter_cons, List.filter_nil, Nat.reduceAdd, Nat.reduceEqDiff, Nat.reduceLT, Nat.reduceLeDiff, Nat.reduceBEq, Nat.reduceBNe, reduceIte, if_true, if_false, Bool.false_and, Bool.true_and, Bool.and_true, Bool.and_false, Bool.not_false, Bool.not_true, Bool.false_eq_true, beq_self_eq_true, BEq.rfl, zCat1, zCat2, zCat3, zKdI, zKdL, zKdR, true_and, and_true, zSI, zSL, zSR, zu_at, and_self, and_false, false_and, lv_args, zKdZ, zKdO, zB01, zB11, Option.toList_none, Option.toList_some, List.nil_append, List.cons_append, true_or, or_true, zRow_rd, zu_rd, zo_aload_n, zo_getfield, zo_bipush, zo_iload_n, zo_imul, zo_iadd, zo_iconst, zo_iastore, zo_dup2, zo_dup2_2, zo_iaload, zo_return_, zb_40, zi_3, zi_m1, zb_7, zi_5, zi_1, zKd_10_57, zKd_10_58, zKd_10_62, sh_87, rf_87_57, sh_114, zcl_40, zcl_3, rf_87_58, sh_115, rf_87_62, sh_119, zcl_7, zcl_5, zcl_1, zvi_40_80, zvi_3_14, zvi_3_80, zvi_7_14, zvi_7_80, zvi_5_14, zvi_5_80, zvi_1_14, zvi_1_80, zKn_0, nI_40, nI_7]
  have hv : vp_in (nI (40 * b + c)) 80 := zvn (by omega) (by omega)
  have hv2 : vp_in (nI (7 * b + 5)) 14 := zvn (by omega) (by omega)
  simp only [show (5 : Int32) = nI 5 from rfl, nI_7, nI_clamp (n := 40 * b + c) (by omega), nI_clamp (n := 7 * b + 5) (by omega), hv, hv2, true_and]
  refine hQ _ ?_ ?_
  · exact ((hk.u (by unfold zFR; omega)).u (by unfold zFR; omega)).u (by unfold zFR; omega)
  · have e8 : oOff c V 8 5 = I1 119 (7 * b + 5) := by rw [← h1, vR_8 (by omega)]
    simp only [vR_u1 hc, vR_u2 hc, vR_u8 (k := 5) (by omega), h1, oLose, e8]
set_option maxRecDepth 20000 in
theorem mo_tideOn {t : Nat} {hit : Int32 → Bool} (hb : b < 2) (hch : ch ≤ 40) (hnp : np ≤ 5) (hI : I 102 1 = nI ch) (hh : ∀ q, q < np → hit (nI q) = (!decide (I 93 q < 0) && !decide (nI t < I 93 q))) (hV : vR b I = V) (hok : oOk ch np wm V) (hQ : ∀ I', zKpt (zFR b) I I' → vR b I' = zIter (oTide hit) ch V → Q none (SH, I', L, RF p s r)) : zXM w mX10_tideOn rX10_tideOn [.ref 87, .int (nI b), .int (nI t)] (SH, I, L, RF p s r) Q := by
  unfold zXM
  refine zBlkR (M := mX10_tideOn) (nL := 5) (rt := (Option.none : Option Jvm.ClassFile.FieldType)) (blk := bX10_tideOn_0) (T := []) 0 hX10_tideOn_0 zChks_nil rfl rfl rfl (Nat.le_of_ble_eq_true rfl) (Nat.le_of_ble_eq_true rfl) ?_
  simp only [bX10_tideOn_0, zRun_cons, zRun_nil, zLk, zSto, zIns, zFil, zf0, zf1, zf2, zf3, List.filter_cons, List.filter_nil, Nat.reduceAdd, Nat.reduceEqDiff, Nat.reduceLT, Nat.reduceLeDiff, Nat.reduceBEq, Nat.reduceBNe, reduceIte, if_true, if_false, Bool.false_and, Bool.true_and, Bool.and_true, Bool.and_false, Bool.not_false, Bool.not_true, Bool.false_eq_true, beq_self_eq_true, BEq.rfl, zCat1, zCat2, zCat3, zKdI, zKdL, zKdR, true_and, and_true, zSI, zSL, zSR, zu_at, and_self, and_false, false_and, lv_args, zKdZ, zKdO, zB01, zB11, Option.toList_none, Option.toList_some, List.nil_append, List.cons_append, true_or, or_true, zRow_rd, zu_rd, zo_iconst, zo_istore_n, zi_0, zcl_0, zKn_0, zN10, zN01, not_true_eq_false, not_false_eq_true, false_implies, true_implies, implies_true, eq_self, nI_1, nI_40, nI_7, vz0, vz1, zb1_e0, zb1_n0]
  refine zLoop (n := ch) (P := fun c => ∀ J, zKpt (zFR b) I J → vR b J = zIter (oTide hit) c V → zX w mX10_tideOn rX10_tideOn Q 0 0 2 [(0, Value.ref 87), (1, Value.int (nI b)), (2, Value.int (nI t)), (3, Value.int (nI c))] [] (SH, J, L, RF p s r)) (fun c hc ih => ?_) 0 (Nat.zero_le _) I zKpt_rfl hV
  intro J hJ hVJ
  have hok2 : oOk ch np wm (zIter (oTide hit) c V) := zIter_lt (N := ch) (fun c a h1 h => oOk_tide (by omega) h) c V hc hok
  refine zBlkR (M := mX10_tideOn) (nL := 5) (rt := (Option.none : Option Jvm.ClassFile.FieldType)) (blk := bX10_tideOn_2) (T := [(70, bX10_tideOn_70)]) 1 hX10_tideOn_2 (zChks_cons hX10_tideOn_70 zChks_nil) rfl rfl rfl (Nat.le_of_ble_eq_true rfl) (Nat.le_of_ble_eq_true rfl) ?_
  simp only [bX10_tideOn_2, bX10_tideOn_70, zRun_cons, zRun_nil, zLk, zSto, zIns, zFil, zf0, zf1, zf2, zf3, List.filter_cons, List.filter_nil, Nat.reduceAdd, Nat.reduceEqDiff, Nat.reduceLT, Nat.reduceLeDiff, Nat.reduceBEq, Nat.reduceBNe, reduceIte, if_true, if_false, Bool.false_and, Bool.true_and, Bool.and_true, Bool.and_false, Bool.not_false, Bool.not_true, Bool.false_eq_true, beq_self_eq_true, BEq.rfl, zCat1, zCat2, zCat3, zKdI, zKdL, zKdR, true_and, and_true, zSI, zSL, zSR, zu_at, and_self, and_false, false_and, lv_args, zKdZ, zKdO, zB01, zB11, Option.toList_none, Option.toList_some, List.nil_append, List.cons_append, true_or, or_true, zRow_rd, zu_rd, zo_iload_n, zo_aload_n, zo_getfield, zo_iconst, zo_iaload, zo_icmp_ge, zo_return_, zi_1, zKd_10_36, sh_87, rf_87_36, sh_102, zcl_1, zvi_1_32, zKn_s, zKn_0, zFind, zN10, zN01, not_true_eq_false, not_false_eq_true, false_implies, true_implies, implies_true, eq_self, nI_1, nI_40, nI_7, vz0, vz1, zb1_e0, zb1_n0]
  simp only [hJ.R (i := 102) (k := 1) (by omega), hI, zle_nat (a := ch) (b := c) (by omega) (by omega)]
  refine ⟨fun h => ?_, fun h => ?_⟩
  · have : c = ch := by omega
    subst this
    exact hQ _ hJ hVJ
  have hc4 : c < 40 := by omega
  refine z_cV0 (M' := mX10_isFront) (R' := rX10_isFront) (i := 87) [.int (nI b), .int (nI c)] [] eX10_isFront k10_460 (by decide +kernel : decode cX10_tideOn 15 = .ok (.invokevirtual 460, 3)) (Nat.le_of_ble_eq_true rfl) ⟨Nat.le_of_ble_eq_true rfl, Nat.le_of_ble_eq_true rfl, Nat.le_of_ble_eq_true rfl, Nat.le_of_ble_eq_true rfl, Nat.le_of_ble_eq_true rfl⟩ rfl rfl rfl sh_87 ?_
  refine mo_isFront hb hc4 hVJ ?_
  by_cases hf : zIter (oTide hit) c V 1 c = 1 ∨ zIter (oTide hit) c V 1 c = 2
  · obtain ⟨-, ⟨q, hq, e2⟩, -⟩ := oOk_front hok2 hc4 hf
    simp only [if_pos hf]
    have e3 : J 115 (40 * b + c) = nI q := by rw [← e2, ← hVJ, vR_2 hc4]
    refine zBlkR (M := mX10_tideOn) (nL := 5) (rt := (Option.none : Option Jvm.ClassFile.FieldType)) (blk := bX10_tideOn_18) (T := [(24, bX10_tideOn_24), (64, bX10_tideOn_64)]) 2 hX10_tideOn_18 (zChks_cons hX10_tideOn_24 (zChks_cons hX10_tideOn_64 zChks_nil)) rfl rfl rfl (Nat.le_of_ble_eq_true rfl) (Nat.le_of_ble_eq_true rfl) ?_
    simp only [bX10_tideOn_18, bX10_tideOn_24, bX10_tideOn_64, zRun_cons, zRun_nil, zLk, zSto, zIns, zFil, zf0, zf1, zf2, zf3, List.filter_cons, List.filter_nil, Nat.reduceAdd, Nat.reduceEqDiff, Nat.reduceLT, Nat.reduceLeDiff, Nat.reduceBEq, Nat.reduceBNe, reduceIte, if_true, if_false, Bool.false_and, Bool.true_and, Bool.and_true, Bool.and_false, Bool.not_false, Bool.not_true, Bool.false_eq_true, beq_self_eq_true, BEq.rfl, zCat1, zCat2, zCat3, zKdI, zKdL, zKdR, true_and, and_true, zSI, zSL, zSR, zu_at, and_self, and_false, false_and, lv_args, zKdZ, zKdO, zB01, zB11, Option.toList_none, Option.toList_some, List.nil_append, List.cons_append, true_or, or_true, zRow_rd, zu_rd, zo_if_ne, zo_goto, zo_aload_n, zo_getfield, zo_bipush, zo_iload_n, zo_imul, zo_iadd, zo_iaload, zo_istore, zo_iload, zo_if_lt, zo_icmp_lt, zo_iinc, zb_40, zi_1, zKd_10_58, zKd_10_27, sh_87, rf_87_58, sh_115, zcl_40, rf_87_27, sh_93, zvi_40_80, zKn_s, zKn_0, zFind, zN10, zN01, not_true_eq_false, not_false_eq_true, false_implies, true_implies, implies_true, eq_self, nI_1, nI_40, nI_7, vz0, vz1, zb1_e0, zb1_n0]
    have hv : vp_in (nI (40 * b + c)) 80 := zvn (by omega) (by omega)
    have hv2 : vp_in (nI q) 10 := zvn (by omega) (by omega)
    simp only [nI_clamp (n := 40 * b + c) (by omega), hv, e3, hv2, true_and, nI_clamp (n := q) (by omega), hJ.R (i := 93) (k := q) (by omega)]
    refine ⟨fun h4 => ?_, fun h4 => ⟨fun h2 => ?_, fun h2 => ?_⟩⟩
    · refine zX.sub' (ih (by omega) J hJ ?_) (by simp)
      rw [hVJ, zIter, oTide, if_neg]
      rw [e2, hh q hq]; simp [h4]
    · refine zX.sub' (ih (by omega) J hJ ?_) (by simp)
      rw [hVJ, zIter, oTide, if_neg]
      rw [e2, hh q hq]; simp [h2]
    · refine z_cV0 (M' := mX10_loses) (R' := rX10_loses) (i := 87) [.int (nI b), .int (nI c)] [] eX10_loses k10_463 (by decide +kernel : decode cX10_tideOn 61 = .ok (.invokevirtual 463, 3)) (Nat.le_of_ble_eq_true rfl) ⟨Nat.le_of_ble_eq_true rfl, Nat.le_of_ble_eq_true rfl, Nat.le_of_ble_eq_true rfl, Nat.le_of_ble_eq_true rfl, Nat.le_of_ble_eq_true rfl⟩ rfl rfl rfl sh_87 ?_
      refine mo_loses hb hc4 hVJ (fun I1 hk h3 => ?_)
      refine zBlkR (M := mX10_tideOn) (nL := 5) (rt := (Option.none : Option Jvm.ClassFile.FieldType)) (blk := bX10_tideOn_64) (T := []) 0 hX10_tideOn_64 zChks_nil rfl rfl rfl (Nat.le_of_ble_eq_true rfl) (Nat.le_of_ble_eq_true rfl) ?_
      simp only [bX10_tideOn_64, zRun_cons, zRun_nil, zLk, zSto, zIns, zFil, zf0, zf1, zf2, zf3, List.filter_cons, List.filter_nil, Nat.reduceAdd, Nat.reduceEqDiff, Nat.reduceLT, Nat.reduceLeDiff, Nat.reduceBEq, Nat.reduceBNe, reduceIte, if_true, if_false, Bool.false_and, Bool.true_and, Bool.and_true, Bool.and_false, Bool.not_false, Bool.not_true, Bool.false_eq_true, beq_self_eq_true, BEq.rfl, zCat1, zCat2, zCat3, zKdI, zKdL, zKdR, true_and, and_true, zSI, zSL, zSR, zu_at, and_self, and_false, false_and, lv_args, zKdZ, zKdO, zB01, zB11, Option.toList_none, Option.toList_some, List.nil_append, List.cons_append, true_or, or_true, zRow_rd, zu_rd, zo_iinc, zo_goto, zi_1, zKn_0, zN10, zN01, not_true_eq_false, not_false_eq_true, false_implies, true_implies, implies_true, eq_self, nI_1, nI_40, nI_7, vz0, vz1, zb1_e0, zb1_n0]
      refine zX.sub' (ih (by omega) I1 (hJ.trans hk) ?_) (by simp)
      have hhit : hit (zIter (oTide hit) c V 2 c) = true := by rw [e2, hh q hq, decide_eq_false h4, decide_eq_false h2]; rfl
      rw [h3, zIter, oTide, if_pos ⟨hf, hhit⟩]
  · simp only [if_neg hf]
    refine zBlkR (M := mX10_tideOn) (nL := 5) (rt := (Option.none : Option Jvm.ClassFile.FieldType)) (blk := bX10_tideOn_18) (T := [(24, bX10_tideOn_24), (64, bX10_tideOn_64)]) 2 hX10_tideOn_18 (zChks_cons hX10_tideOn_24 (zChks_cons hX10_tideOn_64 zChks_nil)) rfl rfl rfl (Nat.le_of_ble_eq_true rfl) (Nat.le_of_ble_eq_true rfl) ?_
    simp only [bX10_tideOn_18, bX10_tideOn_24, bX10_tideOn_64, zRun_cons, zRun_nil, zLk, zSto, zIns, zFil, zf0, zf1, zf2, zf3, List.filter_cons, List.filter_nil, Nat.reduceAdd, Nat.reduceEqDiff, Nat.reduceLT, Nat.reduceLeDiff, Nat.reduceBEq, Nat.reduceBNe, reduceIte, if_true, if_false, Bool.false_and, Bool.true_and, Bool.and_true, Bool.and_false, Bool.not_false, Bool.not_true, Bool.false_eq_true, beq_self_eq_true, BEq.rfl, zCat1, zCat2, zCat3, zKdI, zKdL, zKdR, true_and, and_true, zSI, zSL, zSR, zu_at, and_self, and_false, false_and, lv_args, zKdZ, zKdO, zB01, zB11, Option.toList_none, Option.toList_some, List.nil_append, List.cons_append, true_or, or_true, zRow_rd, zu_rd, zo_if_ne, zo_goto, zo_aload_n, zo_getfield, zo_bipush, zo_iload_n, zo_imul, zo_iadd, zo_iaload, zo_istore, zo_iload, zo_if_lt, zo_icmp_lt, zo_iinc, zb_40, zi_1, zKd_10_58, zKd_10_27, sh_87, rf_87_58, sh_115, zcl_40, rf_87_27, sh_93, zvi_40_80, zKn_s, zKn_0, zFind, zN10, zN01, not_true_eq_false, not_false_eq_true, false_implies, true_implies, implies_true, eq_self, nI_1, nI_40, nI_7, vz0, vz1, zb1_e0, zb1_n0]
    refine ih (by omega) J hJ ?_
    rw [hVJ, zIter, oTide, if_neg (fun q => hf q.1)]
set_option maxRecDepth 20000 in
theorem mo_rainOn {nw : Bool} (hb : b < 2) (hch : ch ≤ 40) (hI : I 102 1 = nI ch) (h8 : I 102 8 = wm) (hnw : I 87 71 = zb1 nw) (hV : vR b I = V) (hQ : ∀ I', zKpt (zFR b) I I' → vR b I' = zIter (oRain nw wm) ch V → Q none (SH, I', L, RF p s r)) : zXM w mX10_rainOn rX10_rainOn [.ref 87, .int (nI b)] (SH, I, L, RF p s r) Q := by
  unfold zXM
  refine zBlkR (M := mX10_rainOn) (nL := 4) (rt := (Option.none : Option Jvm.ClassFile.FieldType)) (blk := bX10_rainOn_0) (T := []) 0 hX10_rainOn_0 zChks_nil rfl rfl rfl (Nat.le_of_ble_eq_true rfl) (Nat.le_of_ble_eq_true rfl) ?_
  simp only [bX10_rainOn_0, zRun_cons, zRun_nil, zLk, zSto, zIns, zFil, zf0, zf1, zf2, zf3, List.filter_cons, List.filter_nil, Nat.reduceAdd, Nat.reduceEqDiff, Nat.reduceLT, Nat.reduceLeDiff, Nat.reduceBEq, Nat.reduceBNe, reduceIte, if_true, if_false, Bool.false_and, Bool.true_and, Bool.and_true, Bool.and_false, Bool.not_false, Bool.not_true, Bool.false_eq_true, beq_self_eq_true, BEq.rfl, zCat1, zCat2, zCat3, zKdI, zKdL, zKdR, true_and, and_true, zSI, zSL, zSR, zu_at, and_self, and_false, false_and, lv_args, zKdZ, zKdO, zB01, zB11, Option.toList_none, Option.toList_some, List.nil_append, List.cons_append, true_or, or_true, zRow_rd, zu_rd, zo_iconst, zo_istore_n, zi_0, zcl_0, zKn_0, zN10, zN01, not_true_eq_false, not_false_eq_true, false_implies, true_implies, implies_true, eq_self, nI_1, nI_40, nI_7, vz0, vz1, zb1_e0, zb1_n0]
  refine zLoop (n := ch) (P := fun c => ∀ J, zKpt (zFR b) I J → vR b J = zIter (oRain nw wm) c V → zX w mX10_rainOn rX10_rainOn Q 0 0 2 [(0, Value.ref 87), (1, Value.int (nI b)), (2, Value.int (nI c))] [] (SH, J, L, RF p s r)) (fun c hc ih => ?_) 0 (Nat.zero_le _) I zKpt_rfl hV
  intro J hJ hVJ
  generalize hW : zIter (oRain nw wm) c V = W at *
  have ihW : zIter (oRain nw wm) (c + 1) V = oRain nw wm c W := by rw [zIter, hW]
  rw [ihW] at ih
  refine zBlkR (M := mX10_rainOn) (nL := 4) (rt := (Option.none : Option Jvm.ClassFile.FieldType)) (blk := bX10_rainOn_2) (T := [(112, bX10_rainOn_112)]) 1 hX10_rainOn_2 (zChks_cons hX10_rainOn_112 zChks_nil) rfl rfl rfl (Nat.le_of_ble_eq_true rfl) (Nat.le_of_ble_eq_true rfl) ?_
  simp only [bX10_rainOn_2, bX10_rainOn_112, zRun_cons, zRun_nil, zLk, zSto, zIns, zFil, zf0, zf1, zf2, zf3, List.filter_cons, List.filter_nil, Nat.reduceAdd, Nat.reduceEqDiff, Nat.reduceLT, Nat.reduceLeDiff, Nat.reduceBEq, Nat.reduceBNe, reduceIte, if_true, if_false, Bool.false_and, Bool.true_and, Bool.and_true, Bool.and_false, Bool.not_false, Bool.not_true, Bool.false_eq_true, beq_self_eq_true, BEq.rfl, zCat1, zCat2, zCat3, zKdI, zKdL, zKdR, true_and, and_true, zSI, zSL, zSR, zu_at, and_self, and_false, false_and, lv_args, zKdZ, zKdO, zB01, zB11, Option.toList_none, Option.toList_some, List.nil_append, List.cons_append, true_or, or_true, zRow_rd, zu_rd, zo_iload_n, zo_aload_n, zo_getfield, zo_iconst, zo_iaload, zo_icmp_ge, zo_return_, zi_1, zKd_10_36, sh_87, rf_87_36, sh_102, zcl_1, zvi_1_32, zKn_s, zKn_0, zFind, zN10, zN01, not_true_eq_false, not_false_eq_true, false_implies, true_implies, implies_true, eq_self, nI_1, nI_40, nI_7, vz0, vz1, zb1_e0, zb1_n0]
  simp only [hJ.R (i := 102) (k := 1) (by omega), hI, zle_nat (a := ch) (b := c) (by omega) (by omega)]
  refine ⟨fun h => ?_, fun h => ?_⟩
  · have : c = ch := by omega
    subst this
    exact hQ _ hJ (by rw [hVJ, hW])
  have hc4 : c < 40 := by omega
  refine z_cV0 (M' := mX10_isFront) (R' := rX10_isFront) (i := 87) [.int (nI b), .int (nI c)] [] eX10_isFront k10_460 (by decide +kernel : decode cX10_rainOn 15 = .ok (.invokevirtual 460, 3)) (Nat.le_of_ble_eq_true rfl) ⟨Nat.le_of_ble_eq_true rfl, Nat.le_of_ble_eq_true rfl, Nat.le_of_ble_eq_true rfl, Nat.le_of_ble_eq_true rfl, Nat.le_of_ble_eq_true rfl⟩ rfl rfl rfl sh_87 ?_
  refine mo_isFront hb hc4 hVJ ?_
  by_cases hf : W 1 c = 1 ∨ W 1 c = 2
  · simp only [if_pos hf]
    have e3 : J 116 (40 * b + c) = W 3 c := by rw [← hVJ, vR_3 hc4]
    refine zBlkR (M := mX10_rainOn) (nL := 4) (rt := (Option.none : Option Jvm.ClassFile.FieldType)) (blk := bX10_rainOn_18) (T := [(24, bX10_rainOn_24), (49, bX10_rainOn_49), (50, bX10_rainOn_50), (93, bX10_rainOn_93), (106, bX10_rainOn_106)]) 3 hX10_rainOn_18 (zChks_cons hX10_rainOn_24 (zChks_cons hX10_rainOn_49 (zChks_cons hX10_rainOn_50 (zChks_cons hX10_rainOn_93 (zChks_cons hX10_rainOn_106 zChks_nil))))) rfl rfl rfl (Nat.le_of_ble_eq_true rfl) (Nat.le_of_ble_eq_true rfl) ?_
    simp only [bX10_rainOn_18, bX10_rainOn_24, bX10_rainOn_49, bX10_rainOn_50, bX10_rainOn_93, bX10_rainOn_106, zRun_cons, zRun_nil, zLk, zSto, zIns, zFil, zf0, zf1, zf2, zf3, List.filter_cons, List.filter_nil, Nat.reduceAdd, Nat.reduceEqDiff, Nat.reduceLT, Nat.reduceLeDiff, Nat.reduceBEq, Nat.reduceBNe, reduceIte, if_true, if_false, Bool.false_and, Bool.true_and, Bool.and_true, Bool.and_false, Bool.not_false, Bool.not_true, Bool.false_eq_true, beq_self_eq_true, BEq.rfl, zCat1, zCat2, zCat3, zKdI, zKdL, zKdR, true_and, and_true, zSI, zSL, zSR, zu_at, and_self, and_false, false_and, lv_args, zKdZ, zKdO, zB01, zB11, Option.toList_none, Option.toList_some, List.nil_append, List.cons_append, true_or, or_true, zRow_rd, zu_rd, zo_if_ne, zo_goto, zo_bipush, zo_iload_n, zo_imul, zo_iadd, zo_istore_n, zo_aload_n, zo_getfield, zo_dup2, zo_dup2_2, zo_iaload, zo_if_eq, zo_iconst, zo_iastore, zo_icmp_lt, zo_iinc, zb_40, zi_0, zi_1, zb_8, zKd_10_59, zKd_10_71, zKd_10_36, zcl_40, sh_87, rf_87_59, sh_116, zcl_0, zcl_1, rf_87_36, sh_102, zcl_8, zvi_40_80, zvi_0_32, zvi_0_80, zvi_1_32, zvi_1_80, zvi_8_32, zvi_8_80, zKn_s, zKn_0, zFind, zN10, zN01, not_true_eq_false, not_false_eq_true, false_implies, true_implies, implies_true, eq_self, nI_1, nI_40, nI_7, vz0, vz1, zb1_e0, zb1_n0]
    have hv : vp_in (nI (40 * b + c)) 80 := zvn (by omega) (by omega)
    simp only [nI_clamp (n := 40 * b + c) (by omega), hv, e3, true_and, hJ.R (i := 102) (k := 8) (by omega), h8, hJ.R (i := 87) (k := 71) (by omega), hnw]
    have hk1 : zKpt (zFR b) I (zu J 116 (40 * b + c) (W 3 c + zb1 (!nw))) := hJ.u (by unfold zFR; omega)
    have hV1 : vR b (zu J 116 (40 * b + c) (W 3 c + zb1 (!nw))) = oWet nw c W := by rw [vR_u3 hc4, hVJ]; rfl
    have key1 : W 3 c + zb1 (!nw) < wm → zX w mX10_rainOn rX10_rainOn Q 0 0 96 [(0, Value.ref 87), (1, Value.int (nI b)), (2, Value.int (nI c)), (3, Value.int (nI (40 * b + c)))] [Value.int (nI c), Value.int (nI b), Value.ref 87] (SH, zu J 116 (40 * b + c) (W 3 c + zb1 (!nw)), L, RF p s r) := by
      intro h1
      refine z_cV0 (M' := mX10_goesOff) (R' := rX10_goesOff) (i := 87) [.int (nI b), .int (nI c)] [] eX10_goesOff k10_456 (by decide +kernel : decode cX10_rainOn 96 = .ok (.invokevirtual 456, 3)) (Nat.le_of_ble_eq_true rfl) ⟨Nat.le_of_ble_eq_true rfl, Nat.le_of_ble_eq_true rfl, Nat.le_of_ble_eq_true rfl, Nat.le_of_ble_eq_true rfl, Nat.le_of_ble_eq_true rfl⟩ rfl rfl rfl sh_87 ?_
      refine mo_goesOff hb hc4 hV1 (fun I1 hk h2 => ?_)
      refine zBlkR (M := mX10_rainOn) (nL := 4) (rt := (Option.none : Option Jvm.ClassFile.FieldType)) (blk := bX10_rainOn_99) (T := []) 0 hX10_rainOn_99 zChks_nil rfl rfl rfl (Nat.le_of_ble_eq_true rfl) (Nat.le_of_ble_eq_true rfl) ?_
      simp only [bX10_rainOn_99, zRun_cons, zRun_nil, zLk, zSto, zIns, zFil, zf0, zf1, zf2, zf3, List.filter_cons, List.filter_nil, Nat.reduceAdd, Nat.reduceEqDiff, Nat.reduceLT, Nat.reduceLeDiff, Nat.reduceBEq, Nat.reduceBNe, reduceIte, if_true, if_false, Bool.false_and, Bool.true_and, Bool.and_true, Bool.and_false, Bool.not_false, Bool.not_true, Bool.false_eq_true, beq_self_eq_true, BEq.rfl, zCat1, zCat2, zCat3, zKdI, zKdL, zKdR, true_and, and_true, zSI, zSL, zSR, zu_at, and_self, and_false, false_and, lv_args, zKdZ, zKdO, zB01, zB11, Option.toList_none, Option.toList_some, List.nil_append, List.cons_append, true_or, or_true, zRow_rd, zu_rd, zo_aload_n, zo_getfield, zo_iload_n, zo_iconst, zo_iastore, zo_iinc, zo_goto, zi_1, zKd_10_57, sh_87, rf_87_57, sh_114, zcl_1, zvi_1_80, zKn_0, zN10, zN01, not_true_eq_false, not_false_eq_true, false_implies, true_implies, implies_true, eq_self, nI_1, nI_40, nI_7, vz0, vz1, zb1_e0, zb1_n0]
      simp only [nI_clamp (n := 40 * b + c) (by omega), hv, true_and]
      refine zX.sub' (ih (by omega) _ ((hk1.trans hk).u (by unfold zFR; omega)) ?_) (by simp)
      rw [vR_u1 hc4, h2, oRain, if_pos hf, if_pos h1]
    have key2 : ¬ W 3 c + zb1 (!nw) < wm → zX w mX10_rainOn rX10_rainOn Q 0 0 71 [(0, Value.ref 87), (1, Value.int (nI b)), (2, Value.int (nI c)), (3, Value.int (nI (40 * b + c)))] [Value.int (nI c), Value.int (nI b), Value.ref 87] (SH, zu J 116 (40 * b + c) (W 3 c + zb1 (!nw)), L, RF p s r) := by
      intro h1
      refine z_cV0 (M' := mX10_loses) (R' := rX10_loses) (i := 87) [.int (nI b), .int (nI c)] [] eX10_loses k10_463 (by decide +kernel : decode cX10_rainOn 71 = .ok (.invokevirtual 463, 3)) (Nat.le_of_ble_eq_true rfl) ⟨Nat.le_of_ble_eq_true rfl, Nat.le_of_ble_eq_true rfl, Nat.le_of_ble_eq_true rfl, Nat.le_of_ble_eq_true rfl, Nat.le_of_ble_eq_true rfl⟩ rfl rfl rfl sh_87 ?_
      refine mo_loses hb hc4 hV1 (fun I1 hk h2 => ?_)
      refine zBlkR (M := mX10_rainOn) (nL := 4) (rt := (Option.none : Option Jvm.ClassFile.FieldType)) (blk := bX10_rainOn_74) (T := [(106, bX10_rainOn_106)]) 1 hX10_rainOn_74 (zChks_cons hX10_rainOn_106 zChks_nil) rfl rfl rfl (Nat.le_of_ble_eq_true rfl) (Nat.le_of_ble_eq_true rfl) ?_
      simp only [bX10_rainOn_74, bX10_rainOn_106, zRun_cons, zRun_nil, zLk, zSto, zIns, zFil, zf0, zf1, zf2, zf3, List.filter_cons, List.filter_nil, Nat.reduceAdd, Nat.reduceEqDiff, Nat.reduceLT, Nat.reduceLeDiff, Nat.reduceBEq, Nat.reduceBNe, reduceIte, if_true, if_false, Bool.false_and, Bool.true_and, Bool.and_true, Bool.and_false, Bool.not_false, Bool.not_true, Bool.false_eq_true, beq_self_eq_true, BEq.rfl, zCat1, zCat2, zCat3, zKdI, zKdL, zKdR, true_and, and_true, zSI, zSL, zSR, zu_at, and_self, and_false, false_and, lv_args, zKdZ, zKdO, zB01, zB11, Option.toList_none, Option.toList_some, List.nil_append, List.cons_append, true_or, or_true, zRow_rd, zu_rd, zo_aload_n, zo_getfield, zo_bipush, zo_iload_n, zo_imul, zo_iadd, zo_dup2, zo_dup2_2, zo_iaload, zo_iconst, zo_iastore, zo_goto, zo_iinc, zb_7, zb_6, zi_1, zKd_10_62, sh_87, rf_87_62, sh_119, zcl_7, zcl_6, zcl_1, zvi_7_14, zvi_6_14, zvi_1_14, zKn_s, zKn_0, zFind, zN10, zN01, not_true_eq_false, not_false_eq_true, false_implies, true_implies, implies_true, eq_self, nI_1, nI_40, nI_7, vz0, vz1, zb1_e0, zb1_n0]
      have hv2 : vp_in (nI (7 * b + 6)) 14 := zvn (by omega) (by omega)
      simp only [show (6 : Int32) = nI 6 from rfl, nI_7, nI_clamp (n := 7 * b + 6) (by omega), hv2, true_and]
      refine zX.sub' (ih (by omega) _ ((hk1.trans hk).u (by unfold zFR; omega)) ?_) (by simp)
      have e6 : I1 119 (7 * b + 6) = W 8 6 := by rw [← vR_8 (b := b) (I := I1) (c := 6) (by omega), h2, oLose_at, oOff_at]; simp [oWet_at]
      rw [vR_u8 (by omega), h2, oRain, if_pos hf, if_neg h1, e6]
    cases nw
    · simp only [zb1_e0, Bool.not_false, zb1_t, true_implies, false_implies, and_true, not_true_eq_false, Bool.true_eq_false, Bool.false_eq_true] at key1 key2 ⊢
      exact ⟨key1, key2⟩
    · simp only [zb1_e0, Bool.not_true, zb1_f, true_implies, false_implies, true_and, not_false_eq_true, Bool.true_eq_false] at key1 key2 ⊢
      exact ⟨key1, key2⟩
  · simp only [if_neg hf]
    refine zBlkR (M := mX10_rainOn) (nL := 4) (rt := (Option.none : Option Jvm.ClassFile.FieldType)) (blk := bX10_rainOn_18) (T := [(24, bX10_rainOn_24), (49, bX10_rainOn_49), (50, bX10_rainOn_50), (93, bX10_rainOn_93), (106, bX10_rainOn_106)]) 3 hX10_rainOn_18 (zChks_cons hX10_rainOn_24 (zChks_cons hX10_rainOn_49 (zChks_cons hX10_rainOn_50 (zChks_cons hX10_rainOn_93 (zChks_cons hX10_rainOn_106 zChks_nil))))) rfl rfl rfl (Nat.le_of_ble_eq_true rfl) (Nat.le_of_ble_eq_true rfl) ?_
    simp only [bX10_rainOn_18, bX10_rainOn_24, bX10_rainOn_49, bX10_rainOn_50, bX10_rainOn_93, bX10_rainOn_106, zRun_cons, zRun_nil, zLk, zSto, zIns, zFil, zf0, zf1, zf2, zf3, List.filter_cons, List.filter_nil, Nat.reduceAdd, Nat.reduceEqDiff, Nat.reduceLT, Nat.reduceLeDiff, Nat.reduceBEq, Nat.reduceBNe, reduceIte, if_true, if_false, Bool.false_and, Bool.true_and, Bool.and_true, Bool.and_false, Bool.not_false, Bool.not_true, Bool.false_eq_true, beq_self_eq_true, BEq.rfl, zCat1, zCat2, zCat3, zKdI, zKdL, zKdR, true_and, and_true, zSI, zSL, zSR, zu_at, and_self, and_false, false_and, lv_args, zKdZ, zKdO, zB01, zB11, Option.toList_none, Option.toList_some, List.nil_append, List.cons_append, true_or, or_true, zRow_rd, zu_rd, zo_if_ne, zo_goto, zo_bipush, zo_iload_n, zo_imul, zo_iadd, zo_istore_n, zo_aload_n, zo_getfield, zo_dup2, zo_dup2_2, zo_iaload, zo_if_eq, zo_iconst, zo_iastore, zo_icmp_lt, zo_iinc, zb_40, zi_0, zi_1, zb_8, zKd_10_59, zKd_10_71, zKd_10_36, zcl_40, sh_87, rf_87_59, sh_116, zcl_0, zcl_1, rf_87_36, sh_102, zcl_8, zvi_40_80, zvi_0_32, zvi_0_80, zvi_1_32, zvi_1_80, zvi_8_32, zvi_8_80, zKn_s, zKn_0, zFind, zN10, zN01, not_true_eq_false, not_false_eq_true, false_implies, true_implies, implies_true, eq_self, nI_1, nI_40, nI_7, vz0, vz1, zb1_e0, zb1_n0]
    refine ih (by omega) J hJ ?_
    rw [hVJ, oRain, if_neg hf]
set_option maxRecDepth 20000 in
theorem mo_goesOn {t : Int32} (hb : b < 2) (hch : ch ≤ 40) (hI : I 102 1 = nI ch) (hV : vR b I = V) (hQ : ∀ I', zKpt (zFR b) I I' → vR b I' = zIter (oGo t) ch V → Q none (SH, I', L, RF p s r)) : zXM w mX10_goesOn rX10_goesOn [.ref 87, .int (nI b), .int t] (SH, I, L, RF p s r) Q := by
  unfold zXM
  refine zBlkR (M := mX10_goesOn) (nL := 5) (rt := (Option.none : Option Jvm.ClassFile.FieldType)) (blk := bX10_goesOn_0) (T := []) 0 hX10_goesOn_0 zChks_nil rfl rfl rfl (Nat.le_of_ble_eq_true rfl) (Nat.le_of_ble_eq_true rfl) ?_
  simp only [bX10_goesOn_0, zRun_cons, zRun_nil, zLk, zSto, zIns, zFil, zf0, zf1, zf2, zf3, List.filter_cons, List.filter_nil, Nat.reduceAdd, Nat.reduceEqDiff, Nat.reduceLT, Nat.reduceLeDiff, Nat.reduceBEq, Nat.reduceBNe, reduceIte, if_true, if_false, Bool.false_and, Bool.true_and, Bool.and_true, Bool.and_false, Bool.not_false, Bool.not_true, Bool.false_eq_true, beq_self_eq_true, BEq.rfl, zCat1, zCat2, zCat3, zKdI, zKdL, zKdR, true_and, and_true, zSI, zSL, zSR, zu_at, and_self, and_false, false_and, lv_args, zKdZ, zKdO, zB01, zB11, Option.toList_none, Option.toList_some, List.nil_append, List.cons_append, true_or, or_true, zRow_rd, zu_rd, zo_iconst, zo_istore_n, zi_0, zcl_0, zKn_0, zN10, zN01, not_true_eq_false, not_false_eq_true, false_implies, true_implies, implies_true, eq_self, nI_1, nI_40, nI_7, vz0, vz1, zb1_e0, zb1_n0]
  refine zLoop (n := ch) (P := fun c => ∀ J, zKpt (zFR b) I J → vR b J = zIter (oGo t) c V → zX w mX10_goesOn rX10_goesOn Q 0 0 2 [(0, Value.ref 87), (1, Value.int (nI b)), (2, Value.int t), (3, Value.int (nI c))] [] (SH, J, L, RF p s r)) (fun c hc ih => ?_) 0 (Nat.zero_le _) I zKpt_rfl hV
  intro J hJ hVJ
  generalize hW : zIter (oGo t) c V = W at *
  have ihW : zIter (oGo t) (c + 1) V = oGo t c W := by rw [zIter, hW]
  rw [ihW] at ih
  refine zBlkR (M := mX10_goesOn) (nL := 5) (rt := (Option.none : Option Jvm.ClassFile.FieldType)) (blk := bX10_goesOn_2) (T := [(45, bX10_goesOn_45), (59, bX10_goesOn_59), (65, bX10_goesOn_65)]) 1 hX10_goesOn_2 (zChks_cons hX10_goesOn_45 (zChks_cons hX10_goesOn_59 (zChks_cons hX10_goesOn_65 zChks_nil))) rfl rfl rfl (Nat.le_of_ble_eq_true rfl) (Nat.le_of_ble_eq_true rfl) ?_
  simp only [bX10_goesOn_2, bX10_goesOn_45, bX10_goesOn_59, bX10_goesOn_65, zRun_cons, zRun_nil, zLk, zSto, zIns, zFil, zf0, zf1, zf2, zf3, List.filter_cons, List.filter_nil, Nat.reduceAdd, Nat.reduceEqDiff, Nat.reduceLT, Nat.reduceLeDiff, Nat.reduceBEq, Nat.reduceBNe, reduceIte, if_true, if_false, Bool.false_and, Bool.true_and, Bool.and_true, Bool.and_false, Bool.not_false, Bool.not_true, Bool.false_eq_true, beq_self_eq_true, BEq.rfl, zCat1, zCat2, zCat3, zKdI, zKdL, zKdR, true_and, and_true, zSI, zSL, zSR, zu_at, and_self, and_false, false_and, lv_args, zKdZ, zKdO, zB01, zB11, Option.toList_none, Option.toList_some, List.nil_append, List.cons_append, true_or, or_true, zRow_rd, zu_rd, zo_iload_n, zo_aload_n, zo_getfield, zo_iconst, zo_iaload, zo_icmp_ge, zo_bipush, zo_imul, zo_iadd, zo_istore, zo_iload, zo_icmp_ne, zo_icmp_eq, zo_goto, zo_iinc, zo_return_, zi_1, zb_40, zi_2, zKd_10_36, zKd_10_57, zKd_10_60, sh_87, rf_87_36, sh_102, zcl_1, zcl_40, rf_87_57, sh_114, zcl_2, rf_87_60, sh_117, zvi_1_32, zvi_1_80, zvi_40_80, zvi_2_32, zvi_2_80, zKn_s, zKn_0, zFind, zN10, zN01, not_true_eq_false, not_false_eq_true, false_implies, true_implies, implies_true, eq_self, nI_1, nI_40, nI_7, vz0, vz1, zb1_e0, zb1_n0]
  simp only [hJ.R (i := 102) (k := 1) (by omega), hI, zle_nat (a := ch) (b := c) (by omega) (by omega), nI_clamp (n := 40 * b + c) (by omega)]
  refine ⟨fun h => ?_, fun h => ?_⟩
  · have : c = ch := by omega
    subst this
    exact hQ _ hJ (by rw [hVJ, hW])
  have hc4 : c < 40 := by omega
  have hv : vp_in (nI (40 * b + c)) 80 := zvn (by omega) (by omega)
  have e1 : J 114 (40 * b + c) = W 1 c := by rw [← hVJ, vR_1 hc4]
  have e4 : J 117 (40 * b + c) = W 4 c := by rw [← hVJ, vR_4 hc4]
  simp only [hv, true_and, e1, e4]
  refine ⟨fun h1 => ?_, fun h1 => ⟨fun h2 => ?_, fun h2 => ?_⟩⟩
  · refine zX.sub' (ih (by omega) J hJ ?_) (by simp)
    rw [hVJ, oGo, if_neg (fun q => h1 q.1)]
  · refine z_cV0 (M' := mX10_goesOff) (R' := rX10_goesOff) (i := 87) [.int (nI b), .int (nI c)] [] eX10_goesOff k10_456 (by decide +kernel : decode cX10_goesOn 48 = .ok (.invokevirtual 456, 3)) (Nat.le_of_ble_eq_true rfl) ⟨Nat.le_of_ble_eq_true rfl, Nat.le_of_ble_eq_true rfl, Nat.le_of_ble_eq_true rfl, Nat.le_of_ble_eq_true rfl, Nat.le_of_ble_eq_true rfl⟩ rfl rfl rfl sh_87 ?_
    refine mo_goesOff hb hc4 hVJ (fun I1 hk h3 => ?_)
    refine zBlkR (M := mX10_goesOn) (nL := 5) (rt := (Option.none : Option Jvm.ClassFile.FieldType)) (blk := bX10_goesOn_51) (T := []) 0 hX10_goesOn_51 zChks_nil rfl rfl rfl (Nat.le_of_ble_eq_true rfl) (Nat.le_of_ble_eq_true rfl) ?_
    simp only [bX10_goesOn_51, zRun_cons, zRun_nil, zLk, zSto, zIns, zFil, zf0, zf1, zf2, zf3, List.filter_cons, List.filter_nil, Nat.reduceAdd, Nat.reduceEqDiff, Nat.reduceLT, Nat.reduceLeDiff, Nat.reduceBEq, Nat.reduceBNe, reduceIte, if_true, if_false, Bool.false_and, Bool.true_and, Bool.and_true, Bool.and_false, Bool.not_false, Bool.not_true, Bool.false_eq_true, beq_self_eq_true, BEq.rfl, zCat1, zCat2, zCat3, zKdI, zKdL, zKdR, true_and, and_true, zSI, zSL, zSR, zu_at, and_self, and_false, false_and, lv_args, zKdZ, zKdO, zB01, zB11, Option.toList_none, Option.toList_some, List.nil_append, List.cons_append, true_or, or_true, zRow_rd, zu_rd, zo_aload_n, zo_getfield, zo_iload, zo_iconst, zo_iastore, zo_iinc, zo_goto, zi_1, zKd_10_57, sh_87, rf_87_57, sh_114, zcl_1, zvi_1_80, zKn_0, zN10, zN01, not_true_eq_false, not_false_eq_true, false_implies, true_implies, implies_true, eq_self, nI_1, nI_40, nI_7, vz0, vz1, zb1_e0, zb1_n0]
    simp only [nI_clamp (n := 40 * b + c) (by omega), hv, true_and]
    refine zX.sub' (ih (by omega) _ ((hJ.trans hk).u (by unfold zFR; omega)) ?_) (by simp)
    rw [vR_u1 hc4, h3, oGo, if_pos ⟨h1, h2⟩]
  · refine zX.sub' (ih (by omega) J hJ ?_) (by simp)
    rw [hVJ, oGo, if_neg (fun q => h2 q.2)]
end ZMO
