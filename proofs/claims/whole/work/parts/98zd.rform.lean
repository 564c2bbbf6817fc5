/-! ===== TEXT: a formula in the reference ===== -/
def zStL (f : Nat → Int32) : List Nat → Prop
  | [] => True
  | k :: ws => f ws.length = nI k ∧ zStL f ws
def zFr0 (J : Nat → Nat → Int32) (S : oFm) : Prop := J 87 46 = nI S.1.length ∧ J 87 47 = nI S.2.1.length ∧ J 87 48 = nI (brk S.1) ∧ J 87 49 = nI S.2.2.2.2 ∧ J 87 23 = nI S.2.2.2.1 ∧ zStL (J 110) S.1 ∧ zStL (J 111) S.2.1 ∧ ∀ i, i < S.2.2.2.1 → J 107 (64 + i) = S.2.2.1 107 i ∧ J 108 (64 + i) = S.2.2.1 108 i ∧ J 109 (64 + i) = S.2.2.1 109 i
def zFr (J : Nat → Nat → Int32) (S : oFm) (wb : Bool) : Prop := zFr0 J S ∧ J 87 50 = zb1 wb ∧ (wb = true → J 87 51 = zb1 (decide (rkN (S.1.headD 0) ≤ 3)))
/-- what binding changes in the reference; what a formula does -/
def SFb (i k : Nat) : Prop := (i = 87 ∧ (k = 23 ∨ k = 46 ∨ k = 47)) ∨ (107 ≤ i ∧ i ≤ 109 ∧ 64 ≤ k) ∨ i = 110 ∨ i = 111
def SFr (i k : Nat) : Prop := (i = 87 ∧ (k = 23 ∨ (46 ≤ k ∧ k ≤ 51))) ∨ (107 ≤ i ∧ i ≤ 109 ∧ 64 ≤ k) ∨ i = 110 ∨ i = 111
section ZN98zd
variable {w : zP} {Q : Option Value → zMem → Prop} {μ : zMem} {I J J' : Nat → Nat → Int32} {L K : Nat → Nat → Int64} {p s : Nat} {r : Option Nat} {a b c i j k n h e m lo hi l F q : Nat} {x y v kd wh : Int32} {E : oEn} {t u : oTk} {D : oDf} {ws hd hd' : List Nat} {R R0 : Nat → Nat → Int32} {X : oFx} {S S' : oFm} {f g f' g' : Nat → Int32} {w' wb : Bool}
theorem SFb_r (h : SFb i k) : SFr i k := by unfold SFb at h; unfold SFr; omega
theorem SFr_p (h : SFr i k) : SPr i k := by unfold SFr at h; unfold SPr; omega
theorem zStL_c : ∀ {ws : List Nat}, zStL f ws → (∀ i, i < ws.length → f' i = f i) → zStL f' ws
  | [], _, _ => trivial
  | k :: ws, h, hc => ⟨by rw [hc ws.length (by simp)]; exact h.1, zStL_c h.2 (fun i hi => hc i (by rw [List.length_cons]; omega))⟩
theorem zRank_n : ∀ k, k ≤ 14 → zRank (nI k) = nI (rkN k) := by
  have h : ∀ k, k < 15 → zRank (nI k) = nI (rkN k) := by decide +kernel
  exact fun k hk => h k (by omega)
set_option maxRecDepth 20000 in
theorem mo_wtF (hn : n < 96) (h : J 87 46 = nI n) (hQ : Q none (SH, zTq (zu (zu J 110 n x) 87 46 (nI (n + 1))) t kd wh, L, RF p s r)) : zXM w mX10_waitsFor rX10_waitsFor [.ref 87, .int x] (SH, zTq J t kd wh, L, RF p s r) Q := by
  refine mo_waitsFor hn (by rw [zTq_k (by simp) (by simp) (by simp) (by simp)]; exact h) ?_
  rw [zTq_u (by simp), zTq_uk (by simp) (by simp) (by simp) (by simp)]
  exact hQ
set_option maxRecDepth 20000 in
theorem mo_drp (hn : n < 96) (h : J 87 47 = nI (n + 1)) (hQ : Q (some (.int (J 111 n))) (SH, zTq (zu J 87 47 (nI n)) t kd wh, L, RF p s r)) : zXM w mX10_dropHeld rX10_dropHeld [.ref 87] (SH, zTq J t kd wh, L, RF p s r) Q := by
  refine mo_dropHeld hn (by rw [zTq_k (by simp) (by simp) (by simp) (by simp)]; exact h) ?_
  rw [zTq_o (show (111 = 87) = False by simp), zTq_uk (by simp) (by simp) (by simp) (by simp)]
  exact hQ
set_option maxRecDepth 20000 in
theorem mo_grw {k' a' b' : Int32} (hn : n < 64) (hh : h < 96) (h1 : J 87 23 = nI n) (h2 : J 87 47 = nI h) (hQ : Q none (SH, zTq (zu (zu (zu (zu (zu (zu J 107 (64 + n) k') 108 (64 + n) a') 109 (64 + n) b') 111 h (nI n)) 87 47 (nI (h + 1))) 87 23 (nI (n + 1))) t kd wh, L, RF p s r)) : zXM w mX10_grown rX10_grown [.ref 87, .int k', .int a', .int b'] (SH, zTq J t kd wh, L, RF p s r) Q := by
  refine mo_grown hn hh (by rw [zTq_k (by simp) (by simp) (by simp) (by simp)]; exact h1) (by rw [zTq_k (by simp) (by simp) (by simp) (by simp)]; exact h2) ?_
  rw [zTq_u (by simp), zTq_u (by simp), zTq_u (by simp), zTq_u (by simp), zTq_uk (by simp) (by simp) (by simp) (by simp), zTq_uk (by simp) (by simp) (by simp) (by simp)]
  exact hQ
set_option maxRecDepth 20000 in
theorem mo_isCnt (hn : n ≤ 64) (h : J 87 49 = nI n) (h1 : n = 64 → Q (some (.int 0)) (SH, zTq (zu (zu J 87 4 2) 87 5 (nI (tAt t))) t kd wh, L, RF p s r)) (h2 : n < 64 → Q (some (.int 1)) (SH, zTq (zu J 87 49 (nI (n + 1))) t kd wh, L, RF p s r)) : zXM w mX10_isCounted rX10_isCounted [.ref 87] (SH, zTq J t kd wh, L, RF p s r) Q := by
  refine mo_isCounted ?_
  rw [zTq_k (show (49 = 7) = False by simp) (by simp) (by simp) (by simp), h]
  by_cases g : n = 64
  · rw [if_pos (by rw [g]; rfl), zTq_10, zTq_uk (by simp) (by simp) (by simp) (by simp), zTq_uk (by simp) (by simp) (by simp) (by simp)]
    exact h1 g
  · rw [if_neg (show ¬ nI n = 64 from fun q => g ((nI_eq (b := 64) (by omega) (by omega)).mp q)), nI_1, zTq_uk (by simp) (by simp) (by simp) (by simp)]
    exact h2 (by omega)
theorem zFr0_w (hk : k ≠ 0) (h : zFr0 J (k :: ws, X)) : zFr0 (zu J 87 46 (nI ws.length)) (ws, X) := by
  obtain ⟨h1, h2, h3, h4, h5, h6, h7, h8⟩ := h
  simp only [brk, hk, if_false, Nat.add_zero] at h3
  exact ⟨by simp [zu_at], by simp [zu_at]; exact h2, by simp [zu_at]; exact h3, by simp [zu_at]; exact h4, by simp [zu_at]; exact h5, zStL_c h6.2 (fun i hi => by simp [zu_at]), zStL_c h7 (fun i hi => by simp [zu_at]), fun i hi => by simp [zu_at]; exact h8 i hi⟩
theorem zFr0_h (h : zFr0 J (ws, q :: hd, R, n, c)) : zFr0 (zu J 87 47 (nI hd.length)) (ws, hd, R, n, c) ∧ J 111 hd.length = nI q := by
  obtain ⟨h1, h2, h3, h4, h5, h6, h7, h8⟩ := h
  exact ⟨⟨by simp [zu_at]; exact h1, by simp [zu_at], by simp [zu_at]; exact h3, by simp [zu_at]; exact h4, by simp [zu_at]; exact h5, zStL_c h6 (fun i hi => by simp [zu_at]), zStL_c h7.2 (fun i hi => by simp [zu_at]), fun i hi => by simp [zu_at]; exact h8 i hi⟩, h7.1⟩
theorem zFr0_g (h : zFr0 J (ws, hd, R, n, c)) : zFr0 (zu (zu (zu (zu (zu (zu J 107 (64 + n) (nI k)) 108 (64 + n) x) 109 (64 + n) y) 111 hd.length (nI n)) 87 47 (nI (hd.length + 1))) 87 23 (nI (n + 1))) (ws, n :: hd, fGr R n k x y, n + 1, c) := by
  obtain ⟨h1, h2, h3, h4, h5, h6, h7, h8⟩ := h
  refine ⟨by simp [zu_at]; exact h1, by simp [zu_at], by simp [zu_at]; exact h3, by simp [zu_at]; exact h4, by simp [zu_at], zStL_c h6 (fun i hi => by simp [zu_at]), ⟨by simp [zu_at], zStL_c h7 (fun i hi => ?_)⟩, fun i hi => ?_⟩
  · have : ¬ i = hd.length := by have : i < hd.length := hi; omega
    simp [zu_at, this]
  · simp only [fGr_107, fGr_108, fGr_109]
    by_cases e : i = n
    · subst e; simp [zu_at]
    · have h9 := h8 i (by simp only at hi ⊢; omega)
      have e2 : ¬ 64 + i = 64 + n := by omega
      simp [zu_at, e]
      exact h9
set_option maxRecDepth 20000 in
theorem mo_bindLoop (hl : 1 ≤ l) (hl7 : l ≤ 7) : ∀ (ws : List Nat) (X : oFx) (J : Nat → Nat → Int32), zFr0 J (ws, X) → FOk F R0 (ws, X) false → (∀ J', zKpt SFb J J' → zFr0 J' (fBind l ws X) → Q none (SH, zTq J' t kd wh, L, RF p s r)) → zX w mX10_bind rX10_bind Q 0 0 0 [(0, Value.ref 87), (1, Value.int (nI l))] [] (SH, zTq J t kd wh, L, RF p s r) := by
  intro ws
  induction ws with
  | nil =>
    intro X J hJ hS hQ
    have h46 : J 87 46 = 0 := hJ.1
    have z : ((0 : Int32) ≤ 0) = True := eq_true (by decide)
    refine zBlkR (M := mX10_bind) (nL := 5) (rt := (Option.none : Option Jvm.ClassFile.FieldType)) (blk := bX10_bind_0) (T := [(76, bX10_bind_76)]) 1 hX10_bind_0 (zChks_cons hX10_bind_76 zChks_nil) rfl rfl rfl (Nat.le_of_ble_eq_true rfl) (Nat.le_of_ble_eq_true rfl) ?_
    simp (implicitDefEqProofs := false) only [bX10_bind_0, bX10_bind_76, zRun_cons, zRun_nil, zLk, zSto, zIns, zFil, zf0, zf1, zf2, zf3, List.filter_cons, List.filter_nil, Nat.reduceAdd, Nat.reduceEqDiff, Nat.reduceLT, Nat.reduceLeDiff, Nat.reduceBEq, Nat.reduceBNe, reduceIte, if_true, if_false, Bool.false_and, Bool.true_and, Bool.and_true, Bool.and_false, Bool.not_false, Bool.not_true, Bool.false_eq_true, beq_self_eq_true, BEq.rfl, zCat1, zCat2, zCat3, zKdI, zKdL, zKdR, true_and, and_true, zSI, zSL, zSR, zu_at, and_self, and_false, false_and, lv_args, zKdZ, zKdO, zB01, zB11, Option.toList_none, Option.toList_some, List.nil_append, List.cons_append, true_or, or_true, zRow_rd, zu_rd, zo_aload_n, zo_getfield, zo_if_le, zo_iconst, zo_isub, zo_iaload, zo_return_, zi_1, zKd_10_46, zKd_10_44, sh_87, rf_87_44, sh_110, zcl_1, zvi_1_96, zKn_s, zKn_0, zFind, zTq_7, zTq_8, zTq_9, zTq_10, zTq_o, zTq_k, zTq_u, zTq_uk, h46, z, zN10, zN01, not_true_eq_false, not_false_eq_true, false_implies, true_implies, implies_true, eq_self, nI_1, nI_40, nI_7, vz0, vz1, zb1_e0, zb1_n0]
    exact hQ J zKpt_rfl hJ
  | cons k ws ih =>
    intro X J hJ hS hQ
    obtain ⟨l1, l2, l3⟩ := FOk_len hS
    simp only [List.length_cons] at l1 l2 l3
    have hk := hS.2.2.2.2.2.2.1 k List.mem_cons_self
    have hr := rkN_lt hk.2
    have h46 : J 87 46 = nI (ws.length + 1) := hJ.1
    have z1 : (nI (ws.length + 1) ≤ 0) = False := eq_false (by rw [show (0 : Int32) = nI 0 from rfl, zle_nat (by omega) (by omega)]; omega)
    have e1 : nI (ws.length + 1) - 1 = nI ws.length := by rw [← nI_1, Int32.add_sub_cancel]
    have hv : vp_in (nI ws.length) 96 := zvn (by omega) (by omega)
    have cl : (nI ws.length).toNatClampNeg = ws.length := nI_clamp (by omega)
    have h110 := hJ.2.2.2.2.2.1.1
    have z2 : (nI (rkN k) < nI l) = (rkN k < l) := zlt_nat (by omega) (by omega)
    unfold fBind at hQ
    refine zBlkR (M := mX10_bind) (nL := 5) (rt := (Option.none : Option Jvm.ClassFile.FieldType)) (blk := bX10_bind_0) (T := [(76, bX10_bind_76)]) 1 hX10_bind_0 (zChks_cons hX10_bind_76 zChks_nil) rfl rfl rfl (Nat.le_of_ble_eq_true rfl) (Nat.le_of_ble_eq_true rfl) ?_
    simp (implicitDefEqProofs := false) only [bX10_bind_0, bX10_bind_76, zRun_cons, zRun_nil, zLk, zSto, zIns, zFil, zf0, zf1, zf2, zf3, List.filter_cons, List.filter_nil, Nat.reduceAdd, Nat.reduceEqDiff, Nat.reduceLT, Nat.reduceLeDiff, Nat.reduceBEq, Nat.reduceBNe, reduceIte, if_true, if_false, Bool.false_and, Bool.true_and, Bool.and_true, Bool.and_false, Bool.not_false, Bool.not_true, Bool.false_eq_true, beq_self_eq_true, BEq.rfl, zCat1, zCat2, zCat3, zKdI, zKdL, zKdR, true_and, and_true, zSI, zSL, zSR, zu_at, and_self, and_false, false_and, lv_args, zKdZ, zKdO, zB01, zB11, Option.toList_none, Option.toList_some, List.nil_append, List.cons_append, true_or, or_true, zRow_rd, zu_rd, zo_aload_n, zo_getfield, zo_if_le, zo_iconst, zo_isub, zo_iaload, zo_return_, zi_1, zKd_10_46, zKd_10_44, sh_87, rf_87_44, sh_110, zcl_1, zvi_1_96, zKn_s, zKn_0, zFind, zTq_7, zTq_8, zTq_9, zTq_10, zTq_o, zTq_k, zTq_u, zTq_uk, h46, z1, e1, hv, cl, h110, zN10, zN01, not_true_eq_false, not_false_eq_true, false_implies, true_implies, implies_true, eq_self, nI_1, nI_40, nI_7, vz0, vz1, zb1_e0, zb1_n0]
    refine z_cS0 (M' := mX10_rank) (R' := rX10_rank) [.int (nI k)] [] eX10_rank k10_328 (by decide +kernel : decode cX10_bind 18 = .ok (.invokestatic 328, 3)) (Nat.le_of_ble_eq_true rfl) ⟨Nat.le_of_ble_eq_true rfl, Nat.le_of_ble_eq_true rfl, Nat.le_of_ble_eq_true rfl, Nat.le_of_ble_eq_true rfl, Nat.le_of_ble_eq_true rfl⟩ rfl rfl rfl ?_
    refine mo_rank ?_
    rw [zRank_n k hk.2]
    by_cases hb : l ≤ rkN k
    · have hb' : (rkN k < l) = False := eq_false (by omega)
      rw [if_pos hb] at hQ
      have k0 : k ≠ 0 := fun e => by subst e; have : rkN 0 = 0 := rfl; omega
      have hP := fPop_ok k0 hS
      obtain ⟨hd, R, n, c⟩ := X
      have hn : n < 64 := by
        have := hS.1; have h2 := hS.2.1
        simp only [nbk, k0, if_false] at this h2; omega
      have hlen := hS.2.2.2.2.2.1
      have hbn := bin_le ws
      have hw := zFr0_w k0 hJ
      have kw : zKpt SFb J (zu J 87 46 (nI ws.length)) := zKpt_rfl.u (by unfold SFb; omega)
      have y2 : (nI k = 2) = (k = 2) := zeq_nat (b := 2) (by omega) (by omega)
      simp only [nbk, k0, if_false] at l3
      by_cases k2 : k = 2
      · have k2' : (k = 2) = True := eq_true k2
        have hlen' : hd.length = bin ws + 1 := by subst k2; simpa [bin] using hlen
        match hd, hlen', hw, hS, hJ, hP with
        | q :: s1, hlen', hw, hS, hJ, hP =>
          obtain ⟨hh, hq⟩ := zFr0_h hw
          have hls : s1.length < 96 := by simp at hlen'; omega
          refine zBlkR (M := mX10_bind) (nL := 5) (rt := (Option.none : Option Jvm.ClassFile.FieldType)) (blk := bX10_bind_21) (T := [(54, bX10_bind_54), (58, bX10_bind_58), (76, bX10_bind_76)]) 1 hX10_bind_21 (zChks_cons hX10_bind_54 (zChks_cons hX10_bind_58 (zChks_cons hX10_bind_76 zChks_nil))) rfl rfl rfl (Nat.le_of_ble_eq_true rfl) (Nat.le_of_ble_eq_true rfl) ?_
          simp (implicitDefEqProofs := false) only [bX10_bind_21, bX10_bind_54, bX10_bind_58, bX10_bind_76, zRun_cons, zRun_nil, zLk, zSto, zIns, zFil, zf0, zf1, zf2, zf3, List.filter_cons, List.filter_nil, Nat.reduceAdd, Nat.reduceEqDiff, Nat.reduceLT, Nat.reduceLeDiff, Nat.reduceBEq, Nat.reduceBNe, reduceIte, if_true, if_false, Bool.false_and, Bool.true_and, Bool.and_true, Bool.and_false, Bool.not_false, Bool.not_true, Bool.false_eq_true, beq_self_eq_true, BEq.rfl, zCat1, zCat2, zCat3, zKdI, zKdL, zKdR, true_and, and_true, zSI, zSL, zSR, zu_at, and_self, and_false, false_and, lv_args, zKdZ, zKdO, zB01, zB11, Option.toList_none, Option.toList_some, List.nil_append, List.cons_append, true_or, or_true, zRow_rd, zu_rd, zo_iload_n, zo_icmp_lt, zo_aload_n, zo_dup, zo_getfield, zo_iconst, zo_isub, zo_putfield, zo_putfield_2, zo_putfield_3, zo_iaload, zo_istore_n, zo_icmp_ne, zo_goto, zo_return_, zi_1, zi_2, zi_m1, zKd_10_46, zTy_10_46, zKd_10_44, sh_87, zcl_1, rf_87_44, sh_110, zcl_2, zvi_1_96, zvi_2_96, zPutC, zKn_s, zKn_0, zFind, z2, hb', zTq_7, zTq_8, zTq_9, zTq_10, zTq_o, zTq_k, zTq_u, zTq_uk, h46, e1, hv, cl, h110, y2, k2', zN10, zN01, not_true_eq_false, not_false_eq_true, false_implies, true_implies, implies_true, eq_self, nI_1, nI_40, nI_7, vz0, vz1, zb1_e0, zb1_n0]
          refine z_cV0 (M' := mX10_dropHeld) (R' := rX10_dropHeld) (i := 87) [] [] eX10_dropHeld k10_332 (by decide +kernel : decode cX10_bind 60 = .ok (.invokevirtual 332, 3)) (Nat.le_of_ble_eq_true rfl) ⟨Nat.le_of_ble_eq_true rfl, Nat.le_of_ble_eq_true rfl, Nat.le_of_ble_eq_true rfl, Nat.le_of_ble_eq_true rfl, Nat.le_of_ble_eq_true rfl⟩ rfl rfl rfl sh_87 ?_
          refine mo_drp (n := s1.length) hls hw.2.1 ?_
          rw [hq]
          refine zBlkR (M := mX10_bind) (nL := 5) (rt := (Option.none : Option Jvm.ClassFile.FieldType)) (blk := bX10_bind_63) (T := []) 0 hX10_bind_63 zChks_nil rfl rfl rfl (Nat.le_of_ble_eq_true rfl) (Nat.le_of_ble_eq_true rfl) ?_
          simp (implicitDefEqProofs := false) only [bX10_bind_63, zRun_cons, zRun_nil, zLk, zSto, zIns, zFil, zf0, zf1, zf2, zf3, List.filter_cons, List.filter_nil, Nat.reduceAdd, Nat.reduceEqDiff, Nat.reduceLT, Nat.reduceLeDiff, Nat.reduceBEq, Nat.reduceBNe, reduceIte, if_true, if_false, Bool.false_and, Bool.true_and, Bool.and_true, Bool.and_false, Bool.not_false, Bool.not_true, Bool.false_eq_true, beq_self_eq_true, BEq.rfl, zCat1, zCat2, zCat3, zKdI, zKdL, zKdR, true_and, and_true, zSI, zSL, zSR, zu_at, and_self, and_false, false_and, lv_args, zKdZ, zKdO, zB01, zB11, Option.toList_none, Option.toList_some, List.nil_append, List.cons_append, true_or, or_true, zRow_rd, zu_rd, zo_istore, zo_aload_n, zo_iload_n, zo_iload, zKn_0, zN10, zN01, not_true_eq_false, not_false_eq_true, false_implies, true_implies, implies_true, eq_self, nI_1, nI_40, nI_7, vz0, vz1, zb1_e0, zb1_n0]
          refine z_cV0 (M' := mX10_grown) (R' := rX10_grown) (i := 87) [.int (nI k), .int (nI q), .int (-1)] [] eX10_grown k10_336 (by decide +kernel : decode cX10_bind 70 = .ok (.invokevirtual 336, 3)) (Nat.le_of_ble_eq_true rfl) ⟨Nat.le_of_ble_eq_true rfl, Nat.le_of_ble_eq_true rfl, Nat.le_of_ble_eq_true rfl, Nat.le_of_ble_eq_true rfl, Nat.le_of_ble_eq_true rfl⟩ rfl rfl rfl sh_87 ?_
          refine mo_grw (n := n) (h := s1.length) hn hls hh.2.2.2.2.1 hh.2.1 ?_
          have hgr := zFr0_g (k := k) (x := nI q) (y := -1) hh
          have ep : fPop k (q :: s1, R, n, c) = (n :: s1, fGr R n k (nI q) (-1), n + 1, c) := by unfold fPop; rw [if_pos k2, k2]; rfl
          rw [ep] at hQ hP
          refine zBlkR (M := mX10_bind) (nL := 5) (rt := (Option.none : Option Jvm.ClassFile.FieldType)) (blk := bX10_bind_73) (T := []) 0 hX10_bind_73 zChks_nil rfl rfl rfl (Nat.le_of_ble_eq_true rfl) (Nat.le_of_ble_eq_true rfl) ?_
          simp (implicitDefEqProofs := false) only [bX10_bind_73, zRun_cons, zRun_nil, zLk, zSto, zIns, zFil, zf0, zf1, zf2, zf3, List.filter_cons, List.filter_nil, Nat.reduceAdd, Nat.reduceEqDiff, Nat.reduceLT, Nat.reduceLeDiff, Nat.reduceBEq, Nat.reduceBNe, reduceIte, if_true, if_false, Bool.false_and, Bool.true_and, Bool.and_true, Bool.and_false, Bool.not_false, Bool.not_true, Bool.false_eq_true, beq_self_eq_true, BEq.rfl, zCat1, zCat2, zCat3, zKdI, zKdL, zKdR, true_and, and_true, zSI, zSL, zSR, zu_at, and_self, and_false, false_and, lv_args, zKdZ, zKdO, zB01, zB11, Option.toList_none, Option.toList_some, List.nil_append, List.cons_append, true_or, or_true, zRow_rd, zu_rd, zo_goto, zKn_0, zN10, zN01, not_true_eq_false, not_false_eq_true, false_implies, true_implies, implies_true, eq_self, nI_1, nI_40, nI_7, vz0, vz1, zb1_e0, zb1_n0]
          refine zX.sub' (ih _ _ hgr hP (fun J' kJ' hJ' => hQ J' (((((((((kw.u (by unfold SFb; omega)).u (by unfold SFb; omega)).u (by unfold SFb; omega)).u (by unfold SFb; omega)).u (by unfold SFb; omega)).u (by unfold SFb; omega)).u (by unfold SFb; omega)).trans kJ')) hJ')) (by simp)
      · have k2' : (k = 2) = False := eq_false k2
        have k3 : 3 ≤ k := by omega
        have hlen' : hd.length = bin ws + 2 := by simpa [bin, k3] using hlen
        match hd, hlen', hw, hS, hJ, hP with
        | q :: q2 :: s1, hlen', hw, hS, hJ, hP =>
          obtain ⟨hh, hq⟩ := zFr0_h hw
          obtain ⟨hh2, hq2⟩ := zFr0_h hh
          simp only [List.length_cons] at hh hq hh2 hq2
          have hls : s1.length + 1 < 96 := by simp at hlen'; omega
          refine zBlkR (M := mX10_bind) (nL := 5) (rt := (Option.none : Option Jvm.ClassFile.FieldType)) (blk := bX10_bind_21) (T := [(54, bX10_bind_54), (58, bX10_bind_58), (76, bX10_bind_76)]) 1 hX10_bind_21 (zChks_cons hX10_bind_54 (zChks_cons hX10_bind_58 (zChks_cons hX10_bind_76 zChks_nil))) rfl rfl rfl (Nat.le_of_ble_eq_true rfl) (Nat.le_of_ble_eq_true rfl) ?_
          simp (implicitDefEqProofs := false) only [bX10_bind_21, bX10_bind_54, bX10_bind_58, bX10_bind_76, zRun_cons, zRun_nil, zLk, zSto, zIns, zFil, zf0, zf1, zf2, zf3, List.filter_cons, List.filter_nil, Nat.reduceAdd, Nat.reduceEqDiff, Nat.reduceLT, Nat.reduceLeDiff, Nat.reduceBEq, Nat.reduceBNe, reduceIte, if_true, if_false, Bool.false_and, Bool.true_and, Bool.and_true, Bool.and_false, Bool.not_false, Bool.not_true, Bool.false_eq_true, beq_self_eq_true, BEq.rfl, zCat1, zCat2, zCat3, zKdI, zKdL, zKdR, true_and, and_true, zSI, zSL, zSR, zu_at, and_self, and_false, false_and, lv_args, zKdZ, zKdO, zB01, zB11, Option.toList_none, Option.toList_some, List.nil_append, List.cons_append, true_or, or_true, zRow_rd, zu_rd, zo_iload_n, zo_icmp_lt, zo_aload_n, zo_dup, zo_getfield, zo_iconst, zo_isub, zo_putfield, zo_putfield_2, zo_putfield_3, zo_iaload, zo_istore_n, zo_icmp_ne, zo_goto, zo_return_, zi_1, zi_2, zi_m1, zKd_10_46, zTy_10_46, zKd_10_44, sh_87, zcl_1, rf_87_44, sh_110, zcl_2, zvi_1_96, zvi_2_96, zPutC, zKn_s, zKn_0, zFind, z2, hb', zTq_7, zTq_8, zTq_9, zTq_10, zTq_o, zTq_k, zTq_u, zTq_uk, h46, e1, hv, cl, h110, y2, k2', zN10, zN01, not_true_eq_false, not_false_eq_true, false_implies, true_implies, implies_true, eq_self, nI_1, nI_40, nI_7, vz0, vz1, zb1_e0, zb1_n0]
          refine z_cV0 (M' := mX10_dropHeld) (R' := rX10_dropHeld) (i := 87) [] [] eX10_dropHeld k10_332 (by decide +kernel : decode cX10_bind 55 = .ok (.invokevirtual 332, 3)) (Nat.le_of_ble_eq_true rfl) ⟨Nat.le_of_ble_eq_true rfl, Nat.le_of_ble_eq_true rfl, Nat.le_of_ble_eq_true rfl, Nat.le_of_ble_eq_true rfl, Nat.le_of_ble_eq_true rfl⟩ rfl rfl rfl sh_87 ?_
          refine mo_drp (n := s1.length + 1) hls hw.2.1 ?_
          rw [show zu J 87 46 (nI ws.length) 111 (s1.length + 1) = nI q from hq]
          refine zBlkR (M := mX10_bind) (nL := 5) (rt := (Option.none : Option Jvm.ClassFile.FieldType)) (blk := bX10_bind_58) (T := []) 0 hX10_bind_58 zChks_nil rfl rfl rfl (Nat.le_of_ble_eq_true rfl) (Nat.le_of_ble_eq_true rfl) ?_
          simp (implicitDefEqProofs := false) only [bX10_bind_58, zRun_cons, zRun_nil, zLk, zSto, zIns, zFil, zf0, zf1, zf2, zf3, List.filter_cons, List.filter_nil, Nat.reduceAdd, Nat.reduceEqDiff, Nat.reduceLT, Nat.reduceLeDiff, Nat.reduceBEq, Nat.reduceBNe, reduceIte, if_true, if_false, Bool.false_and, Bool.true_and, Bool.and_true, Bool.and_false, Bool.not_false, Bool.not_true, Bool.false_eq_true, beq_self_eq_true, BEq.rfl, zCat1, zCat2, zCat3, zKdI, zKdL, zKdR, true_and, and_true, zSI, zSL, zSR, zu_at, and_self, and_false, false_and, lv_args, zKdZ, zKdO, zB01, zB11, Option.toList_none, Option.toList_some, List.nil_append, List.cons_append, true_or, or_true, zRow_rd, zu_rd, zo_istore_n, zo_aload_n, zKn_0, zN10, zN01, not_true_eq_false, not_false_eq_true, false_implies, true_implies, implies_true, eq_self, nI_1, nI_40, nI_7, vz0, vz1, zb1_e0, zb1_n0]
          refine z_cV0 (M' := mX10_dropHeld) (R' := rX10_dropHeld) (i := 87) [] [] eX10_dropHeld k10_332 (by decide +kernel : decode cX10_bind 60 = .ok (.invokevirtual 332, 3)) (Nat.le_of_ble_eq_true rfl) ⟨Nat.le_of_ble_eq_true rfl, Nat.le_of_ble_eq_true rfl, Nat.le_of_ble_eq_true rfl, Nat.le_of_ble_eq_true rfl, Nat.le_of_ble_eq_true rfl⟩ rfl rfl rfl sh_87 ?_
          refine mo_drp (n := s1.length) (by omega) hh.2.1 ?_
          rw [hq2]
          refine zBlkR (M := mX10_bind) (nL := 5) (rt := (Option.none : Option Jvm.ClassFile.FieldType)) (blk := bX10_bind_63) (T := []) 0 hX10_bind_63 zChks_nil rfl rfl rfl (Nat.le_of_ble_eq_true rfl) (Nat.le_of_ble_eq_true rfl) ?_
          simp (implicitDefEqProofs := false) only [bX10_bind_63, zRun_cons, zRun_nil, zLk, zSto, zIns, zFil, zf0, zf1, zf2, zf3, List.filter_cons, List.filter_nil, Nat.reduceAdd, Nat.reduceEqDiff, Nat.reduceLT, Nat.reduceLeDiff, Nat.reduceBEq, Nat.reduceBNe, reduceIte, if_true, if_false, Bool.false_and, Bool.true_and, Bool.and_true, Bool.and_false, Bool.not_false, Bool.not_true, Bool.false_eq_true, beq_self_eq_true, BEq.rfl, zCat1, zCat2, zCat3, zKdI, zKdL, zKdR, true_and, and_true, zSI, zSL, zSR, zu_at, and_self, and_false, false_and, lv_args, zKdZ, zKdO, zB01, zB11, Option.toList_none, Option.toList_some, List.nil_append, List.cons_append, true_or, or_true, zRow_rd, zu_rd, zo_istore, zo_aload_n, zo_iload_n, zo_iload, zKn_0, zN10, zN01, not_true_eq_false, not_false_eq_true, false_implies, true_implies, implies_true, eq_self, nI_1, nI_40, nI_7, vz0, vz1, zb1_e0, zb1_n0]
          refine z_cV0 (M' := mX10_grown) (R' := rX10_grown) (i := 87) [.int (nI k), .int (nI q2), .int (nI q)] [] eX10_grown k10_336 (by decide +kernel : decode cX10_bind 70 = .ok (.invokevirtual 336, 3)) (Nat.le_of_ble_eq_true rfl) ⟨Nat.le_of_ble_eq_true rfl, Nat.le_of_ble_eq_true rfl, Nat.le_of_ble_eq_true rfl, Nat.le_of_ble_eq_true rfl, Nat.le_of_ble_eq_true rfl⟩ rfl rfl rfl sh_87 ?_
          refine mo_grw (n := n) (h := s1.length) hn (by omega) hh2.2.2.2.2.1 hh2.2.1 ?_
          have hgr := zFr0_g (k := k) (x := nI q2) (y := nI q) hh2
          have ep : fPop k (q :: q2 :: s1, R, n, c) = (n :: s1, fGr R n k (nI q2) (nI q), n + 1, c) := by unfold fPop; rw [if_neg k2]; rfl
          rw [ep] at hQ hP
          refine zBlkR (M := mX10_bind) (nL := 5) (rt := (Option.none : Option Jvm.ClassFile.FieldType)) (blk := bX10_bind_73) (T := []) 0 hX10_bind_73 zChks_nil rfl rfl rfl (Nat.le_of_ble_eq_true rfl) (Nat.le_of_ble_eq_true rfl) ?_
          simp (implicitDefEqProofs := false) only [bX10_bind_73, zRun_cons, zRun_nil, zLk, zSto, zIns, zFil, zf0, zf1, zf2, zf3, List.filter_cons, List.filter_nil, Nat.reduceAdd, Nat.reduceEqDiff, Nat.reduceLT, Nat.reduceLeDiff, Nat.reduceBEq, Nat.reduceBNe, reduceIte, if_true, if_false, Bool.false_and, Bool.true_and, Bool.and_true, Bool.and_false, Bool.not_false, Bool.not_true, Bool.false_eq_true, beq_self_eq_true, BEq.rfl, zCat1, zCat2, zCat3, zKdI, zKdL, zKdR, true_and, and_true, zSI, zSL, zSR, zu_at, and_self, and_false, false_and, lv_args, zKdZ, zKdO, zB01, zB11, Option.toList_none, Option.toList_some, List.nil_append, List.cons_append, true_or, or_true, zRow_rd, zu_rd, zo_goto, zKn_0, zN10, zN01, not_true_eq_false, not_false_eq_true, false_implies, true_implies, implies_true, eq_self, nI_1, nI_40, nI_7, vz0, vz1, zb1_e0, zb1_n0]
          refine zX.sub' (ih _ _ hgr hP (fun J' kJ' hJ' => hQ J' ((((((((((kw.u (by unfold SFb; omega)).u (by unfold SFb; omega)).u (by unfold SFb; omega)).u (by unfold SFb; omega)).u (by unfold SFb; omega)).u (by unfold SFb; omega)).u (by unfold SFb; omega)).u (by unfold SFb; omega)).trans kJ')) hJ')) (by simp)
    · have hb' : (rkN k < l) = True := eq_true (by omega)
      rw [if_neg hb] at hQ
      refine zBlkR (M := mX10_bind) (nL := 5) (rt := (Option.none : Option Jvm.ClassFile.FieldType)) (blk := bX10_bind_21) (T := [(54, bX10_bind_54), (58, bX10_bind_58), (76, bX10_bind_76)]) 1 hX10_bind_21 (zChks_cons hX10_bind_54 (zChks_cons hX10_bind_58 (zChks_cons hX10_bind_76 zChks_nil))) rfl rfl rfl (Nat.le_of_ble_eq_true rfl) (Nat.le_of_ble_eq_true rfl) ?_
      simp (implicitDefEqProofs := false) only [bX10_bind_21, bX10_bind_54, bX10_bind_58, bX10_bind_76, zRun_cons, zRun_nil, zLk, zSto, zIns, zFil, zf0, zf1, zf2, zf3, List.filter_cons, List.filter_nil, Nat.reduceAdd, Nat.reduceEqDiff, Nat.reduceLT, Nat.reduceLeDiff, Nat.reduceBEq, Nat.reduceBNe, reduceIte, if_true, if_false, Bool.false_and, Bool.true_and, Bool.and_true, Bool.and_false, Bool.not_false, Bool.not_true, Bool.false_eq_true, beq_self_eq_true, BEq.rfl, zCat1, zCat2, zCat3, zKdI, zKdL, zKdR, true_and, and_true, zSI, zSL, zSR, zu_at, and_self, and_false, false_and, lv_args, zKdZ, zKdO, zB01, zB11, Option.toList_none, Option.toList_some, List.nil_append, List.cons_append, true_or, or_true, zRow_rd, zu_rd, zo_iload_n, zo_icmp_lt, zo_aload_n, zo_dup, zo_getfield, zo_iconst, zo_isub, zo_putfield, zo_putfield_2, zo_putfield_3, zo_iaload, zo_istore_n, zo_icmp_ne, zo_goto, zo_return_, zi_1, zi_2, zi_m1, zKd_10_46, zTy_10_46, zKd_10_44, sh_87, zcl_1, rf_87_44, sh_110, zcl_2, zvi_1_96, zvi_2_96, zPutC, zKn_s, zKn_0, zFind, z2, hb', zN10, zN01, not_true_eq_false, not_false_eq_true, false_implies, true_implies, implies_true, eq_self, nI_1, nI_40, nI_7, vz0, vz1, zb1_e0, zb1_n0]
      exact hQ J zKpt_rfl hJ
theorem mo_bind (hl : 1 ≤ l) (hl7 : l ≤ 7) (hJ : zFr0 J (ws, X)) (hS : FOk F R0 (ws, X) false) (hQ : ∀ J', zKpt SFb J J' → zFr0 J' (fBind l ws X) → Q none (SH, zTq J' t kd wh, L, RF p s r)) : zXM w mX10_bind rX10_bind [.ref 87, .int (nI l)] (SH, zTq J t kd wh, L, RF p s r) Q := by
  unfold zXM
  exact mo_bindLoop hl hl7 ws X J hJ hS hQ
theorem tNm0 : ∀ k, k < 47 → (4 ≤ k → zNameMet (nI (rKd k)) (nI (rWh k)) = (if 20 ≤ k ∧ k ≤ 27 then nI (nmN k) else -1)) := by
  have h : ∀ k, k < 47 → (k < 4 ∨ zNameMet (nI (rKd k)) (nI (rWh k)) = (if 20 ≤ k ∧ k ≤ 27 then nI (nmN k) else -1)) := by decide +kernel
  exact fun k hk h4 => (h k hk).resolve_left (by omega)
theorem tNm (ht : tRel k v kd wh) : zNameMet kd wh = if 20 ≤ k ∧ k ≤ 27 then nI (nmN k) else -1 := by
  obtain ⟨hk, ⟨rfl, rfl, rfl⟩ | ⟨h1, h2, h3, h4⟩⟩ := ht
  · decide
  · by_cases k4 : 4 ≤ k
    · rw [h1, h4 k4]; exact tNm0 k hk k4
    · rw [if_neg (by omega)]
      have : ∀ q, q < 4 → ¬ nI (rKd q) = 1 := by decide
      unfold zNameMet
      rw [h1, if_neg (this k (by omega))]
theorem tD5a : ∀ k, k < 47 → (rKd k = 5 ↔ 7 ≤ k ∧ k ≤ 12) := by decide +kernel
theorem tD5 (ht : tRel k v kd wh) : (kd = 5) = (7 ≤ k ∧ k ≤ 12) := by
  obtain ⟨hk, ⟨rfl, rfl, rfl⟩ | ⟨h1, -⟩⟩ := ht
  · exact propext ⟨fun q => absurd q (by decide), fun q => absurd q (by omega)⟩
  · have := rKd_lt k
    rw [h1, show (5 : Int32) = nI 5 from rfl, zeq_nat (by omega) (by omega)]
    exact propext (tD5a k hk)
theorem tW5a : ∀ k, k < 13 → (k < 7 ∨ rWh k = k - 7) := by decide
theorem tW5 (ht : tRel k v kd wh) (h : 7 ≤ k ∧ k ≤ 12) : wh = nI (k - 7) := by
  obtain ⟨hk, h0 | ⟨-, -, -, h4⟩⟩ := ht
  · omega
  · rw [h4 (by omega), (tW5a k (by omega)).resolve_left (by omega)]
end ZN98zd
