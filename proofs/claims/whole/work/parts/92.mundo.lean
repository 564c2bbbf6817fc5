/-! ===== REMEMBERED: the reference ===== -/
def SRu (i k : Nat) : Prop := (i = 87 ∧ k = 78) ∨ (123 ≤ i ∧ i ≤ 127)
def zS1 (a i _k : Nat) : Prop := i = a
def zS3 (i _k : Nat) : Prop := 124 ≤ i ∧ i ≤ 126
section ZU92
variable {w : zP} {Q : Option Value → zMem → Prop} {μ : zMem} {I J V V' S : Nat → Nat → Int32} {L K : Nat → Nat → Int64} {p s t kc kc' : Nat} {r : Option Nat} {P : oPn} {b c i k q n l kd pl rf ch : Nat} {bt d d' y' : Int64} {rt rt' : oRt} {u : oUd} {x y : Int32} {z : Nat × (Nat → Nat → Int32) × Nat}
theorem UdOk_R (h : UdOk P t V kc rt u) (hr : ROk P rt t) : ∀ a k, k + a = u.1 → ROk P (uR u k) t := by
  intro a
  induction a with
  | zero => intro k hk; rw [show k = u.1 by omega, h.2.2.2.1]; exact hr
  | succ a ih =>
    intro k hk
    have := h.2.2.2.2 k (by omega)
    have ih := ih (k + 1) (by omega)
    unfold uLk at this
    rcases this with ⟨_, _, a3, _⟩ | ⟨_, _, a3, _⟩ | ⟨_, _, _, a4, _⟩
    · rw [a3]; exact ih
    · rw [a3]; exact ih
    · exact a4
theorem UdOk_R8 (h : UdOk P t V kc rt u) (hr : ROk P rt t) : ∀ k, k < u.1 → (uR u k).1 ≤ 8 := fun k hk => (UdOk_R h hr (u.1 - k) k (by omega)).1
theorem zrUndo_add {V' : Nat → Nat → Int32} {K' : Nat} {R' : oRt} (h : zrUndo J u) (hU : UdOk P t V kc rt u) (hr : ROk P rt t) (h78 : I 87 78 = nI (u.1 + 1)) (o3 : ∀ i, i < 40 * u.1 → I 123 i = J 123 i) (n3 : ∀ c, c < 40 → I 123 (40 * u.1 + c) = 8 * V 1 c + V 2 c + 1) (o7 : ∀ i, i < 8 * u.1 → I 127 i = J 127 i) (n7 : ∀ j, j < rt.1 → I 127 (8 * u.1 + j) = nI (rt.2.2 j)) (o4 : ∀ i, i < u.1 → I 124 i = J 124 i ∧ I 125 i = J 125 i ∧ I 126 i = J 126 i) (n4 : I 124 u.1 = nI kc ∧ I 125 u.1 = nI rt.1 ∧ I 126 u.1 = nI rt.2.1) : zrUndo I (uAdd u kd pl rf bt V' K' R') := by
  refine ⟨h78, fun k hk => ?_⟩
  have hk : k < u.1 + 1 := hk
  show (∀ c, c < 40 → I 123 (40 * k + c) = 8 * (if k = u.1 + 1 then V' else uV u k) 1 c + (if k = u.1 + 1 then V' else uV u k) 2 c + 1) ∧ I 124 k = nI (if k = u.1 + 1 then K' else uK u k) ∧ I 125 k = nI (if k = u.1 + 1 then R' else uR u k).1 ∧ I 126 k = nI (if k = u.1 + 1 then R' else uR u k).2.1 ∧ ∀ j, j < (if k = u.1 + 1 then R' else uR u k).1 → I 127 (8 * k + j) = nI ((if k = u.1 + 1 then R' else uR u k).2.2 j)
  rw [if_neg (by omega), if_neg (by omega), if_neg (by omega)]
  by_cases e : k = u.1
  · subst e
    obtain ⟨u1, u2, u3, u4, _⟩ := hU
    rw [u3, u4]
    exact ⟨fun c hc => by rw [(u2 c hc).1, (u2 c hc).2]; exact n3 c hc, n4.1, n4.2.1, n4.2.2, n7⟩
  · obtain ⟨b1, b2, b3, b4, b5⟩ := h.2 k (by omega)
    obtain ⟨c1, c2, c3⟩ := o4 k (by omega)
    have := UdOk_R8 hU hr k (by omega)
    exact ⟨fun c hc => by rw [o3 _ (by omega)]; exact b1 c hc, by rw [c1]; exact b2, by rw [c2]; exact b3, by rw [c3]; exact b4, fun j hj => by rw [o7 _ (by omega)]; exact b5 j hj⟩
theorem zrUndo_room (h : zrUndo I u) (h20 : u.1 ≤ 20) (hR8 : ∀ k, k < u.1 → (uR u k).1 ≤ 8) (h4 : J 87 78 = nI (u.1 - uD u)) (h3 : ∀ i, i < 40 * (u.1 - uD u) → J 123 i = I 123 (i + 40 * uD u)) (h7 : ∀ i, i < 8 * (u.1 - uD u) → J 127 i = I 127 (i + 8 * uD u)) (h5 : ∀ i, i < u.1 - uD u → J 124 i = I 124 (i + uD u) ∧ J 125 i = I 125 (i + uD u) ∧ J 126 i = I 126 (i + uD u)) : zrUndo J (uRoom u) := by
  refine ⟨h4, fun k hk => ?_⟩
  have hk : k < u.1 - uD u := hk
  obtain ⟨b1, b2, b3, b4, b5⟩ := h.2 (k + uD u) (by omega)
  obtain ⟨c1, c2, c3⟩ := h5 k hk
  have hr8 : (uR u (k + uD u)).1 ≤ 8 → ∀ j, j < (uR u (k + uD u)).1 → J 127 (8 * k + j) = nI ((uR u (k + uD u)).2.2 j) := fun g j hj => by
    rw [h7 (8 * k + j) (by omega), ← b5 j hj]
    congr 1; omega
  refine ⟨fun c hc => ?_, by rw [c1]; exact b2, by rw [c2]; exact b3, by rw [c3]; exact b4, ?_⟩
  · rw [h3 (40 * k + c) (by omega)]
    have := b1 c hc
    rw [show 40 * (k + uD u) + c = 40 * k + c + 40 * uD u by omega] at this
    exact this
  · exact hr8 (hR8 _ (by omega))
set_option maxRecDepth 20000 in
theorem mo_remember (hu : zrUndo I u) (hU : UdOk P t V kc rt u) (hF : zrFr I L V d t kc rt) (hr : ROk P rt t) (hQ : ∀ I', zKpt SRu I I' → (∀ kd pl rf bt V' K' R', zrUndo I' (uAdd (uRoom u) kd pl rf bt V' K' R')) → Q none (SH, I', L, RF p s r)) : zXM w mX10_remember rX10_remember [.ref 87] (SH, I, L, RF p s r) Q := by
  unfold zXM
  have h20 := hU.1
  have hR8 := UdOk_R8 hU hr
  have hUr := UdOk_room hU
  have hm := uRoom_lt h20
  obtain ⟨f1, f2, f3, f4, f5, f6, f7⟩ := hF
  have r8 := hr.1
  -- from 137 on
  have l5 : ∀ J0 J1, zKpt SRu I J0 → zrUndo J0 (uRoom u) → zKpt (zS1 123) J0 J1 → (∀ i, i < 40 * (uRoom u).1 → J1 123 i = J0 123 i) → (∀ c, c < 40 → J1 123 (40 * (uRoom u).1 + c) = 8 * V 1 c + V 2 c + 1) → zX w mX10_remember rX10_remember Q 0 0 183 [(0, Value.ref 87), (1, Value.int (nI 0))] [] (SH, J1, L, RF p s r) := by
    intro J0 J1 hk0 hz0 hk1 o3 n3
    generalize hue : uRoom u = v at *
    have rw1 : ∀ i, i ≠ 123 → J1 i = J0 i := fun i hi => funext fun j => hk1 i j hi
    have q87 : ∀ k, k ≠ 78 → J1 87 k = I 87 k := fun k hk => by rw [rw1 87 (by omega)]; exact hk0 87 k (by unfold SRu; omega)
    refine zLoop (n := 8) (P := fun a => ∀ J, zKpt (zS1 127) J1 J → (∀ i, i < 8 * v.1 → J 127 i = J1 127 i) → (∀ i, i < a → J 127 (8 * v.1 + i) = I 121 i) → zX w mX10_remember rX10_remember Q 0 0 183 [(0, Value.ref 87), (1, Value.int (nI a))] [] (SH, J, L, RF p s r)) (fun a ha ih => ?_) 0 (Nat.zero_le _) J1 zKpt_rfl (fun i _ => rfl) (fun i hi => absurd hi (by omega))
    intro J hJ hlo hnew
    have hr1 : ∀ i, i ≠ 127 → J i = J1 i := fun i hi => funext fun j => hJ i j hi
    have q78 : J 87 78 = nI v.1 := by rw [hr1 87 (by omega), rw1 87 (by omega)]; exact hz0.1
    have q87 : ∀ k, k ≠ 78 → J 87 k = I 87 k := fun k hk => by rw [hr1 87 (by omega)]; exact q87 k hk
    by_cases hke : a = 8
    · subst hke
      have hx : ((8 : Int32) ≤ nI 8) = True := eq_true (by decide)
      have hv : vp_in (nI v.1) 20 := zvn (by omega) (by omega)
      have q56 : J 87 56 = nI kc := by rw [q87 56 (by omega)]; exact f3
      have q64 : J 87 64 = nI rt.1 := by rw [q87 64 (by omega)]; exact f4
      have q65 : J 87 65 = nI rt.2.1 := by rw [q87 65 (by omega)]; exact f5
      refine zBlkR (M := mX10_remember) (nL := 2) (rt := (Option.none : Option Jvm.ClassFile.FieldType)) (blk := bX10_remember_183) (T := [(215, bX10_remember_215)]) 1 hX10_remember_183 (zChks_cons hX10_remember_215 zChks_nil) rfl rfl rfl (Nat.le_of_ble_eq_true rfl) (Nat.le_of_ble_eq_true rfl) ?_
      simp (implicitDefEqProofs := false) only [bX10_remember_183, bX10_remember_215, zRun_cons, zRun_nil, zLk, zSto, zIns, zFil, zf0, zf1, zf2, zf3, List.filter_cons, List.filter_nil, Nat.reduceAdd, Nat.reduceEqDiff, Nat.reduceLT, Nat.reduceLeDiff, Nat.reduceBEq, Nat.reduceBNe, reduceIte, if_true, if_false, Bool.false_and, Bool.true_and, Bool.and_true, Bool.and_false, Bool.not_false, Bool.not_true, Bool.false_eq_true, beq_self_eq_true, BEq.rfl, zCat1, zCat2, zCat3, zKdI, zKdL, zKdR, true_and, and_true, zSI, zSL, zSR, zu_at, and_self, and_false, false_and, lv_args, zKdZ, zKdO, zB01, zB11, Option.toList_none, Option.toList_some, List.nil_append, List.cons_append, true_or, or_true, zRow_rd, zu_rd, zo_iload_n, zo_bipush, zo_icmp_ge, zo_aload_n, zo_getfield, zo_imul, zo_iadd, zo_iaload, zo_iastore, zo_iinc, zo_goto, zo_dup, zo_iconst, zo_putfield, zo_putfield_2, zo_putfield_3, zo_return_, zb_8, zi_1, zKd_10_83, zKd_10_78, zKd_10_66, zKd_10_80, zKd_10_56, zKd_10_81, zKd_10_64, zKd_10_82, zKd_10_65, zTy_10_78, zcl_8, sh_87, rf_87_83, sh_127, rf_87_66, sh_121, rf_87_80, sh_124, rf_87_81, sh_125, rf_87_82, sh_126, zcl_1, zvi_8_20, zvi_8_160, zvi_1_8, zvi_1_20, zvi_1_160, zPutC, zKn_s, zKn_0, zFind, hx, hv, q78, q56, q64, q65, nI_1, nI_clamp (n := v.1) (by omega), zN10, zN01, not_true_eq_false, not_false_eq_true, false_implies, true_implies, implies_true, eq_self, nI_1, nI_40, nI_7, vz0, vz1, zb1_e0, zb1_n0]
      have kk : zKpt SRu I J := (hk0.trans (hk1.mono (fun i k g => by unfold zS1 at g; unfold SRu; omega))).trans (hJ.mono (fun i k g => by unfold zS1 at g; unfold SRu; omega))
      refine hQ _ ((((kk.u ?_).u ?_).u ?_).u ?_) (fun kd pl rf bt V' K' R' => zrUndo_add hz0 hUr hr ?_ ?_ ?_ ?_ ?_ ?_ ?_)
      · unfold SRu; omega
      · unfold SRu; omega
      · unfold SRu; omega
      · unfold SRu; omega
      · simp [zu_at]
      · intro i hi
        simp [zu_at]; rw [hr1 123 (by omega)]; exact o3 i hi
      · intro c hc
        simp [zu_at]; rw [hr1 123 (by omega)]; exact n3 c hc
      · intro i hi
        simp [zu_at]; rw [hlo i hi, rw1 127 (by omega)]
      · intro j hj
        simp [zu_at]; rw [hnew j (by omega)]; exact f6 j hj
      · intro i hi
        have e : ¬ i = v.1 := by omega
        simp [zu_at, e]; rw [hr1 124 (by omega), hr1 125 (by omega), hr1 126 (by omega), rw1 124 (by omega), rw1 125 (by omega), rw1 126 (by omega)]
        exact ⟨rfl, rfl, rfl⟩
      · simp [zu_at]
    · have hx : ((8 : Int32) ≤ nI a) = False := eq_false (by rw [show (8 : Int32) = nI 8 from rfl, zle_nat (by omega) (by omega)]; omega)
      have hv : vp_in (nI (8 * v.1 + a)) 160 := zvn (by omega) (by omega)
      have hv1 : vp_in (nI a) 8 := zvn (by omega) (by omega)
      have e8 : 8 * nI v.1 + nI a = nI (8 * v.1 + a) := by rw [show (8 : Int32) = nI 8 from rfl, pk_mul, nI_add]
      have q121 : J 121 a = I 121 a := by rw [hr1 121 (by omega), rw1 121 (by omega)]; exact hk0 121 a (by unfold SRu; omega)
      refine zBlkR (M := mX10_remember) (nL := 2) (rt := (Option.none : Option Jvm.ClassFile.FieldType)) (blk := bX10_remember_183) (T := [(215, bX10_remember_215)]) 1 hX10_remember_183 (zChks_cons hX10_remember_215 zChks_nil) rfl rfl rfl (Nat.le_of_ble_eq_true rfl) (Nat.le_of_ble_eq_true rfl) ?_
      simp (implicitDefEqProofs := false) only [bX10_remember_183, bX10_remember_215, zRun_cons, zRun_nil, zLk, zSto, zIns, zFil, zf0, zf1, zf2, zf3, List.filter_cons, List.filter_nil, Nat.reduceAdd, Nat.reduceEqDiff, Nat.reduceLT, Nat.reduceLeDiff, Nat.reduceBEq, Nat.reduceBNe, reduceIte, if_true, if_false, Bool.false_and, Bool.true_and, Bool.and_true, Bool.and_false, Bool.not_false, Bool.not_true, Bool.false_eq_true, beq_self_eq_true, BEq.rfl, zCat1, zCat2, zCat3, zKdI, zKdL, zKdR, true_and, and_true, zSI, zSL, zSR, zu_at, and_self, and_false, false_and, lv_args, zKdZ, zKdO, zB01, zB11, Option.toList_none, Option.toList_some, List.nil_append, List.cons_append, true_or, or_true, zRow_rd, zu_rd, zo_iload_n, zo_bipush, zo_icmp_ge, zo_aload_n, zo_getfield, zo_imul, zo_iadd, zo_iaload, zo_iastore, zo_iinc, zo_goto, zo_dup, zo_iconst, zo_putfield, zo_putfield_2, zo_putfield_3, zo_return_, zb_8, zi_1, zKd_10_83, zKd_10_78, zKd_10_66, zKd_10_80, zKd_10_56, zKd_10_81, zKd_10_64, zKd_10_82, zKd_10_65, zTy_10_78, zcl_8, sh_87, rf_87_83, sh_127, rf_87_66, sh_121, rf_87_80, sh_124, rf_87_81, sh_125, rf_87_82, sh_126, zcl_1, zvi_8_20, zvi_8_160, zvi_1_8, zvi_1_20, zvi_1_160, zPutC, zKn_s, zKn_0, zFind, hx, hv, hv1, e8, q78, q121, nI_clamp (n := a) (by omega), nI_clamp (n := 8 * v.1 + a) (by omega), zN10, zN01, not_true_eq_false, not_false_eq_true, false_implies, true_implies, implies_true, eq_self, nI_1, nI_40, nI_7, vz0, vz1, zb1_e0, zb1_n0]
      refine ih (by omega) _ (hJ.u rfl) (fun i hi => ?_) (fun i hi => ?_)
      · rw [zu_at, if_neg (by omega)]; exact hlo i hi
      · by_cases e : i = a
        · subst e; rw [zu_at, if_pos ⟨rfl, rfl⟩]
        · rw [zu_at, if_neg (by omega)]; exact hnew i (by omega)
  have l4 : ∀ J, zKpt SRu I J → zrUndo J (uRoom u) → zX w mX10_remember rX10_remember Q 0 0 137 [(0, Value.ref 87), (1, Value.int (nI 0))] [] (SH, J, L, RF p s r) := by
    intro J0 hk0 hz0
    have l5 := fun J1 => l5 J0 J1 hk0 hz0
    generalize hue : uRoom u = v at *
    refine zLoop (n := 40) (P := fun a => ∀ J, zKpt (zS1 123) J0 J → (∀ i, i < 40 * v.1 → J 123 i = J0 123 i) → (∀ i, i < a → J 123 (40 * v.1 + i) = 8 * V 1 i + V 2 i + 1) → zX w mX10_remember rX10_remember Q 0 0 137 [(0, Value.ref 87), (1, Value.int (nI a))] [] (SH, J, L, RF p s r)) (fun a ha ih => ?_) 0 (Nat.zero_le _) J0 zKpt_rfl (fun i _ => rfl) (fun i hi => absurd hi (by omega))
    intro J hJ hlo hnew
    have hr1 : ∀ i, i ≠ 123 → J i = J0 i := fun i hi => funext fun j => hJ i j hi
    have q78 : J 87 78 = nI v.1 := by rw [hr1 87 (by omega)]; exact hz0.1
    by_cases hke : a = 40
    · subst hke
      have hx : ((40 : Int32) ≤ nI 40) = True := eq_true (by decide)
      refine zBlkR (M := mX10_remember) (nL := 2) (rt := (Option.none : Option Jvm.ClassFile.FieldType)) (blk := bX10_remember_137) (T := [(181, bX10_remember_181)]) 1 hX10_remember_137 (zChks_cons hX10_remember_181 zChks_nil) rfl rfl rfl (Nat.le_of_ble_eq_true rfl) (Nat.le_of_ble_eq_true rfl) ?_
      simp (implicitDefEqProofs := false) only [bX10_remember_137, bX10_remember_181, zRun_cons, zRun_nil, zLk, zSto, zIns, zFil, zf0, zf1, zf2, zf3, List.filter_cons, List.filter_nil, Nat.reduceAdd, Nat.reduceEqDiff, Nat.reduceLT, Nat.reduceLeDiff, Nat.reduceBEq, Nat.reduceBNe, reduceIte, if_true, if_false, Bool.false_and, Bool.true_and, Bool.and_true, Bool.and_false, Bool.not_false, Bool.not_true, Bool.false_eq_true, beq_self_eq_true, BEq.rfl, zCat1, zCat2, zCat3, zKdI, zKdL, zKdR, true_and, and_true, zSI, zSL, zSR, zu_at, and_self, and_false, false_and, lv_args, zKdZ, zKdO, zB01, zB11, Option.toList_none, Option.toList_some, List.nil_append, List.cons_append, true_or, or_true, zRow_rd, zu_rd, zo_iload_n, zo_bipush, zo_icmp_ge, zo_aload_n, zo_getfield, zo_imul, zo_iadd, zo_iaload, zo_iconst, zo_iastore, zo_iinc, zo_goto, zo_istore_n, zb_40, zb_8, zi_1, zi_0, zKd_10_79, zKd_10_78, zKd_10_57, zKd_10_58, zcl_40, sh_87, rf_87_79, sh_123, zcl_8, rf_87_57, sh_114, rf_87_58, sh_115, zcl_1, zcl_0, zvi_40_80, zvi_40_800, zvi_8_80, zvi_8_800, zvi_1_80, zvi_1_800, zvi_0_80, zvi_0_800, zKn_s, zKn_0, zFind, hx, zN10, zN01, not_true_eq_false, not_false_eq_true, false_implies, true_implies, implies_true, eq_self, nI_1, nI_40, nI_7, vz0, vz1, zb1_e0, zb1_n0]
      exact l5 J hJ hlo hnew
    · have hx : ((40 : Int32) ≤ nI a) = False := eq_false (by rw [show (40 : Int32) = nI 40 from rfl, zle_nat (by omega) (by omega)]; omega)
      have hv : vp_in (nI (40 * v.1 + a)) 800 := zvn (by omega) (by omega)
      have hv1 : vp_in (nI a) 80 := zvn (by omega) (by omega)
      have e8 : 40 * nI v.1 + nI a = nI (40 * v.1 + a) := nI_40 _ _
      have q114 : J 114 a = V 1 a := by
        rw [hr1 114 (by omega), hk0 114 a (by unfold SRu; omega), ← f1, vR_1 (by omega)]; simp
      have q115 : J 115 a = V 2 a := by
        rw [hr1 115 (by omega), hk0 115 a (by unfold SRu; omega), ← f1, vR_2 (by omega)]; simp
      refine zBlkR (M := mX10_remember) (nL := 2) (rt := (Option.none : Option Jvm.ClassFile.FieldType)) (blk := bX10_remember_137) (T := [(181, bX10_remember_181)]) 1 hX10_remember_137 (zChks_cons hX10_remember_181 zChks_nil) rfl rfl rfl (Nat.le_of_ble_eq_true rfl) (Nat.le_of_ble_eq_true rfl) ?_
      simp (implicitDefEqProofs := false) only [bX10_remember_137, bX10_remember_181, zRun_cons, zRun_nil, zLk, zSto, zIns, zFil, zf0, zf1, zf2, zf3, List.filter_cons, List.filter_nil, Nat.reduceAdd, Nat.reduceEqDiff, Nat.reduceLT, Nat.reduceLeDiff, Nat.reduceBEq, Nat.reduceBNe, reduceIte, if_true, if_false, Bool.false_and, Bool.true_and, Bool.and_true, Bool.and_false, Bool.not_false, Bool.not_true, Bool.false_eq_true, beq_self_eq_true, BEq.rfl, zCat1, zCat2, zCat3, zKdI, zKdL, zKdR, true_and, and_true, zSI, zSL, zSR, zu_at, and_self, and_false, false_and, lv_args, zKdZ, zKdO, zB01, zB11, Option.toList_none, Option.toList_some, List.nil_append, List.cons_append, true_or, or_true, zRow_rd, zu_rd, zo_iload_n, zo_bipush, zo_icmp_ge, zo_aload_n, zo_getfield, zo_imul, zo_iadd, zo_iaload, zo_iconst, zo_iastore, zo_iinc, zo_goto, zo_istore_n, zb_40, zb_8, zi_1, zi_0, zKd_10_79, zKd_10_78, zKd_10_57, zKd_10_58, zcl_40, sh_87, rf_87_79, sh_123, zcl_8, rf_87_57, sh_114, rf_87_58, sh_115, zcl_1, zcl_0, zvi_40_80, zvi_40_800, zvi_8_80, zvi_8_800, zvi_1_80, zvi_1_800, zvi_0_80, zvi_0_800, zKn_s, zKn_0, zFind, hx, hv, hv1, e8, q78, q114, q115, nI_clamp (n := a) (by omega), nI_clamp (n := 40 * v.1 + a) (by omega), zN10, zN01, not_true_eq_false, not_false_eq_true, false_implies, true_implies, implies_true, eq_self, nI_1, nI_40, nI_7, vz0, vz1, zb1_e0, zb1_n0]
      refine ih (by omega) _ (hJ.u rfl) (fun i hi => ?_) (fun i hi => ?_)
      · rw [zu_at, if_neg (by omega)]; exact hlo i hi
      · by_cases e : i = a
        · subst e; rw [zu_at, if_pos ⟨rfl, rfl⟩]
        · rw [zu_at, if_neg (by omega)]; exact hnew i (by omega)
  by_cases h2 : u.1 = 20
  · have e20 : I 87 78 = 20 := by rw [hu.1, h2]; rfl
    have hd : uD u = 1 := if_pos h2
    have l3 : ∀ J0, zKpt SRu I J0 → J0 87 78 = 20 → (∀ i, i < 760 → J0 123 i = I 123 (i + 40)) → (∀ i, i < 152 → J0 127 i = I 127 (i + 8)) → J0 124 = I 124 → J0 125 = I 125 → J0 126 = I 126 → zX w mX10_remember rX10_remember Q 0 0 71 [(0, Value.ref 87), (1, Value.int (nI 0))] [] (SH, J0, L, RF p s r) := by
      intro J0 hk0 h78 h123 h127 h124 h125 h126
      refine zLoop (n := 19) (P := fun a => ∀ J, zKpt zS3 J0 J → (∀ i, i < a → J 124 i = I 124 (i + 1) ∧ J 125 i = I 125 (i + 1) ∧ J 126 i = I 126 (i + 1)) → (∀ i, a ≤ i → J 124 i = I 124 i ∧ J 125 i = I 125 i ∧ J 126 i = I 126 i) → zX w mX10_remember rX10_remember Q 0 0 71 [(0, Value.ref 87), (1, Value.int (nI a))] [] (SH, J, L, RF p s r)) (fun a ha ih => ?_) 0 (Nat.zero_le _) J0 zKpt_rfl (fun i hi => absurd hi (by omega)) (fun i _ => by rw [h124, h125, h126]; exact ⟨rfl, rfl, rfl⟩)
      intro J hJ hlo hhi
      have q78 : J 87 78 = 20 := by rw [hJ 87 78 (by unfold zS3; omega)]; exact h78
      by_cases hke : a = 19
      · subst hke
        have hx : ((19 : Int32) ≤ nI 19) = True := eq_true (by decide)
        refine zBlkR (M := mX10_remember) (nL := 2) (rt := (Option.none : Option Jvm.ClassFile.FieldType)) (blk := bX10_remember_71) (T := [(125, bX10_remember_125)]) 1 hX10_remember_71 (zChks_cons hX10_remember_125 zChks_nil) rfl rfl rfl (Nat.le_of_ble_eq_true rfl) (Nat.le_of_ble_eq_true rfl) ?_
        simp (implicitDefEqProofs := false) only [bX10_remember_71, bX10_remember_125, zRun_cons, zRun_nil, zLk, zSto, zIns, zFil, zf0, zf1, zf2, zf3, List.filter_cons, List.filter_nil, Nat.reduceAdd, Nat.reduceEqDiff, Nat.reduceLT, Nat.reduceLeDiff, Nat.reduceBEq, Nat.reduceBNe, reduceIte, if_true, if_false, Bool.false_and, Bool.true_and, Bool.and_true, Bool.and_false, Bool.not_false, Bool.not_true, Bool.false_eq_true, beq_self_eq_true, BEq.rfl, zCat1, zCat2, zCat3, zKdI, zKdL, zKdR, true_and, and_true, zSI, zSL, zSR, zu_at, and_self, and_false, false_and, lv_args, zKdZ, zKdO, zB01, zB11, Option.toList_none, Option.toList_some, List.nil_append, List.cons_append, true_or, or_true, zRow_rd, zu_rd, zo_iload_n, zo_bipush, zo_icmp_ge, zo_aload_n, zo_getfield, zo_iconst, zo_iadd, zo_iaload, zo_iastore, zo_iinc, zo_goto, zo_dup, zo_isub, zo_putfield, zo_putfield_2, zo_putfield_3, zo_istore_n, zb_19, zi_1, zi_0, zKd_10_80, zKd_10_81, zKd_10_82, zKd_10_78, zTy_10_78, zcl_19, sh_87, rf_87_80, sh_124, zcl_1, rf_87_81, sh_125, rf_87_82, sh_126, zcl_0, zvi_19_20, zvi_1_20, zvi_0_20, zPutC, zKn_s, zKn_0, zFind, hx, q78, zN10, zN01, not_true_eq_false, not_false_eq_true, false_implies, true_implies, implies_true, eq_self, nI_1, nI_40, nI_7, vz0, vz1, zb1_e0, zb1_n0]
        have hr1 : ∀ i, i ≠ 124 → i ≠ 125 → i ≠ 126 → J i = J0 i := fun i h1 h2 h3 => funext fun j => hJ i j (by unfold zS3; omega)
        refine l4 _ ((hk0.trans (hJ.mono (fun i k g => by unfold zS3 at g; unfold SRu; omega))).u (by unfold SRu; omega)) (zrUndo_room hu h20 hR8 ?_ ?_ ?_ ?_)
        · simp [zu_at, h2, hd]; rfl
        · intro i hi
          rw [h2, hd] at hi
          rw [zu_at, if_neg (by omega), hr1 123 (by omega) (by omega) (by omega), hd]
          exact h123 i (by omega)
        · intro i hi
          rw [h2, hd] at hi
          rw [zu_at, if_neg (by omega), hr1 127 (by omega) (by omega) (by omega), hd]
          exact h127 i (by omega)
        · intro i hi
          rw [h2, hd] at hi
          rw [zu_at, if_neg (by omega), zu_at, if_neg (by omega), zu_at, if_neg (by omega), hd]
          exact hlo i (by omega)
      · have hx : ((19 : Int32) ≤ nI a) = False := eq_false (by rw [show (19 : Int32) = nI 19 from rfl, zle_nat (by omega) (by omega)]; omega)
        have hv : vp_in (nI a) 20 := zvn (by omega) (by omega)
        have hv1 : vp_in (nI (a + 1)) 20 := zvn (by omega) (by omega)
        refine zBlkR (M := mX10_remember) (nL := 2) (rt := (Option.none : Option Jvm.ClassFile.FieldType)) (blk := bX10_remember_71) (T := [(125, bX10_remember_125)]) 1 hX10_remember_71 (zChks_cons hX10_remember_125 zChks_nil) rfl rfl rfl (Nat.le_of_ble_eq_true rfl) (Nat.le_of_ble_eq_true rfl) ?_
        simp (implicitDefEqProofs := false) only [bX10_remember_71, bX10_remember_125, zRun_cons, zRun_nil, zLk, zSto, zIns, zFil, zf0, zf1, zf2, zf3, List.filter_cons, List.filter_nil, Nat.reduceAdd, Nat.reduceEqDiff, Nat.reduceLT, Nat.reduceLeDiff, Nat.reduceBEq, Nat.reduceBNe, reduceIte, if_true, if_false, Bool.false_and, Bool.true_and, Bool.and_true, Bool.and_false, Bool.not_false, Bool.not_true, Bool.false_eq_true, beq_self_eq_true, BEq.rfl, zCat1, zCat2, zCat3, zKdI, zKdL, zKdR, true_and, and_true, zSI, zSL, zSR, zu_at, and_self, and_false, false_and, lv_args, zKdZ, zKdO, zB01, zB11, Option.toList_none, Option.toList_some, List.nil_append, List.cons_append, true_or, or_true, zRow_rd, zu_rd, zo_iload_n, zo_bipush, zo_icmp_ge, zo_aload_n, zo_getfield, zo_iconst, zo_iadd, zo_iaload, zo_iastore, zo_iinc, zo_goto, zo_dup, zo_isub, zo_putfield, zo_putfield_2, zo_putfield_3, zo_istore_n, zb_19, zi_1, zi_0, zKd_10_80, zKd_10_81, zKd_10_82, zKd_10_78, zTy_10_78, zcl_19, sh_87, rf_87_80, sh_124, zcl_1, rf_87_81, sh_125, rf_87_82, sh_126, zcl_0, zvi_19_20, zvi_1_20, zvi_0_20, zPutC, zKn_s, zKn_0, zFind, hx, hv, hv1, nI_clamp (n := a) (by omega), nI_clamp (n := a + 1) (by omega), zN10, zN01, not_true_eq_false, not_false_eq_true, false_implies, true_implies, implies_true, eq_self, nI_1, nI_40, nI_7, vz0, vz1, zb1_e0, zb1_n0]
        obtain ⟨m1, m2, m3⟩ := hhi (a + 1) (by omega)
        refine ih (by omega) _ (((hJ.u ?_).u ?_).u ?_) (fun i hi => ?_) (fun i hi => ?_)
        · unfold zS3; omega
        · unfold zS3; omega
        · unfold zS3; omega
        · by_cases e : i = a
          · subst e; simp [zu_at]; exact ⟨m1, m2, m3⟩
          · simp [zu_at, e]; exact hlo i (by omega)
        · have e : ¬ i = a := by omega
          simp [zu_at, e]; exact hhi i (by omega)
    have l2 : ∀ J0, zKpt SRu I J0 → J0 87 78 = 20 → (∀ i, i < 760 → J0 123 i = I 123 (i + 40)) → J0 127 = I 127 → J0 124 = I 124 → J0 125 = I 125 → J0 126 = I 126 → zX w mX10_remember rX10_remember Q 0 0 41 [(0, Value.ref 87), (1, Value.int (nI 0))] [] (SH, J0, L, RF p s r) := by
      intro J0 hk0 h78 h123 h127 h124 h125 h126
      refine zLoop (n := 152) (P := fun a => ∀ J, zKpt (zS1 127) J0 J → (∀ i, i < a → J 127 i = I 127 (i + 8)) → (∀ i, a ≤ i → J 127 i = I 127 i) → zX w mX10_remember rX10_remember Q 0 0 41 [(0, Value.ref 87), (1, Value.int (nI a))] [] (SH, J, L, RF p s r)) (fun a ha ih => ?_) 0 (Nat.zero_le _) J0 zKpt_rfl (fun i hi => absurd hi (by omega)) (fun i _ => by rw [h127])
      intro J hJ hlo hhi
      have hr : ∀ i, i ≠ 127 → J i = J0 i := fun i hi => funext fun j => hJ i j hi
      by_cases hke : a = 152
      · subst hke
        have hx : ((152 : Int32) ≤ nI 152) = True := eq_true (by decide)
        refine zBlkR (M := mX10_remember) (nL := 2) (rt := (Option.none : Option Jvm.ClassFile.FieldType)) (blk := bX10_remember_41) (T := [(69, bX10_remember_69)]) 1 hX10_remember_41 (zChks_cons hX10_remember_69 zChks_nil) rfl rfl rfl (Nat.le_of_ble_eq_true rfl) (Nat.le_of_ble_eq_true rfl) ?_
        simp (implicitDefEqProofs := false) only [bX10_remember_41, bX10_remember_69, zRun_cons, zRun_nil, zLk, zSto, zIns, zFil, zf0, zf1, zf2, zf3, List.filter_cons, List.filter_nil, Nat.reduceAdd, Nat.reduceEqDiff, Nat.reduceLT, Nat.reduceLeDiff, Nat.reduceBEq, Nat.reduceBNe, reduceIte, if_true, if_false, Bool.false_and, Bool.true_and, Bool.and_true, Bool.and_false, Bool.not_false, Bool.not_true, Bool.false_eq_true, beq_self_eq_true, BEq.rfl, zCat1, zCat2, zCat3, zKdI, zKdL, zKdR, true_and, and_true, zSI, zSL, zSR, zu_at, and_self, and_false, false_and, lv_args, zKdZ, zKdO, zB01, zB11, Option.toList_none, Option.toList_some, List.nil_append, List.cons_append, true_or, or_true, zRow_rd, zu_rd, zo_iload_n, zo_sipush, zo_icmp_ge, zo_aload_n, zo_getfield, zo_bipush, zo_iadd, zo_iaload, zo_iastore, zo_iinc, zo_goto, zo_iconst, zo_istore_n, zs_152, zb_8, zi_1, zi_0, zKd_10_83, zcl_152, sh_87, rf_87_83, sh_127, zcl_8, zcl_0, zvi_152_160, zvi_8_160, zvi_0_160, zKn_s, zKn_0, zFind, hx, zN10, zN01, not_true_eq_false, not_false_eq_true, false_implies, true_implies, implies_true, eq_self, nI_1, nI_40, nI_7, vz0, vz1, zb1_e0, zb1_n0]
        exact l3 J (hk0.trans (hJ.mono (fun i k g => by unfold zS1 at g; unfold SRu; omega))) (by rw [hr 87 (by omega)]; exact h78) (fun i hi => by rw [hr 123 (by omega)]; exact h123 i hi) hlo (by rw [hr 124 (by omega)]; exact h124) (by rw [hr 125 (by omega)]; exact h125) (by rw [hr 126 (by omega)]; exact h126)
      · have hx : ((152 : Int32) ≤ nI a) = False := eq_false (by rw [show (152 : Int32) = nI 152 from rfl, zle_nat (by omega) (by omega)]; omega)
        have hv : vp_in (nI a) 160 := zvn (by omega) (by omega)
        have hv1 : vp_in (nI (a + 8)) 160 := zvn (by omega) (by omega)
        have e8 : nI a + 8 = nI (a + 8) := by rw [show (8 : Int32) = nI 8 from rfl, nI_add]
        refine zBlkR (M := mX10_remember) (nL := 2) (rt := (Option.none : Option Jvm.ClassFile.FieldType)) (blk := bX10_remember_41) (T := [(69, bX10_remember_69)]) 1 hX10_remember_41 (zChks_cons hX10_remember_69 zChks_nil) rfl rfl rfl (Nat.le_of_ble_eq_true rfl) (Nat.le_of_ble_eq_true rfl) ?_
        simp (implicitDefEqProofs := false) only [bX10_remember_41, bX10_remember_69, zRun_cons, zRun_nil, zLk, zSto, zIns, zFil, zf0, zf1, zf2, zf3, List.filter_cons, List.filter_nil, Nat.reduceAdd, Nat.reduceEqDiff, Nat.reduceLT, Nat.reduceLeDiff, Nat.reduceBEq, Nat.reduceBNe, reduceIte, if_true, if_false, Bool.false_and, Bool.true_and, Bool.and_true, Bool.and_false, Bool.not_false, Bool.not_true, Bool.false_eq_true, beq_self_eq_true, BEq.rfl, zCat1, zCat2, zCat3, zKdI, zKdL, zKdR, true_and, and_true, zSI, zSL, zSR, zu_at, and_self, and_false, false_and, lv_args, zKdZ, zKdO, zB01, zB11, Option.toList_none, Option.toList_some, List.nil_append, List.cons_append, true_or, or_true, zRow_rd, zu_rd, zo_iload_n, zo_sipush, zo_icmp_ge, zo_aload_n, zo_getfield, zo_bipush, zo_iadd, zo_iaload, zo_iastore, zo_iinc, zo_goto, zo_iconst, zo_istore_n, zs_152, zb_8, zi_1, zi_0, zKd_10_83, zcl_152, sh_87, rf_87_83, sh_127, zcl_8, zcl_0, zvi_152_160, zvi_8_160, zvi_0_160, zKn_s, zKn_0, zFind, hx, hv, hv1, e8, nI_clamp (n := a) (by omega), nI_clamp (n := a + 8) (by omega), zN10, zN01, not_true_eq_false, not_false_eq_true, false_implies, true_implies, implies_true, eq_self, nI_1, nI_40, nI_7, vz0, vz1, zb1_e0, zb1_n0]
        refine ih (by omega) _ (hJ.u rfl) (fun i hi => ?_) (fun i hi => ?_)
        · by_cases e : i = a
          · subst e; rw [zu_at, if_pos ⟨rfl, rfl⟩]; exact hhi (i + 8) (by omega)
          · rw [zu_at, if_neg (by omega)]; exact hlo i (by omega)
        · rw [zu_at, if_neg (by omega)]; exact hhi i (by omega)
    have l1 : zX w mX10_remember rX10_remember Q 0 0 11 [(0, Value.ref 87), (1, Value.int (nI 0))] [] (SH, I, L, RF p s r) := by
      refine zLoop (n := 760) (P := fun a => ∀ J, zKpt (zS1 123) I J → (∀ i, i < a → J 123 i = I 123 (i + 40)) → (∀ i, a ≤ i → J 123 i = I 123 i) → zX w mX10_remember rX10_remember Q 0 0 11 [(0, Value.ref 87), (1, Value.int (nI a))] [] (SH, J, L, RF p s r)) (fun a ha ih => ?_) 0 (Nat.zero_le _) I zKpt_rfl (fun i hi => absurd hi (by omega)) (fun i _ => rfl)
      intro J hJ hlo hhi
      have hr : ∀ i, i ≠ 123 → J i = I i := fun i hi => funext fun j => hJ i j hi
      by_cases hke : a = 760
      · subst hke
        have hx : ((760 : Int32) ≤ nI 760) = True := eq_true (by decide)
        refine zBlkR (M := mX10_remember) (nL := 2) (rt := (Option.none : Option Jvm.ClassFile.FieldType)) (blk := bX10_remember_11) (T := [(39, bX10_remember_39)]) 1 hX10_remember_11 (zChks_cons hX10_remember_39 zChks_nil) rfl rfl rfl (Nat.le_of_ble_eq_true rfl) (Nat.le_of_ble_eq_true rfl) ?_
        simp (implicitDefEqProofs := false) only [bX10_remember_11, bX10_remember_39, zRun_cons, zRun_nil, zLk, zSto, zIns, zFil, zf0, zf1, zf2, zf3, List.filter_cons, List.filter_nil, Nat.reduceAdd, Nat.reduceEqDiff, Nat.reduceLT, Nat.reduceLeDiff, Nat.reduceBEq, Nat.reduceBNe, reduceIte, if_true, if_false, Bool.false_and, Bool.true_and, Bool.and_true, Bool.and_false, Bool.not_false, Bool.not_true, Bool.false_eq_true, beq_self_eq_true, BEq.rfl, zCat1, zCat2, zCat3, zKdI, zKdL, zKdR, true_and, and_true, zSI, zSL, zSR, zu_at, and_self, and_false, false_and, lv_args, zKdZ, zKdO, zB01, zB11, Option.toList_none, Option.toList_some, List.nil_append, List.cons_append, true_or, or_true, zRow_rd, zu_rd, zo_iload_n, zo_sipush, zo_icmp_ge, zo_aload_n, zo_getfield, zo_bipush, zo_iadd, zo_iaload, zo_iastore, zo_iinc, zo_goto, zo_iconst, zo_istore_n, zs_760, zb_40, zi_1, zi_0, zKd_10_79, zcl_760, sh_87, rf_87_79, sh_123, zcl_40, zcl_0, zvi_760_800, zvi_40_800, zvi_0_800, zKn_s, zKn_0, zFind, hx, zN10, zN01, not_true_eq_false, not_false_eq_true, false_implies, true_implies, implies_true, eq_self, nI_1, nI_40, nI_7, vz0, vz1, zb1_e0, zb1_n0]
        exact l2 J (hJ.mono (fun i k g => by unfold zS1 at g; unfold SRu; omega)) (by rw [hr 87 (by omega)]; exact e20) hlo (hr 127 (by omega)) (hr 124 (by omega)) (hr 125 (by omega)) (hr 126 (by omega))
      · have hx : ((760 : Int32) ≤ nI a) = False := eq_false (by rw [show (760 : Int32) = nI 760 from rfl, zle_nat (by omega) (by omega)]; omega)
        have hv : vp_in (nI a) 800 := zvn (by omega) (by omega)
        have hv1 : vp_in (nI (a + 40)) 800 := zvn (by omega) (by omega)
        have e8 : nI a + 40 = nI (a + 40) := by rw [show (40 : Int32) = nI 40 from rfl, nI_add]
        refine zBlkR (M := mX10_remember) (nL := 2) (rt := (Option.none : Option Jvm.ClassFile.FieldType)) (blk := bX10_remember_11) (T := [(39, bX10_remember_39)]) 1 hX10_remember_11 (zChks_cons hX10_remember_39 zChks_nil) rfl rfl rfl (Nat.le_of_ble_eq_true rfl) (Nat.le_of_ble_eq_true rfl) ?_
        simp (implicitDefEqProofs := false) only [bX10_remember_11, bX10_remember_39, zRun_cons, zRun_nil, zLk, zSto, zIns, zFil, zf0, zf1, zf2, zf3, List.filter_cons, List.filter_nil, Nat.reduceAdd, Nat.reduceEqDiff, Nat.reduceLT, Nat.reduceLeDiff, Nat.reduceBEq, Nat.reduceBNe, reduceIte, if_true, if_false, Bool.false_and, Bool.true_and, Bool.and_true, Bool.and_false, Bool.not_false, Bool.not_true, Bool.false_eq_true, beq_self_eq_true, BEq.rfl, zCat1, zCat2, zCat3, zKdI, zKdL, zKdR, true_and, and_true, zSI, zSL, zSR, zu_at, and_self, and_false, false_and, lv_args, zKdZ, zKdO, zB01, zB11, Option.toList_none, Option.toList_some, List.nil_append, List.cons_append, true_or, or_true, zRow_rd, zu_rd, zo_iload_n, zo_sipush, zo_icmp_ge, zo_aload_n, zo_getfield, zo_bipush, zo_iadd, zo_iaload, zo_iastore, zo_iinc, zo_goto, zo_iconst, zo_istore_n, zs_760, zb_40, zi_1, zi_0, zKd_10_79, zcl_760, sh_87, rf_87_79, sh_123, zcl_40, zcl_0, zvi_760_800, zvi_40_800, zvi_0_800, zKn_s, zKn_0, zFind, hx, hv, hv1, e8, nI_clamp (n := a) (by omega), nI_clamp (n := a + 40) (by omega), zN10, zN01, not_true_eq_false, not_false_eq_true, false_implies, true_implies, implies_true, eq_self, nI_1, nI_40, nI_7, vz0, vz1, zb1_e0, zb1_n0]
        refine ih (by omega) _ (hJ.u rfl) (fun i hi => ?_) (fun i hi => ?_)
        · by_cases e : i = a
          · subst e; rw [zu_at, if_pos ⟨rfl, rfl⟩]; exact hhi (i + 40) (by omega)
          · rw [zu_at, if_neg (by omega)]; exact hlo i (by omega)
        · rw [zu_at, if_neg (by omega)]; exact hhi i (by omega)
    refine zBlkR (M := mX10_remember) (nL := 2) (rt := (Option.none : Option Jvm.ClassFile.FieldType)) (blk := bX10_remember_0) (T := [(135, bX10_remember_135)]) 1 hX10_remember_0 (zChks_cons hX10_remember_135 zChks_nil) rfl rfl rfl (Nat.le_of_ble_eq_true rfl) (Nat.le_of_ble_eq_true rfl) ?_
    simp (implicitDefEqProofs := false) only [bX10_remember_0, bX10_remember_135, zRun_cons, zRun_nil, zLk, zSto, zIns, zFil, zf0, zf1, zf2, zf3, List.filter_cons, List.filter_nil, Nat.reduceAdd, Nat.reduceEqDiff, Nat.reduceLT, Nat.reduceLeDiff, Nat.reduceBEq, Nat.reduceBNe, reduceIte, if_true, if_false, Bool.false_and, Bool.true_and, Bool.and_true, Bool.and_false, Bool.not_false, Bool.not_true, Bool.false_eq_true, beq_self_eq_true, BEq.rfl, zCat1, zCat2, zCat3, zKdI, zKdL, zKdR, true_and, and_true, zSI, zSL, zSR, zu_at, and_self, and_false, false_and, lv_args, zKdZ, zKdO, zB01, zB11, Option.toList_none, Option.toList_some, List.nil_append, List.cons_append, true_or, or_true, zRow_rd, zu_rd, zo_aload_n, zo_getfield, zo_bipush, zo_icmp_ne, zo_iconst, zo_istore_n, zb_20, zi_0, zKd_10_78, sh_87, zcl_20, zcl_0, zKn_s, zKn_0, zFind, e20, zN10, zN01, not_true_eq_false, not_false_eq_true, false_implies, true_implies, implies_true, eq_self, nI_1, nI_40, nI_7, vz0, vz1, zb1_e0, zb1_n0]
    exact l1
  · have hx : (nI u.1 = 20) = False := eq_false (by rw [show (20 : Int32) = nI 20 from rfl, zeq_nat (by omega) (by omega)]; exact h2)
    have hd : uD u = 0 := if_neg h2
    have e78 := hu.1
    refine zBlkR (M := mX10_remember) (nL := 2) (rt := (Option.none : Option Jvm.ClassFile.FieldType)) (blk := bX10_remember_0) (T := [(135, bX10_remember_135)]) 1 hX10_remember_0 (zChks_cons hX10_remember_135 zChks_nil) rfl rfl rfl (Nat.le_of_ble_eq_true rfl) (Nat.le_of_ble_eq_true rfl) ?_
    simp (implicitDefEqProofs := false) only [bX10_remember_0, bX10_remember_135, zRun_cons, zRun_nil, zLk, zSto, zIns, zFil, zf0, zf1, zf2, zf3, List.filter_cons, List.filter_nil, Nat.reduceAdd, Nat.reduceEqDiff, Nat.reduceLT, Nat.reduceLeDiff, Nat.reduceBEq, Nat.reduceBNe, reduceIte, if_true, if_false, Bool.false_and, Bool.true_and, Bool.and_true, Bool.and_false, Bool.not_false, Bool.not_true, Bool.false_eq_true, beq_self_eq_true, BEq.rfl, zCat1, zCat2, zCat3, zKdI, zKdL, zKdR, true_and, and_true, zSI, zSL, zSR, zu_at, and_self, and_false, false_and, lv_args, zKdZ, zKdO, zB01, zB11, Option.toList_none, Option.toList_some, List.nil_append, List.cons_append, true_or, or_true, zRow_rd, zu_rd, zo_aload_n, zo_getfield, zo_bipush, zo_icmp_ne, zo_iconst, zo_istore_n, zb_20, zi_0, zKd_10_78, sh_87, zcl_20, zcl_0, zKn_s, zKn_0, zFind, e78, hx, zN10, zN01, not_true_eq_false, not_false_eq_true, false_implies, true_implies, implies_true, eq_self, nI_1, nI_40, nI_7, vz0, vz1, zb1_e0, zb1_n0]
    refine l4 I zKpt_rfl (zrUndo_room hu h20 hR8 ?_ ?_ ?_ ?_)
    · rw [hd]; exact e78
    · intro i _; rw [hd]; rfl
    · intro i _; rw [hd]; rfl
    · intro i _; rw [hd]; exact ⟨rfl, rfl, rfl⟩
end ZU92
