/-! ===== BLOCKS ARE SOUND ===== -/
def zLen (i : Instr) : Nat := match i with
  | .bipush _ => 2
  | .iload _ => 2
  | .lload _ => 2
  | .aload _ => 2
  | .istore _ => 2
  | .lstore _ => 2
  | .astore _ => 2
  | .ldc _ => 2
  | .sipush _ => 3
  | .iinc _ _ => 3
  | .ifCond _ _ => 3
  | .if_icmp _ _ => 3
  | .goto _ => 3
  | .getfield _ => 3
  | .putfield _ => 3
  | .ldc_w _ => 3
  | .ldc2_w _ => 3
  | _ => 1
def zSd (fin : Bool) (o pc : Nat) (i : Instr) (a b : Nat) (z : Int) : Bool := match i with
  | .goto off => decide ((pc : Int) + off = (a : Int))
  | .ifCond _ off => decide ((pc : Int) + off = (a : Int))
  | .if_icmp _ off => decide ((pc : Int) + off = (a : Int))
  | .getfield idx => decide ((idx, a, b) ∈ zTF o)
  | .putfield idx => decide ((idx, a, b) ∈ zTF o) && (!(zT a b).2.2.2 || (fin && decide ((zT a b).1 = zOwn o)))
  | .ldc idx => decide ((idx, z) ∈ zTI o)
  | .ldc_w idx => decide ((idx, z) ∈ zTI o)
  | .ldc2_w idx => decide ((idx, z) ∈ zTL o)
  | _ => true
def zChk (fin : Bool) (o : Nat) (cc : ByteArray) : Nat → List zI → Bool
  | _, [] => true
  | pc, q :: r => decide (decode cc pc = .ok (q.1, q.2.1)) && decide (q.2.1 = zLen q.1) && zSd fin o pc q.1 q.2.2.1 q.2.2.2.1 q.2.2.2.2 && zChk fin o cc (pc + q.2.1) r
section ZS
variable {w : zP} {M : zMd} {R : Room} {Q : Option Value → zMem → Prop} {kc ks pc : Nat} {lv : zLoc} {st : List Value} {μ : zMem} {K : zK} {c : zc} {fin : Bool}
theorem zPutR {i a b idx r : Nat} (hd : decode M.2.2.1 pc = .ok (.putfield idx, 3)) (ho : M.2.1.cls = zOwn M.1) (hfin : fin = true → M.2.1.name = "<init>") (hs : zSd fin M.1 pc (.putfield idx) a b 0 = true) (hsh : μ.1[i]? = some (.inr a)) (hkd : zKd (zTy a b) = 2) (k : zX w M R Q kc ks (pc + 3) lv st (zSR μ i b (some r))) : zX w M R Q kc ks pc lv (.ref r :: .ref i :: st) μ := by
  simp only [zSd, Bool.and_eq_true, decide_eq_true_eq, Bool.or_eq_true, Bool.not_eq_true'] at hs
  obtain ⟨h1, h2⟩ := hs
  obtain ⟨f1, f2, f3⟩ := zTF_ok h1
  rw [← ho] at f3
  have hty : (∃ C, zTy a b = .object C) ∨ ∃ t, zTy a b = .array t := by
    cases h : zTy a b <;> rw [h] at hkd <;> first | (simp [zKd] at hkd; done) | exact Or.inl ⟨_, rfl⟩ | exact Or.inr ⟨_, rfl⟩
  have hn : narrow (zTy a b) (zCv w (.ref r)) = zCv w (.ref r) := by rcases hty with ⟨C, e⟩ | ⟨t, e⟩ <;> rw [e] <;> rfl
  have hf : fits (zTy a b) (zCv w (.ref r)) = true := by rcases hty with ⟨C, e⟩ | ⟨t, e⟩ <;> rw [e] <;> rfl
  have hv : zFv (zSR μ i b (some r)) i a b = .ref r := by rw [zFv_R hkd]; simp [zu_same, zRf]
  by_cases hb : (zT a b).2.2.2 = false
  · exact z_putG (μ' := zSR μ i b (some r)) zLay_ok hd f1 f2 f3 hsh hb hn hf rfl zSR_cell hv zSR_oth k
  · rcases h2 with h2 | ⟨h2, h3⟩
    · exact absurd h2 hb
    · exact z_putFG (μ' := zSR μ i b (some r)) zLay_ok hd f1 f2 f3 hsh (by simpa using hb) (hfin h2) (h3.trans ho.symm) hn hf rfl zSR_cell hv zSR_oth k
theorem zPutI {i a b idx : Nat} {x : Int32} (hd : decode M.2.2.1 pc = .ok (.putfield idx, 3)) (ho : M.2.1.cls = zOwn M.1) (hfin : fin = true → M.2.1.name = "<init>") (hs : zSd fin M.1 pc (.putfield idx) a b 0 = true) (hsh : μ.1[i]? = some (.inr a)) (hkd : zKd (zTy a b) = 0) (hp : zPutC (zTy a b) x) (k : zX w M R Q kc ks (pc + 3) lv st (zSI μ i b x)) : zX w M R Q kc ks pc lv (.int x :: .ref i :: st) μ := by
  simp only [zSd, Bool.and_eq_true, decide_eq_true_eq, Bool.or_eq_true, Bool.not_eq_true'] at hs
  obtain ⟨h1, h2⟩ := hs
  obtain ⟨f1, f2, f3⟩ := zTF_ok h1
  rw [← ho] at f3
  obtain ⟨hn, hf⟩ := zPutC_ok hp
  have hv : zFv (zSI μ i b x) i a b = .int x := by rw [zFv_I hkd]; simp [zu_same]
  by_cases hb : (zT a b).2.2.2 = false
  · exact z_putG (μ' := zSI μ i b x) zLay_ok hd f1 f2 f3 hsh hb hn hf rfl zSI_cell hv zSI_oth k
  · rcases h2 with h2 | ⟨h2, h3⟩
    · exact absurd h2 hb
    · exact z_putFG (μ' := zSI μ i b x) zLay_ok hd f1 f2 f3 hsh (by simpa using hb) (hfin h2) (h3.trans ho.symm) hn hf rfl zSI_cell hv zSI_oth k
theorem zPutL {i a b idx : Nat} {x : Int64} (hd : decode M.2.2.1 pc = .ok (.putfield idx, 3)) (ho : M.2.1.cls = zOwn M.1) (hfin : fin = true → M.2.1.name = "<init>") (hs : zSd fin M.1 pc (.putfield idx) a b 0 = true) (hsh : μ.1[i]? = some (.inr a)) (hkd : zTy a b = .long) (k : zX w M R Q kc ks (pc + 3) lv st (zSL μ i b x)) : zX w M R Q kc ks pc lv (.long x :: .ref i :: st) μ := by
  simp only [zSd, Bool.and_eq_true, decide_eq_true_eq, Bool.or_eq_true, Bool.not_eq_true'] at hs
  obtain ⟨h1, h2⟩ := hs
  obtain ⟨f1, f2, f3⟩ := zTF_ok h1
  rw [← ho] at f3
  have hn : narrow (zTy a b) (zCv w (.long x)) = zCv w (.long x) := by rw [hkd]; rfl
  have hf : fits (zTy a b) (zCv w (.long x)) = true := by rw [hkd]; rfl
  have hv : zFv (zSL μ i b x) i a b = .long x := by rw [zFv_L (by rw [hkd]; rfl)]; simp [zu_same]
  by_cases hb : (zT a b).2.2.2 = false
  · exact z_putG (μ' := zSL μ i b x) zLay_ok hd f1 f2 f3 hsh hb hn hf rfl zSL_cell hv zSL_oth k
  · rcases h2 with h2 | ⟨h2, h3⟩
    · exact absurd h2 hb
    · exact z_putFG (μ' := zSL μ i b x) zLay_ok hd f1 f2 f3 hsh (by simpa using hb) (hfin h2) (h3.trans ho.symm) hn hf rfl zSL_cell hv zSL_oth k
theorem zOp_ok {ins : Instr} {ln a b : Nat} {z : Int} (ho : M.2.1.cls = zOwn M.1) (hfin : fin = true → M.2.1.name = "<init>") (hkc : kc ≤ R.cells) (hks : ks ≤ R.slots) (hd : decode M.2.2.1 pc = .ok (ins, ln)) (hln : ln = zLen ins) (hs : zSd fin M.1 pc ins a b z = true) (hc : ∀ lv st μ, c lv st μ → zX w M R Q kc ks (pc + ln) lv st μ) (hK : ∀ pc' lv st μ, K pc' lv st μ → zX w M R Q kc ks pc' lv st μ) (h : zOp fin M.2.2.2.1 M.2.2.2.2 Q K ins a b z c lv st μ) : zX w M R Q kc ks pc lv st μ := by
  subst hln
  unfold zOp at h
  split at h
  · exact z_iconst hd (hc _ _ _ h)
  · exact z_bipush hd (hc _ _ _ h)
  · exact z_sipush hd (hc _ _ _ h)
  · exact z_lconst hd (hc _ _ _ h)
  · split at h
    · rename_i hv; exact z_iload_n hd hv (hc _ _ _ h)
    · exact h.elim
  · split at h
    · rename_i hv; exact z_iload hd hv (hc _ _ _ h)
    · exact h.elim
  · split at h
    · rename_i hv; exact z_lload_n hd hv (hc _ _ _ h)
    · exact h.elim
  · split at h
    · rename_i hv; exact z_lload hd hv (hc _ _ _ h)
    · exact h.elim
  · split at h
    · rename_i hv; exact z_aload_n hd hv (hc _ _ _ h)
    · exact h.elim
  · split at h
    · rename_i hv; exact z_aload hd hv (hc _ _ _ h)
    · exact h.elim
  · exact z_istore_n hd h.1 (hc _ _ _ h.2)
  · exact z_istore hd h.1 (hc _ _ _ h.2)
  · exact z_astore_n hd h.1 (hc _ _ _ h.2)
  · exact z_astore hd h.1 (hc _ _ _ h.2)
  · exact z_lstore_n hd h.1 (hc _ _ _ h.2)
  · exact z_lstore hd h.1 (hc _ _ _ h.2)
  · split at h
    · rename_i hv; exact z_iinc hd hv h.1 (hc _ _ _ h.2)
    · exact h.elim
  · exact z_iadd hd (hc _ _ _ h)
  · exact z_isub hd (hc _ _ _ h)
  · exact z_imul hd (hc _ _ _ h)
  · exact z_iand hd (hc _ _ _ h)
  · exact z_ior hd (hc _ _ _ h)
  · exact z_ixor hd (hc _ _ _ h)
  · exact z_ishl hd (hc _ _ _ h)
  · exact z_ishr hd (hc _ _ _ h)
  · exact z_ladd hd (hc _ _ _ h)
  · exact z_lsub hd (hc _ _ _ h)
  · exact z_lmul hd (hc _ _ _ h)
  · exact z_land hd (hc _ _ _ h)
  · exact z_lor hd (hc _ _ _ h)
  · exact z_lxor hd (hc _ _ _ h)
  · exact z_idiv hd h.1 (hc _ _ _ h.2)
  · exact z_irem hd h.1 (hc _ _ _ h.2)
  · exact z_ldiv hd h.1 (hc _ _ _ h.2)
  · exact z_lrem hd h.1 (hc _ _ _ h.2)
  · exact z_ineg hd (hc _ _ _ h)
  · exact z_lneg hd (hc _ _ _ h)
  · exact z_i2l hd (hc _ _ _ h)
  · exact z_l2i hd (hc _ _ _ h)
  · exact z_i2b hd (hc _ _ _ h)
  · exact z_lushr hd (hc _ _ _ h)
  · exact z_lshl hd (hc _ _ _ h)
  · exact z_lshr hd (hc _ _ _ h)
  · exact z_lcmp hd (hc _ _ _ h)
  · exact z_dup hd h.1 (hc _ _ _ h.2)
  · exact z_pop hd h.1 (hc _ _ _ h.2)
  · exact z_dup2_2 hd rfl (hc _ _ _ h)
  · exact z_dup2_11 hd rfl rfl (hc _ _ _ h)
  · exact z_pop2_2 hd rfl (hc _ _ _ h)
  · exact z_if_eq hd (of_decide_eq_true hs) (fun e => hK _ _ _ _ (h.1 e)) (fun e => hc _ _ _ (h.2 e))
  · exact z_icmp_eq hd (of_decide_eq_true hs) (fun e => hK _ _ _ _ (h.1 e)) (fun e => hc _ _ _ (h.2 e))
  · exact z_if_ne hd (of_decide_eq_true hs) (fun e => hK _ _ _ _ (h.1 e)) (fun e => hc _ _ _ (h.2 e))
  · exact z_icmp_ne hd (of_decide_eq_true hs) (fun e => hK _ _ _ _ (h.1 e)) (fun e => hc _ _ _ (h.2 e))
  · exact z_if_lt hd (of_decide_eq_true hs) (fun e => hK _ _ _ _ (h.1 e)) (fun e => hc _ _ _ (h.2 e))
  · exact z_icmp_lt hd (of_decide_eq_true hs) (fun e => hK _ _ _ _ (h.1 e)) (fun e => hc _ _ _ (h.2 e))
  · exact z_if_ge hd (of_decide_eq_true hs) (fun e => hK _ _ _ _ (h.1 e)) (fun e => hc _ _ _ (h.2 e))
  · exact z_icmp_ge hd (of_decide_eq_true hs) (fun e => hK _ _ _ _ (h.1 e)) (fun e => hc _ _ _ (h.2 e))
  · exact z_if_gt hd (of_decide_eq_true hs) (fun e => hK _ _ _ _ (h.1 e)) (fun e => hc _ _ _ (h.2 e))
  · exact z_icmp_gt hd (of_decide_eq_true hs) (fun e => hK _ _ _ _ (h.1 e)) (fun e => hc _ _ _ (h.2 e))
  · exact z_if_le hd (of_decide_eq_true hs) (fun e => hK _ _ _ _ (h.1 e)) (fun e => hc _ _ _ (h.2 e))
  · exact z_icmp_le hd (of_decide_eq_true hs) (fun e => hK _ _ _ _ (h.1 e)) (fun e => hc _ _ _ (h.2 e))
  · exact z_goto hd (of_decide_eq_true hs) (hK _ _ _ _ h)
  · exact z_ret (v := none) hd h.1 hkc hks h.2
  · exact z_ret (v := some _) hd (zRt_ok h.1) hkc hks h.2
  · exact z_ret (v := some _) hd h.1 hkc hks h.2
  · exact z_ldc hd (by rw [ho]; exact zTI_ok (of_decide_eq_true hs)) (hc _ _ _ h)
  · exact z_ldcw hd (by rw [ho]; exact zTI_ok (of_decide_eq_true hs)) (hc _ _ _ h)
  · exact z_ldc2 hd (by rw [ho]; exact zTL_ok (of_decide_eq_true hs)) (hc _ _ _ h)
  · obtain ⟨h1, h2⟩ := h
    obtain ⟨f1, f2, f3⟩ := zTF_ok (of_decide_eq_true hs)
    rw [← ho] at f3
    split at h2
    · rename_i e; exact z_getI zLay_ok hd f1 f2 e f3 h1 (hc _ _ _ h2)
    · rename_i e; exact z_getL zLay_ok hd f1 f2 e f3 h1 (hc _ _ _ h2)
    · rename_i e0 e1
      split at h2
      · rename_i er
        refine z_getG zLay_ok hd f1 f2 f3 h1 ?_ (hc _ _ _ h2)
        unfold zFv
        split
        · rename_i e; exact absurd e e0
        · rename_i e; exact absurd e e1
        · rw [er]; rfl
      · exact h2.elim
  · exact zPutI hd ho hfin hs h.1 h.2.1 h.2.2.1 (hc _ _ _ h.2.2.2)
  · exact zPutL hd ho hfin hs h.1 h.2.1 (hc _ _ _ h.2.2)
  · exact zPutR hd ho hfin hs h.1 h.2.1 (hc _ _ _ h.2.2)
  · split at h
    · rename_i e; exact z_iald hd e h.1 (hc _ _ _ h.2)
    · exact h.elim
  · split at h
    · rename_i e; exact z_lald hd e h.1 (hc _ _ _ h.2)
    · exact h.elim
  · split at h
    · rename_i e; exact z_bald hd e h.1 (hc _ _ _ h.2)
    · rename_i e; exact z_zald hd e h.1 (hc _ _ _ h.2)
    · exact h.elim
  · split at h
    · rename_i e; exact z_iast hd e h.1 (hc _ _ _ h.2)
    · exact h.elim
  · split at h
    · rename_i e; exact z_last hd e h.1 (hc _ _ _ h.2)
    · exact h.elim
  · split at h
    · rename_i e; exact z_bast hd e h.1 (hc _ _ _ h.2)
    · rename_i e; exact z_zast hd e h.1 (hc _ _ _ h.2)
    · exact h.elim
  · split at h
    · rename_i e
      exact z_alen hd h.1 e (hc _ _ _ h.2)
    · exact h.elim
  · exact h.elim
theorem zRun_ok (ho : M.2.1.cls = zOwn M.1) (hfin : fin = true → M.2.1.name = "<init>") (hkc : kc ≤ R.cells) (hks : ks ≤ R.slots) (hK : ∀ pc' lv st μ, K pc' lv st μ → zX w M R Q kc ks pc' lv st μ) : ∀ (blk : List zI) (pc : Nat) (lv : zLoc) (st : List Value) (μ : zMem), zChk fin M.1 M.2.2.1 pc blk = true → zRun fin M.2.2.2.1 M.2.2.2.2 Q K pc blk lv st μ → zX w M R Q kc ks pc lv st μ
  | [], pc, lv, st, μ, _, h => hK pc lv st μ h
  | q :: r, pc, lv, st, μ, hck, h => by
    simp only [zChk, Bool.and_eq_true, decide_eq_true_eq] at hck
    obtain ⟨⟨⟨h1, h2⟩, h3⟩, h4⟩ := hck
    exact zOp_ok ho hfin hkc hks h1 h2 h3 (fun lv st μ hh => zRun_ok ho hfin hkc hks hK r (pc + q.2.1) lv st μ h4 hh) hK h
/-- a block of a method that makes nothing -/
theorem zBlk {blk : List zI} {hc : zChk false M.1 M.2.2.1 pc blk = true} (ho : M.2.1.cls = zOwn M.1) (h : zRun false M.2.2.2.1 M.2.2.2.2 Q (fun pc' lv st μ => zX w M R Q 0 0 pc' lv st μ) pc blk lv st μ) : zX w M R Q 0 0 pc lv st μ :=
  zRun_ok (fin := false) ho (fun h => by cases h) (Nat.zero_le _) (Nat.zero_le _) (fun _ _ _ _ h => h) blk pc lv st μ hc h
end ZS
