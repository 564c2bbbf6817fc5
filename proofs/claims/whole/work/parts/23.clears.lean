/-! ===== Arrays.fill; what clears ===== -/
theorem zu_zRow {α : Type} (f : Nat → Nat → α) (i k : Nat) (v : α) (r : Nat → α) : zu (zRow f i r) i k v = zRow f i (fun b => if b = k then v else r b) := by
  funext a b
  by_cases h : a = i
  · subst h; simp [zu, zRow]
  · simp [zu, zRow, h]
theorem zRow_at {α : Type} (f : Nat → Nat → α) (i : Nat) (r : Nat → α) (a b : Nat) : zRow f i r a b = if a = i then r b else f a b := by
  by_cases h : a = i
  · subst h; simp [zRow]
  · simp [zRow, h]
theorem zRow_self {α : Type} (f : Nat → Nat → α) (i : Nat) : zRow f i (f i) = f := by
  funext a
  by_cases h : a = i
  · subst h; simp [zRow]
  · simp [zRow, h]
def zFill (n : Nat) (v : Int32) (f : Nat → Int32) : Nat → Int32 := fun b => if b < n then v else f b
theorem zFill_0 (v : Int32) (f : Nat → Int32) : zFill 0 v f = f := by funext b; simp [zFill]
theorem zFill_s (n : Nat) (v : Int32) (f : Nat → Int32) : (fun b => if b = n then v else zFill n v f b) = zFill (n + 1) v f := by
  funext b
  simp only [zFill]
  by_cases h : b = n
  · simp [h]
  · by_cases h2 : b < n
    · simp [h, h2, Nat.lt_succ_of_lt h2]
    · have h3 : ¬ b < n + 1 := by omega
      simp [h, h2, h3]
section ZCL
variable {w : zP} {Q : Option Value → zMem → Prop} {sh : List zSh} {I : Nat → Nat → Int32} {L : Nat → Nat → Int64} {Rf : Nat → Nat → Option Nat} {p s : Nat} {r : Option Nat}
set_option maxRecDepth 20000 in
theorem sp_fill {i n : Nat} {v : Int32} (hs : sh[i]? = some (.inl (0, n))) (hn : n < 2 ^ 31) (hQ : Q none (sh, zRow I i (zFill n v (I i)), L, Rf)) : zXM w mJ7_fill_53178 rJ7_fill_53178 [.ref i, .int v] (sh, I, L, Rf) Q := by
  unfold zXM
  refine zBlkR (M := mJ7_fill_53178) (nL := 4) (rt := (Option.none : Option Jvm.ClassFile.FieldType)) (blk := bJ7_fill_53178_0) (T := []) 0 hJ7_fill_53178_0 zChks_nil rfl rfl rfl (Nat.le_of_ble_eq_true rfl) (Nat.le_of_ble_eq_true rfl) ?_
  simp only [bJ7_fill_53178_0, zRun_cons, zRun_nil, zLk, zSto, zIns, zFil, zf0, zf1, zf2, zf3, List.filter_cons, List.filter_nil, Nat.reduceAdd, Nat.reduceEqDiff, Nat.reduceLT, Nat.reduceLeDiff, Nat.reduceBEq, Nat.reduceBNe, reduceIte, if_true, if_false, Bool.false_and, Bool.true_and, Bool.and_true, Bool.and_false, Bool.not_false, Bool.not_true, Bool.false_eq_true, beq_self_eq_true, BEq.rfl, zCat1, zCat2, zCat3, zKdI, zKdL, zKdR, true_and, and_true, zSI, zSL, zSR, zu_at, and_self, and_false, false_and, lv_args, zo_iconst, zo_istore_n, zo_aload_n, zo_arraylength, zi_0, zcl_0, zKn_0, hs]
  have key := zLoop (n := n) (P := fun c => zX w mJ7_fill_53178 rJ7_fill_53178 Q 0 0 5 [(0, Value.ref i), (1, Value.int v), (2, Value.int (nI c)), (3, Value.int (nI n))] [] (sh, zRow I i (zFill c v (I i)), L, Rf)) (fun c hc ih => ?_) 0 (Nat.zero_le _)
  · rw [zFill_0, zRow_self] at key
    exact ⟨by decide, key⟩
  · refine zBlkR (M := mJ7_fill_53178) (nL := 4) (rt := (Option.none : Option Jvm.ClassFile.FieldType)) (blk := bJ7_fill_53178_5) (T := [(20, bJ7_fill_53178_20)]) 1 hJ7_fill_53178_5 (zChks_cons hJ7_fill_53178_20 zChks_nil) rfl rfl rfl (Nat.le_of_ble_eq_true rfl) (Nat.le_of_ble_eq_true rfl) ?_
    simp only [bJ7_fill_53178_5, bJ7_fill_53178_20, zRun_cons, zRun_nil, zLk, zSto, zIns, zFil, zf0, zf1, zf2, zf3, List.filter_cons, List.filter_nil, Nat.reduceAdd, Nat.reduceEqDiff, Nat.reduceLT, Nat.reduceLeDiff, Nat.reduceBEq, Nat.reduceBNe, reduceIte, if_true, if_false, Bool.false_and, Bool.true_and, Bool.and_true, Bool.and_false, Bool.not_false, Bool.not_true, Bool.false_eq_true, beq_self_eq_true, BEq.rfl, zCat1, zCat2, zCat3, zKdI, zKdL, zKdR, true_and, and_true, zSI, zSL, zSR, zu_at, and_self, and_false, false_and, lv_args, zo_iload_n, zo_icmp_ge, zo_aload_n, zo_iastore, zo_iinc, zo_goto, zo_return_, zi_1, zKn_s, zKn_0, zFind, hs]
    simp only [zle_nat (a := n) (b := c) (by omega) (by omega), nI_1, nI_clamp (n := c) (by omega), zu_zRow, zFill_s]
    refine ⟨fun h => ?_, fun h => ⟨zvn (by omega) hn, ih (by omega)⟩⟩
    have : c = n := by omega
    subst this
    exact hQ
set_option maxRecDepth 20000 in
theorem sp_setRoute {f : Nat} {n : Int32} {pl : Int64} (hs : sh[f]? = some (.inr 2)) (hQ : Q none (sh, zu (zu I f 12 n) f 13 (I f 10), zu L f 14 pl, Rf)) : zXM w mX2_setRoute rX2_setRoute [.ref f, .int n, .long pl] (sh, I, L, Rf) Q := by
  unfold zXM
  refine zBlkR (M := mX2_setRoute) (nL := 4) (rt := (Option.none : Option Jvm.ClassFile.FieldType)) (blk := bX2_setRoute_0) (T := []) 0 hX2_setRoute_0 zChks_nil rfl rfl rfl (Nat.le_of_ble_eq_true rfl) (Nat.le_of_ble_eq_true rfl) ?_
  simp only [bX2_setRoute_0, zRun_cons, zRun_nil, zLk, zSto, zIns, zFil, zf0, zf1, zf2, zf3, List.filter_cons, List.filter_nil, Nat.reduceAdd, Nat.reduceEqDiff, Nat.reduceLT, Nat.reduceLeDiff, Nat.reduceBEq, Nat.reduceBNe, reduceIte, if_true, if_false, Bool.false_and, Bool.true_and, Bool.and_true, Bool.and_false, Bool.not_false, Bool.not_true, Bool.false_eq_true, beq_self_eq_true, BEq.rfl, zCat1, zCat2, zCat3, zKdI, zKdL, zKdR, true_and, and_true, zSI, zSL, zSR, zu_at, and_self, and_false, false_and, lv_args, zo_aload_n, zo_iload_n, zo_putfield, zo_putfield_2, zo_putfield_3, zo_lload_n, zo_getfield, zo_return_, zKd_2_12, zTy_2_12, zKd_2_14, zTy_2_14, zKd_2_10, zKd_2_13, zTy_2_13, sh_10, sh_19, sh_28, zPutC, zKn_0, hs, zCat2]
  trace_state
  done
end ZCL
