/-! ===== BLOCKS of code (written by a program) ===== -/
theorem zChk_app {fin : Bool} {o : Nat} {cc : ByteArray} {b : List zI} : ∀ {a : List zI} {pc pc' : Nat}, zChk fin o cc pc a = true → pc' = pc + (a.map (fun q => q.2.1)).sum → zChk fin o cc pc' b = true → zChk fin o cc pc (a ++ b) = true
  | [], pc, pc', _, h, hb => by simp only [List.map_nil, List.sum_nil, Nat.add_zero] at h; subst h; exact hb
  | q :: r, pc, pc', ha, h, hb => by
    rw [zChk, Bool.and_eq_true] at ha
    rw [List.cons_append, zChk, Bool.and_eq_true]
    exact ⟨ha.1, zChk_app ha.2 (by rw [h, List.map_cons, List.sum_cons]; omega) hb⟩
def bX0_init_0 : List zI := [(.aload_n 0, 1, 0, 0, 0)]
set_option maxRecDepth 20000 in
theorem hX0_init_0 : zChk true 0 cX0_init 0 bX0_init_0 = true := by decide +kernel
def bX0_init_4 : List zI := [(.aload_n 0, 1, 0, 0, 0), (.bipush 60, 2, 0, 0, 0)]
set_option maxRecDepth 20000 in
theorem hX0_init_4 : zChk true 0 cX0_init 4 bX0_init_4 = true := by decide +kernel
def bX0_init_9 : List zI := [(.putfield 9, 3, 0, 0, 0), (.aload_n 0, 1, 0, 0, 0), (.bipush 60, 2, 0, 0, 0)]
set_option maxRecDepth 20000 in
theorem hX0_init_9 : zChk true 0 cX0_init 9 bX0_init_9 = true := by decide +kernel
def bX0_init_17 : List zI := [(.putfield 15, 3, 0, 1, 0), (.aload_n 0, 1, 0, 0, 0), (.bipush 60, 2, 0, 0, 0)]
set_option maxRecDepth 20000 in
theorem hX0_init_17 : zChk true 0 cX0_init 17 bX0_init_17 = true := by decide +kernel
def bX0_init_25 : List zI := [(.putfield 19, 3, 0, 2, 0), (.aload_n 0, 1, 0, 0, 0), (.bipush 60, 2, 0, 0, 0)]
set_option maxRecDepth 20000 in
theorem hX0_init_25 : zChk true 0 cX0_init 25 bX0_init_25 = true := by decide +kernel
def bX0_init_33 : List zI := [(.putfield 22, 3, 0, 3, 0), (.aload_n 0, 1, 0, 0, 0), (.iconst (-1), 1, 0, 0, 0), (.putfield 25, 3, 0, 5, 0), (.return_, 1, 0, 0, 0)]
set_option maxRecDepth 20000 in
theorem hX0_init_33 : zChk true 0 cX0_init 33 bX0_init_33 = true := by decide +kernel
def bX0_addDay_0 : List zI := [(.aload_n 0, 1, 0, 0, 0), (.iload_n 1, 1, 0, 0, 0), (.iload_n 2, 1, 0, 0, 0), (.iconst (-1), 1, 0, 0, 0)]
set_option maxRecDepth 20000 in
theorem hX0_addDay_0 : zChk false 0 cX0_addDay 0 bX0_addDay_0 = true := by decide +kernel
def bX0_addDay_7 : List zI := [(.ireturn, 1, 0, 0, 0)]
set_option maxRecDepth 20000 in
theorem hX0_addDay_7 : zChk false 0 cX0_addDay 7 bX0_addDay_7 = true := by decide +kernel
def bX0_addStrike_0 : List zI := [(.iload_n 1, 1, 0, 0, 0), (.ifCond .lt 11, 3, 12, 0, 0), (.iload_n 1, 1, 0, 0, 0), (.aload_n 0, 1, 0, 0, 0), (.getfield 33, 3, 0, 4, 0), (.if_icmp .lt 7, 3, 16, 0, 0), (.iconst (-1), 1, 0, 0, 0), (.goto 10, 3, 23, 0, 0)]
set_option maxRecDepth 20000 in
theorem hX0_addStrike_0 : zChk false 0 cX0_addStrike 0 bX0_addStrike_0 = true := by decide +kernel
def bX0_addStrike_12 : List zI := [(.iconst (-1), 1, 0, 0, 0), (.goto 10, 3, 23, 0, 0)]
set_option maxRecDepth 20000 in
theorem hX0_addStrike_12 : zChk false 0 cX0_addStrike 12 bX0_addStrike_12 = true := by decide +kernel
def bX0_addStrike_16 : List zI := [(.aload_n 0, 1, 0, 0, 0), (.iconst 0, 1, 0, 0, 0), (.iconst 0, 1, 0, 0, 0), (.iload_n 1, 1, 0, 0, 0)]
set_option maxRecDepth 20000 in
theorem hX0_addStrike_16 : zChk false 0 cX0_addStrike 16 bX0_addStrike_16 = true := by decide +kernel
def bX0_addStrike_23 : List zI := [(.ireturn, 1, 0, 0, 0)]
set_option maxRecDepth 20000 in
theorem hX0_addStrike_23 : zChk false 0 cX0_addStrike 23 bX0_addStrike_23 = true := by decide +kernel
def bX0_write_0 : List zI := [(.aload_n 0, 1, 0, 0, 0), (.getfield 33, 3, 0, 4, 0), (.bipush 60, 2, 0, 0, 0), (.if_icmp .lt 5, 3, 11, 0, 0), (.iconst (-1), 1, 0, 0, 0), (.ireturn, 1, 0, 0, 0)]
set_option maxRecDepth 20000 in
theorem hX0_write_0 : zChk false 0 cX0_write 0 bX0_write_0 = true := by decide +kernel
def bX0_write_11 : List zI := [(.aload_n 0, 1, 0, 0, 0), (.getfield 9, 3, 0, 0, 0), (.aload_n 0, 1, 0, 0, 0), (.getfield 33, 3, 0, 4, 0), (.iload_n 1, 1, 0, 0, 0), (.iastore, 1, 0, 0, 0), (.aload_n 0, 1, 0, 0, 0), (.getfield 15, 3, 0, 1, 0), (.aload_n 0, 1, 0, 0, 0), (.getfield 33, 3, 0, 4, 0), (.iload_n 2, 1, 0, 0, 0), (.bastore, 1, 0, 0, 0), (.aload_n 0, 1, 0, 0, 0), (.getfield 19, 3, 0, 2, 0), (.aload_n 0, 1, 0, 0, 0), (.getfield 33, 3, 0, 4, 0), (.iload_n 3, 1, 0, 0, 0), (.iastore, 1, 0, 0, 0), (.aload_n 0, 1, 0, 0, 0), (.dup, 1, 0, 0, 0), (.getfield 33, 3, 0, 4, 0), (.iconst 1, 1, 0, 0, 0), (.iadd, 1, 0, 0, 0), (.putfield 33, 3, 0, 4, 0), (.aload_n 0, 1, 0, 0, 0), (.getfield 33, 3, 0, 4, 0), (.iconst 1, 1, 0, 0, 0), (.isub, 1, 0, 0, 0), (.ireturn, 1, 0, 0, 0)]
set_option maxRecDepth 20000 in
theorem hX0_write_11 : zChk false 0 cX0_write 11 bX0_write_11 = true := by decide +kernel
def bX0_knownCount_0 : List zI := [(.aload_n 0, 1, 0, 0, 0), (.getfield 25, 3, 0, 5, 0), (.iconst (-1), 1, 0, 0, 0), (.if_icmp .ne 10, 3, 15, 0, 0), (.aload_n 0, 1, 0, 0, 0), (.getfield 33, 3, 0, 4, 0), (.goto 14, 3, 26, 0, 0)]
set_option maxRecDepth 20000 in
theorem hX0_knownCount_0 : zChk false 0 cX0_knownCount 0 bX0_knownCount_0 = true := by decide +kernel
def bX0_knownCount_15 : List zI := [(.aload_n 0, 1, 0, 0, 0), (.getfield 25, 3, 0, 5, 0), (.aload_n 0, 1, 0, 0, 0), (.getfield 33, 3, 0, 4, 0)]
set_option maxRecDepth 20000 in
theorem hX0_knownCount_15 : zChk false 0 cX0_knownCount 15 bX0_knownCount_15 = true := by decide +kernel
def bX0_knownCount_26 : List zI := [(.ireturn, 1, 0, 0, 0)]
set_option maxRecDepth 20000 in
theorem hX0_knownCount_26 : zChk false 0 cX0_knownCount 26 bX0_knownCount_26 = true := by decide +kernel
def bX0_rightOf_0 : List zI := [(.iconst 0, 1, 0, 0, 0), (.istore 4, 2, 0, 0, 0), (.aload_n 0, 1, 0, 0, 0), (.getfield 22, 3, 0, 3, 0), (.iconst 0, 1, 0, 0, 0)]
set_option maxRecDepth 20000 in
theorem hX0_rightOf_0 : zChk false 0 cX0_rightOf 0 bX0_rightOf_0 = true := by decide +kernel
def bX0_rightOf_11 : List zI := [(.aload_n 0, 1, 0, 0, 0)]
set_option maxRecDepth 20000 in
theorem hX0_rightOf_11 : zChk false 0 cX0_rightOf 11 bX0_rightOf_11 = true := by decide +kernel
def bX0_rightOf_15 : List zI := [(.iconst 1, 1, 0, 0, 0), (.isub, 1, 0, 0, 0), (.istore 5, 2, 0, 0, 0)]
set_option maxRecDepth 20000 in
theorem hX0_rightOf_15 : zChk false 0 cX0_rightOf 15 bX0_rightOf_15 = true := by decide +kernel
def bX0_rightOf_19 : List zI := [(.iload 5, 2, 0, 0, 0), (.ifCond .lt 86, 3, 107, 0, 0), (.aload_n 0, 1, 0, 0, 0), (.getfield 22, 3, 0, 3, 0), (.iload 5, 2, 0, 0, 0), (.iaload, 1, 0, 0, 0), (.ifCond .eq 6, 3, 37, 0, 0), (.goto 67, 3, 101, 0, 0)]
set_option maxRecDepth 20000 in
theorem hX0_rightOf_19 : zChk false 0 cX0_rightOf 19 bX0_rightOf_19 = true := by decide +kernel
def bX0_rightOf_37 : List zI := [(.aload_n 0, 1, 0, 0, 0), (.getfield 19, 3, 0, 2, 0), (.iload 5, 2, 0, 0, 0), (.iaload, 1, 0, 0, 0), (.ifCond .lt 31, 3, 75, 0, 0), (.aload_n 0, 1, 0, 0, 0), (.getfield 19, 3, 0, 2, 0), (.iload 5, 2, 0, 0, 0), (.iaload, 1, 0, 0, 0), (.iload 5, 2, 0, 0, 0), (.if_icmp .ge 19, 3, 75, 0, 0), (.aload_n 0, 1, 0, 0, 0), (.getfield 22, 3, 0, 3, 0), (.aload_n 0, 1, 0, 0, 0), (.getfield 19, 3, 0, 2, 0), (.iload 5, 2, 0, 0, 0), (.iaload, 1, 0, 0, 0), (.iconst 1, 1, 0, 0, 0), (.iastore, 1, 0, 0, 0), (.goto 29, 3, 101, 0, 0)]
set_option maxRecDepth 20000 in
theorem hX0_rightOf_37 : zChk false 0 cX0_rightOf 37 bX0_rightOf_37 = true := by decide +kernel
def bX0_rightOf_75 : List zI := [(.aload_n 0, 1, 0, 0, 0), (.getfield 9, 3, 0, 0, 0), (.iload 5, 2, 0, 0, 0), (.iaload, 1, 0, 0, 0), (.iload_n 1, 1, 0, 0, 0), (.iload_n 2, 1, 0, 0, 0), (.iload_n 3, 1, 0, 0, 0)]
set_option maxRecDepth 20000 in
theorem hX0_rightOf_75 : zChk false 0 cX0_rightOf 75 bX0_rightOf_75 = true := by decide +kernel
def bX0_rightOf_88 : List zI := [(.aload_n 0, 1, 0, 0, 0), (.getfield 15, 3, 0, 1, 0), (.iload 5, 2, 0, 0, 0), (.baload, 1, 0, 0, 0), (.if_icmp .ne 6, 3, 101, 0, 0), (.iinc 4 1, 3, 0, 0, 0), (.iinc 5 (-1), 3, 0, 0, 0), (.goto (-85), 3, 19, 0, 0)]
set_option maxRecDepth 20000 in
theorem hX0_rightOf_88 : zChk false 0 cX0_rightOf 88 bX0_rightOf_88 = true := by decide +kernel
def bX0_rightOf_101 : List zI := [(.iinc 5 (-1), 3, 0, 0, 0), (.goto (-85), 3, 19, 0, 0)]
set_option maxRecDepth 20000 in
theorem hX0_rightOf_101 : zChk false 0 cX0_rightOf 101 bX0_rightOf_101 = true := by decide +kernel
def bX0_rightOf_107 : List zI := [(.iload 4, 2, 0, 0, 0), (.ireturn, 1, 0, 0, 0)]
set_option maxRecDepth 20000 in
theorem hX0_rightOf_107 : zChk false 0 cX0_rightOf 107 bX0_rightOf_107 = true := by decide +kernel
def bX0_isThere_0 : List zI := [(.iload_n 0, 1, 0, 0, 0), (.iload_n 1, 1, 0, 0, 0), (.ishr, 1, 0, 0, 0), (.iconst 1, 1, 0, 0, 0), (.iand, 1, 0, 0, 0), (.iconst 1, 1, 0, 0, 0), (.if_icmp .ne 7, 3, 13, 0, 0), (.iconst 1, 1, 0, 0, 0), (.goto 4, 3, 14, 0, 0)]
set_option maxRecDepth 20000 in
theorem hX0_isThere_0 : zChk false 0 cX0_isThere 0 bX0_isThere_0 = true := by decide +kernel
def bX0_isThere_13 : List zI := [(.iconst 0, 1, 0, 0, 0), (.istore 4, 2, 0, 0, 0), (.iload_n 0, 1, 0, 0, 0), (.iload_n 2, 1, 0, 0, 0), (.ishr, 1, 0, 0, 0), (.iconst 1, 1, 0, 0, 0), (.iand, 1, 0, 0, 0), (.iconst 1, 1, 0, 0, 0), (.if_icmp .ne 7, 3, 29, 0, 0), (.iconst 1, 1, 0, 0, 0), (.goto 4, 3, 30, 0, 0)]
set_option maxRecDepth 20000 in
theorem hX0_isThere_13 : zChk false 0 cX0_isThere 13 bX0_isThere_13 = true := by decide +kernel
def bX0_isThere_14 : List zI := [(.istore 4, 2, 0, 0, 0), (.iload_n 0, 1, 0, 0, 0), (.iload_n 2, 1, 0, 0, 0), (.ishr, 1, 0, 0, 0), (.iconst 1, 1, 0, 0, 0), (.iand, 1, 0, 0, 0), (.iconst 1, 1, 0, 0, 0), (.if_icmp .ne 7, 3, 29, 0, 0), (.iconst 1, 1, 0, 0, 0), (.goto 4, 3, 30, 0, 0)]
set_option maxRecDepth 20000 in
theorem hX0_isThere_14 : zChk false 0 cX0_isThere 14 bX0_isThere_14 = true := by decide +kernel
def bX0_isThere_29 : List zI := [(.iconst 0, 1, 0, 0, 0), (.istore 5, 2, 0, 0, 0), (.iload_n 3, 1, 0, 0, 0), (.ifCond .eq 21, 3, 54, 0, 0), (.iload 4, 2, 0, 0, 0), (.ifCond .ne 8, 3, 46, 0, 0), (.iload 5, 2, 0, 0, 0), (.ifCond .eq 7, 3, 50, 0, 0), (.iconst 1, 1, 0, 0, 0), (.goto 22, 3, 69, 0, 0)]
set_option maxRecDepth 20000 in
theorem hX0_isThere_29 : zChk false 0 cX0_isThere 29 bX0_isThere_29 = true := by decide +kernel
def bX0_isThere_30 : List zI := [(.istore 5, 2, 0, 0, 0), (.iload_n 3, 1, 0, 0, 0), (.ifCond .eq 21, 3, 54, 0, 0), (.iload 4, 2, 0, 0, 0), (.ifCond .ne 8, 3, 46, 0, 0), (.iload 5, 2, 0, 0, 0), (.ifCond .eq 7, 3, 50, 0, 0), (.iconst 1, 1, 0, 0, 0), (.goto 22, 3, 69, 0, 0)]
set_option maxRecDepth 20000 in
theorem hX0_isThere_30 : zChk false 0 cX0_isThere 30 bX0_isThere_30 = true := by decide +kernel
def bX0_isThere_46 : List zI := [(.iconst 1, 1, 0, 0, 0), (.goto 22, 3, 69, 0, 0)]
set_option maxRecDepth 20000 in
theorem hX0_isThere_46 : zChk false 0 cX0_isThere 46 bX0_isThere_46 = true := by decide +kernel
def bX0_isThere_50 : List zI := [(.iconst 0, 1, 0, 0, 0), (.goto 18, 3, 69, 0, 0)]
set_option maxRecDepth 20000 in
theorem hX0_isThere_50 : zChk false 0 cX0_isThere 50 bX0_isThere_50 = true := by decide +kernel
def bX0_isThere_54 : List zI := [(.iload 4, 2, 0, 0, 0), (.ifCond .eq 12, 3, 68, 0, 0), (.iload 5, 2, 0, 0, 0), (.ifCond .eq 7, 3, 68, 0, 0), (.iconst 1, 1, 0, 0, 0), (.goto 4, 3, 69, 0, 0)]
set_option maxRecDepth 20000 in
theorem hX0_isThere_54 : zChk false 0 cX0_isThere 54 bX0_isThere_54 = true := by decide +kernel
def bX0_isThere_68 : List zI := [(.iconst 0, 1, 0, 0, 0), (.ireturn, 1, 0, 0, 0)]
set_option maxRecDepth 20000 in
theorem hX0_isThere_68 : zChk false 0 cX0_isThere 68 bX0_isThere_68 = true := by decide +kernel
def bX0_isThere_69 : List zI := [(.ireturn, 1, 0, 0, 0)]
set_option maxRecDepth 20000 in
theorem hX0_isThere_69 : zChk false 0 cX0_isThere 69 bX0_isThere_69 = true := by decide +kernel
def bX1_init_0 : List zI := [(.aload_n 0, 1, 0, 0, 0)]
set_option maxRecDepth 20000 in
theorem hX1_init_0 : zChk true 1 cX1_init 0 bX1_init_0 = true := by decide +kernel
def bX1_init_4 : List zI := [(.aload_n 0, 1, 0, 0, 0), (.bipush 20, 2, 0, 0, 0)]
set_option maxRecDepth 20000 in
theorem hX1_init_4 : zChk true 1 cX1_init 4 bX1_init_4 = true := by decide +kernel
def bX1_init_9 : List zI := [(.putfield 9, 3, 1, 0, 0), (.aload_n 0, 1, 0, 0, 0), (.bipush 20, 2, 0, 0, 0)]
set_option maxRecDepth 20000 in
theorem hX1_init_9 : zChk true 1 cX1_init 9 bX1_init_9 = true := by decide +kernel
def bX1_init_17 : List zI := [(.putfield 15, 3, 1, 1, 0), (.aload_n 0, 1, 0, 0, 0), (.bipush 20, 2, 0, 0, 0)]
set_option maxRecDepth 20000 in
theorem hX1_init_17 : zChk true 1 cX1_init 17 bX1_init_17 = true := by decide +kernel
def bX1_init_25 : List zI := [(.putfield 18, 3, 1, 2, 0), (.aload_n 0, 1, 0, 0, 0), (.bipush 20, 2, 0, 0, 0)]
set_option maxRecDepth 20000 in
theorem hX1_init_25 : zChk true 1 cX1_init 25 bX1_init_25 = true := by decide +kernel
def bX1_init_33 : List zI := [(.putfield 21, 3, 1, 3, 0), (.return_, 1, 0, 0, 0)]
set_option maxRecDepth 20000 in
theorem hX1_init_33 : zChk true 1 cX1_init 33 bX1_init_33 = true := by decide +kernel
def bX1_noteChairs_0 : List zI := [(.aload_n 0, 1, 0, 0, 0)]
set_option maxRecDepth 20000 in
theorem hX1_noteChairs_0 : zChk false 1 cX1_noteChairs 0 bX1_noteChairs_0 = true := by decide +kernel
def bX1_noteChairs_4 : List zI := [(.aload_n 0, 1, 0, 0, 0), (.getfield 9, 3, 1, 0, 0), (.aload_n 0, 1, 0, 0, 0), (.getfield 28, 3, 1, 4, 0), (.iload_n 1, 1, 0, 0, 0), (.iastore, 1, 0, 0, 0), (.aload_n 0, 1, 0, 0, 0), (.getfield 15, 3, 1, 1, 0), (.aload_n 0, 1, 0, 0, 0), (.getfield 28, 3, 1, 4, 0), (.iload_n 2, 1, 0, 0, 0), (.iastore, 1, 0, 0, 0), (.aload_n 0, 1, 0, 0, 0), (.getfield 21, 3, 1, 3, 0), (.aload_n 0, 1, 0, 0, 0), (.getfield 28, 3, 1, 4, 0), (.lload_n 3, 1, 0, 0, 0), (.lastore, 1, 0, 0, 0), (.aload_n 0, 1, 0, 0, 0), (.dup, 1, 0, 0, 0), (.getfield 28, 3, 1, 4, 0), (.iconst 1, 1, 0, 0, 0), (.iadd, 1, 0, 0, 0), (.putfield 28, 3, 1, 4, 0), (.return_, 1, 0, 0, 0)]
set_option maxRecDepth 20000 in
theorem hX1_noteChairs_4 : zChk false 1 cX1_noteChairs 4 bX1_noteChairs_4 = true := by decide +kernel
def bX1_noteRoute_0 : List zI := [(.aload_n 0, 1, 0, 0, 0)]
set_option maxRecDepth 20000 in
theorem hX1_noteRoute_0 : zChk false 1 cX1_noteRoute 0 bX1_noteRoute_0 = true := by decide +kernel
def bX1_noteRoute_4 : List zI := [(.aload_n 0, 1, 0, 0, 0), (.getfield 9, 3, 1, 0, 0), (.aload_n 0, 1, 0, 0, 0), (.getfield 28, 3, 1, 4, 0), (.iconst 2, 1, 0, 0, 0), (.iastore, 1, 0, 0, 0), (.aload_n 0, 1, 0, 0, 0), (.getfield 15, 3, 1, 1, 0), (.aload_n 0, 1, 0, 0, 0), (.getfield 28, 3, 1, 4, 0), (.aload_n 1, 1, 0, 0, 0), (.getfield 32, 3, 2, 12, 0), (.iastore, 1, 0, 0, 0), (.aload_n 0, 1, 0, 0, 0), (.getfield 18, 3, 1, 2, 0), (.aload_n 0, 1, 0, 0, 0), (.getfield 28, 3, 1, 4, 0), (.aload_n 1, 1, 0, 0, 0), (.getfield 37, 3, 2, 13, 0), (.iastore, 1, 0, 0, 0), (.aload_n 0, 1, 0, 0, 0), (.getfield 21, 3, 1, 3, 0), (.aload_n 0, 1, 0, 0, 0), (.getfield 28, 3, 1, 4, 0), (.aload_n 1, 1, 0, 0, 0), (.getfield 40, 3, 2, 14, 0), (.lastore, 1, 0, 0, 0), (.aload_n 0, 1, 0, 0, 0), (.dup, 1, 0, 0, 0), (.getfield 28, 3, 1, 4, 0), (.iconst 1, 1, 0, 0, 0), (.iadd, 1, 0, 0, 0), (.putfield 28, 3, 1, 4, 0), (.return_, 1, 0, 0, 0)]
set_option maxRecDepth 20000 in
theorem hX1_noteRoute_4 : zChk false 1 cX1_noteRoute 4 bX1_noteRoute_4 = true := by decide +kernel
def bX1_makeRoom_0 : List zI := [(.aload_n 0, 1, 0, 0, 0), (.getfield 28, 3, 1, 4, 0), (.bipush 20, 2, 0, 0, 0), (.if_icmp .ge 4, 3, 10, 0, 0), (.return_, 1, 0, 0, 0)]
set_option maxRecDepth 20000 in
theorem hX1_makeRoom_0 : zChk false 1 cX1_makeRoom 0 bX1_makeRoom_0 = true := by decide +kernel
def bX1_makeRoom_10 : List zI := [(.aload_n 0, 1, 0, 0, 0), (.bipush 19, 2, 0, 0, 0), (.putfield 28, 3, 1, 4, 0), (.aload_n 0, 1, 0, 0, 0), (.getfield 9, 3, 1, 0, 0), (.iconst 1, 1, 0, 0, 0), (.aload_n 0, 1, 0, 0, 0), (.getfield 9, 3, 1, 0, 0), (.iconst 0, 1, 0, 0, 0), (.aload_n 0, 1, 0, 0, 0), (.getfield 28, 3, 1, 4, 0)]
set_option maxRecDepth 20000 in
theorem hX1_makeRoom_10 : zChk false 1 cX1_makeRoom 10 bX1_makeRoom_10 = true := by decide +kernel
def bX1_makeRoom_33 : List zI := [(.aload_n 0, 1, 0, 0, 0), (.getfield 15, 3, 1, 1, 0), (.iconst 1, 1, 0, 0, 0), (.aload_n 0, 1, 0, 0, 0), (.getfield 15, 3, 1, 1, 0), (.iconst 0, 1, 0, 0, 0), (.aload_n 0, 1, 0, 0, 0), (.getfield 28, 3, 1, 4, 0)]
set_option maxRecDepth 20000 in
theorem hX1_makeRoom_33 : zChk false 1 cX1_makeRoom 33 bX1_makeRoom_33 = true := by decide +kernel
def bX1_makeRoom_50 : List zI := [(.aload_n 0, 1, 0, 0, 0), (.getfield 18, 3, 1, 2, 0), (.iconst 1, 1, 0, 0, 0), (.aload_n 0, 1, 0, 0, 0), (.getfield 18, 3, 1, 2, 0), (.iconst 0, 1, 0, 0, 0), (.aload_n 0, 1, 0, 0, 0), (.getfield 28, 3, 1, 4, 0)]
set_option maxRecDepth 20000 in
theorem hX1_makeRoom_50 : zChk false 1 cX1_makeRoom 50 bX1_makeRoom_50 = true := by decide +kernel
def bX1_makeRoom_67 : List zI := [(.aload_n 0, 1, 0, 0, 0), (.getfield 21, 3, 1, 3, 0), (.iconst 1, 1, 0, 0, 0), (.aload_n 0, 1, 0, 0, 0), (.getfield 21, 3, 1, 3, 0), (.iconst 0, 1, 0, 0, 0), (.aload_n 0, 1, 0, 0, 0), (.getfield 28, 3, 1, 4, 0)]
set_option maxRecDepth 20000 in
theorem hX1_makeRoom_67 : zChk false 1 cX1_makeRoom 67 bX1_makeRoom_67 = true := by decide +kernel
def bX1_makeRoom_84 : List zI := [(.return_, 1, 0, 0, 0)]
set_option maxRecDepth 20000 in
theorem hX1_makeRoom_84 : zChk false 1 cX1_makeRoom 84 bX1_makeRoom_84 = true := by decide +kernel
def bX1_takeBack_0 : List zI := [(.aload_n 0, 1, 0, 0, 0), (.getfield 28, 3, 1, 4, 0), (.ifCond .ne 4, 3, 8, 0, 0), (.return_, 1, 0, 0, 0)]
set_option maxRecDepth 20000 in
theorem hX1_takeBack_0 : zChk false 1 cX1_takeBack 0 bX1_takeBack_0 = true := by decide +kernel
def bX1_takeBack_8 : List zI := [(.aload_n 0, 1, 0, 0, 0), (.dup, 1, 0, 0, 0), (.getfield 28, 3, 1, 4, 0), (.iconst 1, 1, 0, 0, 0), (.isub, 1, 0, 0, 0), (.putfield 28, 3, 1, 4, 0), (.aload_n 0, 1, 0, 0, 0), (.getfield 9, 3, 1, 0, 0), (.aload_n 0, 1, 0, 0, 0), (.getfield 28, 3, 1, 4, 0), (.iaload, 1, 0, 0, 0), (.iconst 2, 1, 0, 0, 0), (.if_icmp .ne 39, 3, 67, 0, 0), (.aload_n 1, 1, 0, 0, 0), (.aload_n 0, 1, 0, 0, 0), (.getfield 15, 3, 1, 1, 0), (.aload_n 0, 1, 0, 0, 0), (.getfield 28, 3, 1, 4, 0), (.iaload, 1, 0, 0, 0), (.aload_n 0, 1, 0, 0, 0), (.getfield 21, 3, 1, 3, 0), (.aload_n 0, 1, 0, 0, 0), (.getfield 28, 3, 1, 4, 0), (.laload, 1, 0, 0, 0)]
set_option maxRecDepth 20000 in
theorem hX1_takeBack_8 : zChk false 1 cX1_takeBack 8 bX1_takeBack_8 = true := by decide +kernel
def bX1_takeBack_53 : List zI := [(.aload_n 1, 1, 0, 0, 0), (.aload_n 0, 1, 0, 0, 0), (.getfield 18, 3, 1, 2, 0), (.aload_n 0, 1, 0, 0, 0), (.getfield 28, 3, 1, 4, 0), (.iaload, 1, 0, 0, 0), (.putfield 37, 3, 2, 13, 0), (.return_, 1, 0, 0, 0)]
set_option maxRecDepth 20000 in
theorem hX1_takeBack_53 : zChk false 1 cX1_takeBack 53 bX1_takeBack_53 = true := by decide +kernel
def bX1_takeBack_67 : List zI := [(.iconst 0, 1, 0, 0, 0), (.istore_n 2, 1, 0, 0, 0)]
set_option maxRecDepth 20000 in
theorem hX1_takeBack_67 : zChk false 1 cX1_takeBack 67 bX1_takeBack_67 = true := by decide +kernel
def bX1_takeBack_69 : List zI := [(.iload_n 2, 1, 0, 0, 0), (.aload_n 1, 1, 0, 0, 0), (.getfield 54, 3, 2, 8, 0), (.if_icmp .ge 61, 3, 135, 0, 0), (.aload_n 0, 1, 0, 0, 0), (.getfield 21, 3, 1, 3, 0), (.aload_n 0, 1, 0, 0, 0), (.getfield 28, 3, 1, 4, 0), (.laload, 1, 0, 0, 0), (.iload_n 2, 1, 0, 0, 0), (.lshr, 1, 0, 0, 0), (.lconst 1, 1, 0, 0, 0), (.land, 1, 0, 0, 0), (.lconst 1, 1, 0, 0, 0), (.lcmp, 1, 0, 0, 0), (.ifCond .ne 37, 3, 129, 0, 0), (.aload_n 0, 1, 0, 0, 0), (.getfield 9, 3, 1, 0, 0), (.aload_n 0, 1, 0, 0, 0), (.getfield 28, 3, 1, 4, 0), (.iaload, 1, 0, 0, 0), (.ifCond .ne 11, 3, 115, 0, 0), (.aload_n 1, 1, 0, 0, 0), (.iload_n 2, 1, 0, 0, 0)]
set_option maxRecDepth 20000 in
theorem hX1_takeBack_69 : zChk false 1 cX1_takeBack 69 bX1_takeBack_69 = true := by decide +kernel
def bX1_takeBack_112 : List zI := [(.goto 17, 3, 129, 0, 0)]
set_option maxRecDepth 20000 in
theorem hX1_takeBack_112 : zChk false 1 cX1_takeBack 112 bX1_takeBack_112 = true := by decide +kernel
def bX1_takeBack_115 : List zI := [(.aload_n 1, 1, 0, 0, 0), (.iload_n 2, 1, 0, 0, 0), (.aload_n 0, 1, 0, 0, 0), (.getfield 15, 3, 1, 1, 0), (.aload_n 0, 1, 0, 0, 0), (.getfield 28, 3, 1, 4, 0), (.iaload, 1, 0, 0, 0)]
set_option maxRecDepth 20000 in
theorem hX1_takeBack_115 : zChk false 1 cX1_takeBack 115 bX1_takeBack_115 = true := by decide +kernel
def bX1_takeBack_129 : List zI := [(.iinc 2 1, 3, 0, 0, 0), (.goto (-63), 3, 69, 0, 0)]
set_option maxRecDepth 20000 in
theorem hX1_takeBack_129 : zChk false 1 cX1_takeBack 129 bX1_takeBack_129 = true := by decide +kernel
def bX1_takeBack_135 : List zI := [(.aload_n 1, 1, 0, 0, 0), (.dup, 1, 0, 0, 0), (.getfield 65, 3, 2, 11, 0), (.aload_n 0, 1, 0, 0, 0), (.getfield 21, 3, 1, 3, 0), (.aload_n 0, 1, 0, 0, 0), (.getfield 28, 3, 1, 4, 0), (.laload, 1, 0, 0, 0)]
set_option maxRecDepth 20000 in
theorem hX1_takeBack_135 : zChk false 1 cX1_takeBack 135 bX1_takeBack_135 = true := by decide +kernel
def bX1_takeBack_152 : List zI := [(.isub, 1, 0, 0, 0), (.putfield 65, 3, 2, 11, 0), (.return_, 1, 0, 0, 0)]
set_option maxRecDepth 20000 in
theorem hX1_takeBack_152 : zChk false 1 cX1_takeBack 152 bX1_takeBack_152 = true := by decide +kernel
def bX2_init_0 : List zI := [(.aload_n 0, 1, 0, 0, 0)]
set_option maxRecDepth 20000 in
theorem hX2_init_0 : zChk true 2 cX2_init 0 bX2_init_0 = true := by decide +kernel
def bX2_init_4 : List zI := [(.aload_n 0, 1, 0, 0, 0), (.bipush 40, 2, 0, 0, 0)]
set_option maxRecDepth 20000 in
theorem hX2_init_4 : zChk true 2 cX2_init 4 bX2_init_4 = true := by decide +kernel
def bX2_init_9 : List zI := [(.putfield 9, 3, 2, 0, 0), (.aload_n 0, 1, 0, 0, 0), (.bipush 40, 2, 0, 0, 0)]
set_option maxRecDepth 20000 in
theorem hX2_init_9 : zChk true 2 cX2_init 9 bX2_init_9 = true := by decide +kernel
def bX2_init_17 : List zI := [(.putfield 15, 3, 2, 1, 0), (.aload_n 0, 1, 0, 0, 0), (.bipush 40, 2, 0, 0, 0)]
set_option maxRecDepth 20000 in
theorem hX2_init_17 : zChk true 2 cX2_init 17 bX2_init_17 = true := by decide +kernel
def bX2_init_25 : List zI := [(.putfield 18, 3, 2, 2, 0), (.aload_n 0, 1, 0, 0, 0), (.bipush 40, 2, 0, 0, 0)]
set_option maxRecDepth 20000 in
theorem hX2_init_25 : zChk true 2 cX2_init 25 bX2_init_25 = true := by decide +kernel
def bX2_init_33 : List zI := [(.putfield 21, 3, 2, 3, 0), (.aload_n 0, 1, 0, 0, 0), (.bipush 40, 2, 0, 0, 0)]
set_option maxRecDepth 20000 in
theorem hX2_init_33 : zChk true 2 cX2_init 33 bX2_init_33 = true := by decide +kernel
def bX2_init_41 : List zI := [(.putfield 24, 3, 2, 4, 0), (.aload_n 0, 1, 0, 0, 0), (.iconst 5, 1, 0, 0, 0)]
set_option maxRecDepth 20000 in
theorem hX2_init_41 : zChk true 2 cX2_init 41 bX2_init_41 = true := by decide +kernel
def bX2_init_48 : List zI := [(.putfield 27, 3, 2, 5, 0), (.aload_n 0, 1, 0, 0, 0), (.iconst 5, 1, 0, 0, 0)]
set_option maxRecDepth 20000 in
theorem hX2_init_48 : zChk true 2 cX2_init 48 bX2_init_48 = true := by decide +kernel
def bX2_init_55 : List zI := [(.putfield 30, 3, 2, 6, 0), (.aload_n 0, 1, 0, 0, 0), (.bipush 7, 2, 0, 0, 0)]
set_option maxRecDepth 20000 in
theorem hX2_init_55 : zChk true 2 cX2_init 55 bX2_init_55 = true := by decide +kernel
def bX2_init_63 : List zI := [(.putfield 33, 3, 2, 7, 0), (.return_, 1, 0, 0, 0)]
set_option maxRecDepth 20000 in
theorem hX2_init_63 : zChk true 2 cX2_init 63 bX2_init_63 = true := by decide +kernel
def bX2_clear_0 : List zI := [(.aload_n 0, 1, 0, 0, 0), (.getfield 9, 3, 2, 0, 0), (.iconst 0, 1, 0, 0, 0)]
set_option maxRecDepth 20000 in
theorem hX2_clear_0 : zChk false 2 cX2_clear 0 bX2_clear_0 = true := by decide +kernel
def bX2_clear_8 : List zI := [(.aload_n 0, 1, 0, 0, 0), (.getfield 15, 3, 2, 1, 0), (.iconst (-1), 1, 0, 0, 0)]
set_option maxRecDepth 20000 in
theorem hX2_clear_8 : zChk false 2 cX2_clear 8 bX2_clear_8 = true := by decide +kernel
def bX2_clear_16 : List zI := [(.aload_n 0, 1, 0, 0, 0), (.getfield 18, 3, 2, 2, 0), (.iconst 0, 1, 0, 0, 0)]
set_option maxRecDepth 20000 in
theorem hX2_clear_16 : zChk false 2 cX2_clear 16 bX2_clear_16 = true := by decide +kernel
def bX2_clear_24 : List zI := [(.aload_n 0, 1, 0, 0, 0), (.getfield 21, 3, 2, 3, 0), (.iconst (-1), 1, 0, 0, 0)]
set_option maxRecDepth 20000 in
theorem hX2_clear_24 : zChk false 2 cX2_clear 24 bX2_clear_24 = true := by decide +kernel
def bX2_clear_32 : List zI := [(.aload_n 0, 1, 0, 0, 0), (.getfield 24, 3, 2, 4, 0), (.iconst 0, 1, 0, 0, 0)]
set_option maxRecDepth 20000 in
theorem hX2_clear_32 : zChk false 2 cX2_clear 32 bX2_clear_32 = true := by decide +kernel
def bX2_clear_40 : List zI := [(.aload_n 0, 1, 0, 0, 0), (.getfield 27, 3, 2, 5, 0), (.iconst 0, 1, 0, 0, 0)]
set_option maxRecDepth 20000 in
theorem hX2_clear_40 : zChk false 2 cX2_clear 40 bX2_clear_40 = true := by decide +kernel
def bX2_clear_48 : List zI := [(.aload_n 0, 1, 0, 0, 0), (.getfield 30, 3, 2, 6, 0), (.iconst 0, 1, 0, 0, 0)]
set_option maxRecDepth 20000 in
theorem hX2_clear_48 : zChk false 2 cX2_clear 48 bX2_clear_48 = true := by decide +kernel
def bX2_clear_56 : List zI := [(.aload_n 0, 1, 0, 0, 0), (.getfield 33, 3, 2, 7, 0), (.iconst 0, 1, 0, 0, 0)]
set_option maxRecDepth 20000 in
theorem hX2_clear_56 : zChk false 2 cX2_clear 56 bX2_clear_56 = true := by decide +kernel
def bX2_clear_64 : List zI := [(.aload_n 0, 1, 0, 0, 0), (.iload_n 1, 1, 0, 0, 0), (.putfield 42, 3, 2, 8, 0), (.aload_n 0, 1, 0, 0, 0), (.iload_n 1, 1, 0, 0, 0), (.putfield 46, 3, 2, 9, 0), (.aload_n 0, 1, 0, 0, 0), (.iconst 0, 1, 0, 0, 0), (.putfield 49, 3, 2, 10, 0), (.aload_n 0, 1, 0, 0, 0), (.iconst 0, 1, 0, 0, 0), (.putfield 52, 3, 2, 11, 0), (.aload_n 0, 1, 0, 0, 0), (.iconst 0, 1, 0, 0, 0), (.lconst 0, 1, 0, 0, 0)]
set_option maxRecDepth 20000 in
theorem hX2_clear_64 : zChk false 2 cX2_clear 64 bX2_clear_64 = true := by decide +kernel
def bX2_clear_90 : List zI := [(.aload_n 0, 1, 0, 0, 0), (.iload_n 2, 1, 0, 0, 0), (.i2l, 1, 0, 0, 0), (.putfield 59, 3, 2, 15, 0), (.return_, 1, 0, 0, 0)]
set_option maxRecDepth 20000 in
theorem hX2_clear_90 : zChk false 2 cX2_clear 90 bX2_clear_90 = true := by decide +kernel
def bX2_copyFrom_0 : List zI := [(.aload_n 1, 1, 0, 0, 0), (.getfield 9, 3, 2, 0, 0), (.iconst 0, 1, 0, 0, 0), (.aload_n 0, 1, 0, 0, 0), (.getfield 9, 3, 2, 0, 0), (.iconst 0, 1, 0, 0, 0), (.bipush 40, 2, 0, 0, 0)]
set_option maxRecDepth 20000 in
theorem hX2_copyFrom_0 : zChk false 2 cX2_copyFrom 0 bX2_copyFrom_0 = true := by decide +kernel
def bX2_copyFrom_15 : List zI := [(.aload_n 1, 1, 0, 0, 0), (.getfield 15, 3, 2, 1, 0), (.iconst 0, 1, 0, 0, 0), (.aload_n 0, 1, 0, 0, 0), (.getfield 15, 3, 2, 1, 0), (.iconst 0, 1, 0, 0, 0), (.bipush 40, 2, 0, 0, 0)]
set_option maxRecDepth 20000 in
theorem hX2_copyFrom_15 : zChk false 2 cX2_copyFrom 15 bX2_copyFrom_15 = true := by decide +kernel
def bX2_copyFrom_30 : List zI := [(.aload_n 1, 1, 0, 0, 0), (.getfield 18, 3, 2, 2, 0), (.iconst 0, 1, 0, 0, 0), (.aload_n 0, 1, 0, 0, 0), (.getfield 18, 3, 2, 2, 0), (.iconst 0, 1, 0, 0, 0), (.bipush 40, 2, 0, 0, 0)]
set_option maxRecDepth 20000 in
theorem hX2_copyFrom_30 : zChk false 2 cX2_copyFrom 30 bX2_copyFrom_30 = true := by decide +kernel
def bX2_copyFrom_45 : List zI := [(.aload_n 1, 1, 0, 0, 0), (.getfield 21, 3, 2, 3, 0), (.iconst 0, 1, 0, 0, 0), (.aload_n 0, 1, 0, 0, 0), (.getfield 21, 3, 2, 3, 0), (.iconst 0, 1, 0, 0, 0), (.bipush 40, 2, 0, 0, 0)]
set_option maxRecDepth 20000 in
theorem hX2_copyFrom_45 : zChk false 2 cX2_copyFrom 45 bX2_copyFrom_45 = true := by decide +kernel
def bX2_copyFrom_60 : List zI := [(.aload_n 1, 1, 0, 0, 0), (.getfield 24, 3, 2, 4, 0), (.iconst 0, 1, 0, 0, 0), (.aload_n 0, 1, 0, 0, 0), (.getfield 24, 3, 2, 4, 0), (.iconst 0, 1, 0, 0, 0), (.bipush 40, 2, 0, 0, 0)]
set_option maxRecDepth 20000 in
theorem hX2_copyFrom_60 : zChk false 2 cX2_copyFrom 60 bX2_copyFrom_60 = true := by decide +kernel
def bX2_copyFrom_75 : List zI := [(.aload_n 1, 1, 0, 0, 0), (.getfield 27, 3, 2, 5, 0), (.iconst 0, 1, 0, 0, 0), (.aload_n 0, 1, 0, 0, 0), (.getfield 27, 3, 2, 5, 0), (.iconst 0, 1, 0, 0, 0), (.iconst 5, 1, 0, 0, 0)]
set_option maxRecDepth 20000 in
theorem hX2_copyFrom_75 : zChk false 2 cX2_copyFrom 75 bX2_copyFrom_75 = true := by decide +kernel
def bX2_copyFrom_89 : List zI := [(.aload_n 1, 1, 0, 0, 0), (.getfield 30, 3, 2, 6, 0), (.iconst 0, 1, 0, 0, 0), (.aload_n 0, 1, 0, 0, 0), (.getfield 30, 3, 2, 6, 0), (.iconst 0, 1, 0, 0, 0), (.iconst 5, 1, 0, 0, 0)]
set_option maxRecDepth 20000 in
theorem hX2_copyFrom_89 : zChk false 2 cX2_copyFrom 89 bX2_copyFrom_89 = true := by decide +kernel
def bX2_copyFrom_103 : List zI := [(.aload_n 1, 1, 0, 0, 0), (.getfield 33, 3, 2, 7, 0), (.iconst 0, 1, 0, 0, 0), (.aload_n 0, 1, 0, 0, 0), (.getfield 33, 3, 2, 7, 0), (.iconst 0, 1, 0, 0, 0), (.bipush 7, 2, 0, 0, 0)]
set_option maxRecDepth 20000 in
theorem hX2_copyFrom_103 : zChk false 2 cX2_copyFrom 103 bX2_copyFrom_103 = true := by decide +kernel
def bX2_copyFrom_118 : List zI := [(.aload_n 0, 1, 0, 0, 0), (.aload_n 1, 1, 0, 0, 0), (.getfield 42, 3, 2, 8, 0), (.putfield 42, 3, 2, 8, 0), (.aload_n 0, 1, 0, 0, 0), (.aload_n 1, 1, 0, 0, 0), (.getfield 46, 3, 2, 9, 0), (.putfield 46, 3, 2, 9, 0), (.aload_n 0, 1, 0, 0, 0), (.aload_n 1, 1, 0, 0, 0), (.getfield 49, 3, 2, 10, 0), (.putfield 49, 3, 2, 10, 0), (.aload_n 0, 1, 0, 0, 0), (.aload_n 1, 1, 0, 0, 0), (.getfield 52, 3, 2, 11, 0), (.putfield 52, 3, 2, 11, 0), (.aload_n 0, 1, 0, 0, 0), (.aload_n 1, 1, 0, 0, 0), (.getfield 69, 3, 2, 12, 0), (.putfield 69, 3, 2, 12, 0), (.aload_n 0, 1, 0, 0, 0), (.aload_n 1, 1, 0, 0, 0), (.getfield 72, 3, 2, 13, 0), (.putfield 72, 3, 2, 13, 0), (.aload_n 0, 1, 0, 0, 0), (.aload_n 1, 1, 0, 0, 0), (.getfield 75, 3, 2, 14, 0), (.putfield 75, 3, 2, 14, 0), (.aload_n 0, 1, 0, 0, 0), (.aload_n 1, 1, 0, 0, 0), (.getfield 59, 3, 2, 15, 0), (.putfield 59, 3, 2, 15, 0), (.return_, 1, 0, 0, 0)]
set_option maxRecDepth 20000 in
theorem hX2_copyFrom_118 : zChk false 2 cX2_copyFrom 118 bX2_copyFrom_118 = true := by decide +kernel
def bX2_following_0 : List zI := [(.lload_n 0, 1, 0, 0, 0), (.ldc2_w 78, 3, 0, 0, 1103515245), (.lmul, 1, 0, 0, 0), (.ldc2_w 80, 3, 0, 0, 12345), (.ladd, 1, 0, 0, 0), (.ldc2_w 82, 3, 0, 0, 2147483647), (.land, 1, 0, 0, 0), (.lreturn, 1, 0, 0, 0)]
set_option maxRecDepth 20000 in
theorem hX2_following_0 : zChk false 2 cX2_following 0 bX2_following_0 = true := by decide +kernel
def bX2_numberOf_0 : List zI := [(.lload_n 0, 1, 0, 0, 0), (.bipush 16, 2, 0, 0, 0), (.lshr, 1, 0, 0, 0), (.lreturn, 1, 0, 0, 0)]
set_option maxRecDepth 20000 in
theorem hX2_numberOf_0 : zChk false 2 cX2_numberOf 0 bX2_numberOf_0 = true := by decide +kernel
def bX2_setRoute_0 : List zI := [(.aload_n 0, 1, 0, 0, 0), (.iload_n 1, 1, 0, 0, 0), (.putfield 69, 3, 2, 12, 0), (.aload_n 0, 1, 0, 0, 0), (.lload_n 2, 1, 0, 0, 0), (.putfield 75, 3, 2, 14, 0), (.aload_n 0, 1, 0, 0, 0), (.aload_n 0, 1, 0, 0, 0), (.getfield 49, 3, 2, 10, 0), (.putfield 72, 3, 2, 13, 0), (.return_, 1, 0, 0, 0)]
set_option maxRecDepth 20000 in
theorem hX2_setRoute_0 : zChk false 2 cX2_setRoute 0 bX2_setRoute_0 = true := by decide +kernel
def bX2_balance_0 : List zI := [(.aload_n 0, 1, 0, 0, 0), (.getfield 33, 3, 2, 7, 0), (.iconst 0, 1, 0, 0, 0), (.iaload, 1, 0, 0, 0), (.iload_n 1, 1, 0, 0, 0), (.aload_n 0, 1, 0, 0, 0), (.getfield 33, 3, 2, 7, 0), (.iconst 5, 1, 0, 0, 0), (.iaload, 1, 0, 0, 0), (.imul, 1, 0, 0, 0), (.isub, 1, 0, 0, 0), (.ireturn, 1, 0, 0, 0)]
set_option maxRecDepth 20000 in
theorem hX2_balance_0 : zChk false 2 cX2_balance 0 bX2_balance_0 = true := by decide +kernel
def bX2_isPlace_0 : List zI := [(.iload_n 0, 1, 0, 0, 0), (.ifCond .lt 12, 3, 13, 0, 0), (.iload_n 0, 1, 0, 0, 0), (.iconst 5, 1, 0, 0, 0), (.if_icmp .ge 7, 3, 13, 0, 0), (.iconst 1, 1, 0, 0, 0), (.goto 4, 3, 14, 0, 0)]
set_option maxRecDepth 20000 in
theorem hX2_isPlace_0 : zChk false 2 cX2_isPlace 0 bX2_isPlace_0 = true := by decide +kernel
def bX2_isPlace_13 : List zI := [(.iconst 0, 1, 0, 0, 0), (.ireturn, 1, 0, 0, 0)]
set_option maxRecDepth 20000 in
theorem hX2_isPlace_13 : zChk false 2 cX2_isPlace 13 bX2_isPlace_13 = true := by decide +kernel
def bX2_isPlace_14 : List zI := [(.ireturn, 1, 0, 0, 0)]
set_option maxRecDepth 20000 in
theorem hX2_isPlace_14 : zChk false 2 cX2_isPlace 14 bX2_isPlace_14 = true := by decide +kernel
def bX2_putOut_0 : List zI := [(.lconst 0, 1, 0, 0, 0), (.lstore_n 3, 1, 0, 0, 0), (.iload_n 2, 1, 0, 0, 0), (.istore 5, 2, 0, 0, 0), (.iconst 0, 1, 0, 0, 0), (.istore 6, 2, 0, 0, 0)]
set_option maxRecDepth 20000 in
theorem hX2_putOut_0 : zChk false 2 cX2_putOut 0 bX2_putOut_0 = true := by decide +kernel
def bX2_putOut_8 : List zI := [(.iload 6, 2, 0, 0, 0), (.aload_n 0, 1, 0, 0, 0), (.getfield 42, 3, 2, 8, 0), (.if_icmp .ge 41, 3, 55, 0, 0), (.iload 5, 2, 0, 0, 0), (.ifCond .le 36, 3, 55, 0, 0), (.aload_n 0, 1, 0, 0, 0), (.getfield 9, 3, 2, 0, 0), (.iload 6, 2, 0, 0, 0), (.iaload, 1, 0, 0, 0), (.ifCond .ne 20, 3, 49, 0, 0), (.aload_n 0, 1, 0, 0, 0), (.iload 6, 2, 0, 0, 0), (.iload_n 1, 1, 0, 0, 0)]
set_option maxRecDepth 20000 in
theorem hX2_putOut_8 : zChk false 2 cX2_putOut 8 bX2_putOut_8 = true := by decide +kernel
def bX2_putOut_39 : List zI := [(.lload_n 3, 1, 0, 0, 0), (.lconst 1, 1, 0, 0, 0), (.iload 6, 2, 0, 0, 0), (.lshl, 1, 0, 0, 0), (.lor, 1, 0, 0, 0), (.lstore_n 3, 1, 0, 0, 0), (.iinc 5 (-1), 3, 0, 0, 0), (.iinc 6 1, 3, 0, 0, 0), (.goto (-44), 3, 8, 0, 0)]
set_option maxRecDepth 20000 in
theorem hX2_putOut_39 : zChk false 2 cX2_putOut 39 bX2_putOut_39 = true := by decide +kernel
def bX2_putOut_49 : List zI := [(.iinc 6 1, 3, 0, 0, 0), (.goto (-44), 3, 8, 0, 0)]
set_option maxRecDepth 20000 in
theorem hX2_putOut_49 : zChk false 2 cX2_putOut 49 bX2_putOut_49 = true := by decide +kernel
def bX2_putOut_55 : List zI := [(.lload_n 3, 1, 0, 0, 0), (.lreturn, 1, 0, 0, 0)]
set_option maxRecDepth 20000 in
theorem hX2_putOut_55 : zChk false 2 cX2_putOut 55 bX2_putOut_55 = true := by decide +kernel
def bX2_bringIn_0 : List zI := [(.lconst 0, 1, 0, 0, 0), (.lstore_n 3, 1, 0, 0, 0), (.iload_n 2, 1, 0, 0, 0), (.istore 5, 2, 0, 0, 0), (.iconst 0, 1, 0, 0, 0), (.istore 6, 2, 0, 0, 0)]
set_option maxRecDepth 20000 in
theorem hX2_bringIn_0 : zChk false 2 cX2_bringIn 0 bX2_bringIn_0 = true := by decide +kernel
def bX2_bringIn_8 : List zI := [(.iload 6, 2, 0, 0, 0), (.aload_n 0, 1, 0, 0, 0), (.getfield 42, 3, 2, 8, 0), (.if_icmp .ge 52, 3, 66, 0, 0), (.iload 5, 2, 0, 0, 0), (.ifCond .le 47, 3, 66, 0, 0), (.aload_n 0, 1, 0, 0, 0), (.getfield 9, 3, 2, 0, 0), (.iload 6, 2, 0, 0, 0), (.iaload, 1, 0, 0, 0), (.iconst 1, 1, 0, 0, 0), (.if_icmp .ne 30, 3, 60, 0, 0), (.aload_n 0, 1, 0, 0, 0), (.getfield 15, 3, 2, 1, 0), (.iload 6, 2, 0, 0, 0), (.iaload, 1, 0, 0, 0), (.iload_n 1, 1, 0, 0, 0), (.if_icmp .ne 19, 3, 60, 0, 0), (.aload_n 0, 1, 0, 0, 0), (.iload 6, 2, 0, 0, 0)]
set_option maxRecDepth 20000 in
theorem hX2_bringIn_8 : zChk false 2 cX2_bringIn 8 bX2_bringIn_8 = true := by decide +kernel
def bX2_bringIn_50 : List zI := [(.lload_n 3, 1, 0, 0, 0), (.lconst 1, 1, 0, 0, 0), (.iload 6, 2, 0, 0, 0), (.lshl, 1, 0, 0, 0), (.lor, 1, 0, 0, 0), (.lstore_n 3, 1, 0, 0, 0), (.iinc 5 (-1), 3, 0, 0, 0), (.iinc 6 1, 3, 0, 0, 0), (.goto (-55), 3, 8, 0, 0)]
set_option maxRecDepth 20000 in
theorem hX2_bringIn_50 : zChk false 2 cX2_bringIn 50 bX2_bringIn_50 = true := by decide +kernel
def bX2_bringIn_60 : List zI := [(.iinc 6 1, 3, 0, 0, 0), (.goto (-55), 3, 8, 0, 0)]
set_option maxRecDepth 20000 in
theorem hX2_bringIn_60 : zChk false 2 cX2_bringIn 60 bX2_bringIn_60 = true := by decide +kernel
def bX2_bringIn_66 : List zI := [(.lload_n 3, 1, 0, 0, 0), (.lreturn, 1, 0, 0, 0)]
set_option maxRecDepth 20000 in
theorem hX2_bringIn_66 : zChk false 2 cX2_bringIn 66 bX2_bringIn_66 = true := by decide +kernel
def bX2_bringAll_0 : List zI := [(.iconst 0, 1, 0, 0, 0), (.istore_n 1, 1, 0, 0, 0)]
set_option maxRecDepth 20000 in
theorem hX2_bringAll_0 : zChk false 2 cX2_bringAll 0 bX2_bringAll_0 = true := by decide +kernel
def bX2_bringAll_2 : List zI := [(.iload_n 1, 1, 0, 0, 0), (.aload_n 0, 1, 0, 0, 0), (.getfield 42, 3, 2, 8, 0), (.if_icmp .ge 14, 3, 21, 0, 0), (.aload_n 0, 1, 0, 0, 0), (.iload_n 1, 1, 0, 0, 0)]
set_option maxRecDepth 20000 in
theorem hX2_bringAll_2 : zChk false 2 cX2_bringAll 2 bX2_bringAll_2 = true := by decide +kernel
def bX2_bringAll_15 : List zI := [(.iinc 1 1, 3, 0, 0, 0), (.goto (-16), 3, 2, 0, 0)]
set_option maxRecDepth 20000 in
theorem hX2_bringAll_15 : zChk false 2 cX2_bringAll 15 bX2_bringAll_15 = true := by decide +kernel
def bX2_bringAll_21 : List zI := [(.return_, 1, 0, 0, 0)]
set_option maxRecDepth 20000 in
theorem hX2_bringAll_21 : zChk false 2 cX2_bringAll 21 bX2_bringAll_21 = true := by decide +kernel
def bX2_setOut_0 : List zI := [(.aload_n 0, 1, 0, 0, 0), (.getfield 9, 3, 2, 0, 0), (.iload_n 1, 1, 0, 0, 0), (.iaload, 1, 0, 0, 0), (.ifCond .ne 44, 3, 50, 0, 0), (.iload_n 2, 1, 0, 0, 0)]
set_option maxRecDepth 20000 in
theorem hX2_setOut_0 : zChk false 2 cX2_setOut 0 bX2_setOut_0 = true := by decide +kernel
def bX2_setOut_13 : List zI := [(.ifCond .eq 37, 3, 50, 0, 0), (.aload_n 0, 1, 0, 0, 0), (.getfield 9, 3, 2, 0, 0), (.iload_n 1, 1, 0, 0, 0), (.iconst 1, 1, 0, 0, 0), (.iastore, 1, 0, 0, 0), (.aload_n 0, 1, 0, 0, 0), (.getfield 15, 3, 2, 1, 0), (.iload_n 1, 1, 0, 0, 0), (.iload_n 2, 1, 0, 0, 0), (.iastore, 1, 0, 0, 0), (.aload_n 0, 1, 0, 0, 0), (.getfield 27, 3, 2, 5, 0), (.iload_n 2, 1, 0, 0, 0), (.dup2, 1, 0, 0, 0), (.iaload, 1, 0, 0, 0), (.iconst 1, 1, 0, 0, 0), (.iadd, 1, 0, 0, 0), (.iastore, 1, 0, 0, 0), (.aload_n 0, 1, 0, 0, 0), (.dup, 1, 0, 0, 0), (.getfield 46, 3, 2, 9, 0), (.iconst 1, 1, 0, 0, 0), (.isub, 1, 0, 0, 0), (.putfield 46, 3, 2, 9, 0), (.return_, 1, 0, 0, 0)]
set_option maxRecDepth 20000 in
theorem hX2_setOut_13 : zChk false 2 cX2_setOut 13 bX2_setOut_13 = true := by decide +kernel
def bX2_setOut_50 : List zI := [(.return_, 1, 0, 0, 0)]
set_option maxRecDepth 20000 in
theorem hX2_setOut_50 : zChk false 2 cX2_setOut 50 bX2_setOut_50 = true := by decide +kernel
def bX2_setStacked_0 : List zI := [(.aload_n 0, 1, 0, 0, 0), (.getfield 9, 3, 2, 0, 0), (.iload_n 1, 1, 0, 0, 0), (.iaload, 1, 0, 0, 0), (.iconst 1, 1, 0, 0, 0), (.if_icmp .ne 54, 3, 61, 0, 0), (.aload_n 0, 1, 0, 0, 0), (.getfield 15, 3, 2, 1, 0), (.iload_n 1, 1, 0, 0, 0), (.iaload, 1, 0, 0, 0)]
set_option maxRecDepth 20000 in
theorem hX2_setStacked_0 : zChk false 2 cX2_setStacked 0 bX2_setStacked_0 = true := by decide +kernel
def bX2_setStacked_19 : List zI := [(.ifCond .eq 42, 3, 61, 0, 0), (.aload_n 0, 1, 0, 0, 0), (.getfield 27, 3, 2, 5, 0), (.aload_n 0, 1, 0, 0, 0), (.getfield 15, 3, 2, 1, 0), (.iload_n 1, 1, 0, 0, 0), (.iaload, 1, 0, 0, 0), (.dup2, 1, 0, 0, 0), (.iaload, 1, 0, 0, 0), (.iconst 1, 1, 0, 0, 0), (.isub, 1, 0, 0, 0), (.iastore, 1, 0, 0, 0), (.aload_n 0, 1, 0, 0, 0), (.dup, 1, 0, 0, 0), (.getfield 46, 3, 2, 9, 0), (.iconst 1, 1, 0, 0, 0), (.iadd, 1, 0, 0, 0), (.putfield 46, 3, 2, 9, 0), (.aload_n 0, 1, 0, 0, 0), (.getfield 9, 3, 2, 0, 0), (.iload_n 1, 1, 0, 0, 0), (.iconst 0, 1, 0, 0, 0), (.iastore, 1, 0, 0, 0), (.aload_n 0, 1, 0, 0, 0), (.getfield 15, 3, 2, 1, 0), (.iload_n 1, 1, 0, 0, 0), (.iconst (-1), 1, 0, 0, 0), (.iastore, 1, 0, 0, 0), (.return_, 1, 0, 0, 0)]
set_option maxRecDepth 20000 in
theorem hX2_setStacked_19 : zChk false 2 cX2_setStacked 19 bX2_setStacked_19 = true := by decide +kernel
def bX2_setStacked_61 : List zI := [(.return_, 1, 0, 0, 0)]
set_option maxRecDepth 20000 in
theorem hX2_setStacked_61 : zChk false 2 cX2_setStacked 61 bX2_setStacked_61 = true := by decide +kernel
def bX2_seatOne_0 : List zI := [(.iconst 0, 1, 0, 0, 0), (.istore_n 3, 1, 0, 0, 0)]
set_option maxRecDepth 20000 in
theorem hX2_seatOne_0 : zChk false 2 cX2_seatOne 0 bX2_seatOne_0 = true := by decide +kernel
def bX2_seatOne_2 : List zI := [(.iload_n 3, 1, 0, 0, 0), (.aload_n 0, 1, 0, 0, 0), (.getfield 42, 3, 2, 8, 0), (.if_icmp .ge 71, 3, 78, 0, 0), (.aload_n 0, 1, 0, 0, 0), (.getfield 9, 3, 2, 0, 0), (.iload_n 3, 1, 0, 0, 0), (.iaload, 1, 0, 0, 0), (.iconst 1, 1, 0, 0, 0), (.if_icmp .ne 55, 3, 72, 0, 0), (.aload_n 0, 1, 0, 0, 0), (.getfield 15, 3, 2, 1, 0), (.iload_n 3, 1, 0, 0, 0), (.iaload, 1, 0, 0, 0), (.iload_n 1, 1, 0, 0, 0), (.if_icmp .ne 45, 3, 72, 0, 0), (.iload_n 1, 1, 0, 0, 0)]
set_option maxRecDepth 20000 in
theorem hX2_seatOne_2 : zChk false 2 cX2_seatOne 2 bX2_seatOne_2 = true := by decide +kernel
def bX2_seatOne_34 : List zI := [(.ifCond .eq 38, 3, 72, 0, 0), (.aload_n 0, 1, 0, 0, 0), (.getfield 9, 3, 2, 0, 0), (.iload_n 3, 1, 0, 0, 0), (.iconst 2, 1, 0, 0, 0), (.iastore, 1, 0, 0, 0), (.aload_n 0, 1, 0, 0, 0), (.getfield 21, 3, 2, 3, 0), (.iload_n 3, 1, 0, 0, 0), (.iload_n 2, 1, 0, 0, 0), (.iastore, 1, 0, 0, 0), (.aload_n 0, 1, 0, 0, 0), (.getfield 27, 3, 2, 5, 0), (.iload_n 1, 1, 0, 0, 0), (.dup2, 1, 0, 0, 0), (.iaload, 1, 0, 0, 0), (.iconst 1, 1, 0, 0, 0), (.isub, 1, 0, 0, 0), (.iastore, 1, 0, 0, 0), (.aload_n 0, 1, 0, 0, 0), (.getfield 30, 3, 2, 6, 0), (.iload_n 1, 1, 0, 0, 0), (.dup2, 1, 0, 0, 0), (.iaload, 1, 0, 0, 0), (.iconst 1, 1, 0, 0, 0), (.iadd, 1, 0, 0, 0), (.iastore, 1, 0, 0, 0), (.return_, 1, 0, 0, 0)]
set_option maxRecDepth 20000 in
theorem hX2_seatOne_34 : zChk false 2 cX2_seatOne 34 bX2_seatOne_34 = true := by decide +kernel
def bX2_seatOne_72 : List zI := [(.iinc 3 1, 3, 0, 0, 0), (.goto (-73), 3, 2, 0, 0)]
set_option maxRecDepth 20000 in
theorem hX2_seatOne_72 : zChk false 2 cX2_seatOne 72 bX2_seatOne_72 = true := by decide +kernel
def bX2_seatOne_78 : List zI := [(.return_, 1, 0, 0, 0)]
set_option maxRecDepth 20000 in
theorem hX2_seatOne_78 : zChk false 2 cX2_seatOne 78 bX2_seatOne_78 = true := by decide +kernel
def bX2_unseat_0 : List zI := [(.aload_n 0, 1, 0, 0, 0), (.getfield 9, 3, 2, 0, 0), (.iload_n 1, 1, 0, 0, 0), (.iaload, 1, 0, 0, 0), (.iconst 2, 1, 0, 0, 0), (.if_icmp .ne 83, 3, 90, 0, 0), (.aload_n 0, 1, 0, 0, 0), (.getfield 15, 3, 2, 1, 0), (.iload_n 1, 1, 0, 0, 0), (.iaload, 1, 0, 0, 0)]
set_option maxRecDepth 20000 in
theorem hX2_unseat_0 : zChk false 2 cX2_unseat 0 bX2_unseat_0 = true := by decide +kernel
def bX2_unseat_19 : List zI := [(.ifCond .eq 71, 3, 90, 0, 0), (.aload_n 0, 1, 0, 0, 0), (.getfield 33, 3, 2, 7, 0), (.iconst 3, 1, 0, 0, 0), (.dup2, 1, 0, 0, 0), (.iaload, 1, 0, 0, 0), (.iconst 1, 1, 0, 0, 0), (.aload_n 0, 1, 0, 0, 0), (.getfield 24, 3, 2, 4, 0), (.iload_n 1, 1, 0, 0, 0), (.iaload, 1, 0, 0, 0), (.isub, 1, 0, 0, 0), (.iadd, 1, 0, 0, 0), (.iastore, 1, 0, 0, 0), (.aload_n 0, 1, 0, 0, 0), (.getfield 9, 3, 2, 0, 0), (.iload_n 1, 1, 0, 0, 0), (.iconst 1, 1, 0, 0, 0), (.iastore, 1, 0, 0, 0), (.aload_n 0, 1, 0, 0, 0), (.getfield 21, 3, 2, 3, 0), (.iload_n 1, 1, 0, 0, 0), (.iconst (-1), 1, 0, 0, 0), (.iastore, 1, 0, 0, 0), (.aload_n 0, 1, 0, 0, 0), (.getfield 24, 3, 2, 4, 0), (.iload_n 1, 1, 0, 0, 0), (.iconst 0, 1, 0, 0, 0), (.iastore, 1, 0, 0, 0), (.aload_n 0, 1, 0, 0, 0), (.getfield 30, 3, 2, 6, 0), (.aload_n 0, 1, 0, 0, 0), (.getfield 15, 3, 2, 1, 0), (.iload_n 1, 1, 0, 0, 0), (.iaload, 1, 0, 0, 0), (.dup2, 1, 0, 0, 0), (.iaload, 1, 0, 0, 0), (.iconst 1, 1, 0, 0, 0), (.isub, 1, 0, 0, 0), (.iastore, 1, 0, 0, 0), (.aload_n 0, 1, 0, 0, 0), (.getfield 27, 3, 2, 5, 0), (.aload_n 0, 1, 0, 0, 0), (.getfield 15, 3, 2, 1, 0), (.iload_n 1, 1, 0, 0, 0), (.iaload, 1, 0, 0, 0), (.dup2, 1, 0, 0, 0), (.iaload, 1, 0, 0, 0), (.iconst 1, 1, 0, 0, 0), (.iadd, 1, 0, 0, 0), (.iastore, 1, 0, 0, 0), (.return_, 1, 0, 0, 0)]
set_option maxRecDepth 20000 in
theorem hX2_unseat_19 : zChk false 2 cX2_unseat 19 bX2_unseat_19 = true := by decide +kernel
def bX2_unseat_90 : List zI := [(.return_, 1, 0, 0, 0)]
set_option maxRecDepth 20000 in
theorem hX2_unseat_90 : zChk false 2 cX2_unseat 90 bX2_unseat_90 = true := by decide +kernel
def bX2_lose_0 : List zI := [(.aload_n 0, 1, 0, 0, 0), (.iload_n 1, 1, 0, 0, 0)]
set_option maxRecDepth 20000 in
theorem hX2_lose_0 : zChk false 2 cX2_lose 0 bX2_lose_0 = true := by decide +kernel
def bX2_lose_5 : List zI := [(.aload_n 0, 1, 0, 0, 0), (.getfield 9, 3, 2, 0, 0), (.iload_n 1, 1, 0, 0, 0), (.iaload, 1, 0, 0, 0), (.iconst 1, 1, 0, 0, 0), (.if_icmp .ne 54, 3, 66, 0, 0), (.aload_n 0, 1, 0, 0, 0), (.getfield 15, 3, 2, 1, 0), (.iload_n 1, 1, 0, 0, 0), (.iaload, 1, 0, 0, 0)]
set_option maxRecDepth 20000 in
theorem hX2_lose_5 : zChk false 2 cX2_lose 5 bX2_lose_5 = true := by decide +kernel
def bX2_lose_24 : List zI := [(.ifCond .eq 42, 3, 66, 0, 0), (.aload_n 0, 1, 0, 0, 0), (.getfield 27, 3, 2, 5, 0), (.aload_n 0, 1, 0, 0, 0), (.getfield 15, 3, 2, 1, 0), (.iload_n 1, 1, 0, 0, 0), (.iaload, 1, 0, 0, 0), (.dup2, 1, 0, 0, 0), (.iaload, 1, 0, 0, 0), (.iconst 1, 1, 0, 0, 0), (.isub, 1, 0, 0, 0), (.iastore, 1, 0, 0, 0), (.aload_n 0, 1, 0, 0, 0), (.getfield 9, 3, 2, 0, 0), (.iload_n 1, 1, 0, 0, 0), (.iconst 3, 1, 0, 0, 0), (.iastore, 1, 0, 0, 0), (.aload_n 0, 1, 0, 0, 0), (.getfield 15, 3, 2, 1, 0), (.iload_n 1, 1, 0, 0, 0), (.iconst (-1), 1, 0, 0, 0), (.iastore, 1, 0, 0, 0), (.aload_n 0, 1, 0, 0, 0), (.getfield 33, 3, 2, 7, 0), (.iconst 5, 1, 0, 0, 0), (.dup2, 1, 0, 0, 0), (.iaload, 1, 0, 0, 0), (.iconst 1, 1, 0, 0, 0), (.iadd, 1, 0, 0, 0), (.iastore, 1, 0, 0, 0), (.return_, 1, 0, 0, 0)]
set_option maxRecDepth 20000 in
theorem hX2_lose_24 : zChk false 2 cX2_lose 24 bX2_lose_24 = true := by decide +kernel
def bX2_lose_66 : List zI := [(.return_, 1, 0, 0, 0)]
set_option maxRecDepth 20000 in
theorem hX2_lose_66 : zChk false 2 cX2_lose 66 bX2_lose_66 = true := by decide +kernel
def bX2_loseAll_0 : List zI := [(.iconst 0, 1, 0, 0, 0), (.istore_n 2, 1, 0, 0, 0)]
set_option maxRecDepth 20000 in
theorem hX2_loseAll_0 : zChk false 2 cX2_loseAll 0 bX2_loseAll_0 = true := by decide +kernel
def bX2_loseAll_2 : List zI := [(.iload_n 2, 1, 0, 0, 0), (.aload_n 0, 1, 0, 0, 0), (.getfield 42, 3, 2, 8, 0), (.if_icmp .ge 24, 3, 31, 0, 0), (.aload_n 0, 1, 0, 0, 0), (.getfield 15, 3, 2, 1, 0), (.iload_n 2, 1, 0, 0, 0), (.iaload, 1, 0, 0, 0), (.iload_n 1, 1, 0, 0, 0), (.if_icmp .ne 8, 3, 25, 0, 0), (.aload_n 0, 1, 0, 0, 0), (.iload_n 2, 1, 0, 0, 0)]
set_option maxRecDepth 20000 in
theorem hX2_loseAll_2 : zChk false 2 cX2_loseAll 2 bX2_loseAll_2 = true := by decide +kernel
def bX2_loseAll_25 : List zI := [(.iinc 2 1, 3, 0, 0, 0), (.goto (-26), 3, 2, 0, 0)]
set_option maxRecDepth 20000 in
theorem hX2_loseAll_25 : zChk false 2 cX2_loseAll 25 bX2_loseAll_25 = true := by decide +kernel
def bX2_loseAll_31 : List zI := [(.return_, 1, 0, 0, 0)]
set_option maxRecDepth 20000 in
theorem hX2_loseAll_31 : zChk false 2 cX2_loseAll 31 bX2_loseAll_31 = true := by decide +kernel
def bX3_init_0 : List zI := [(.aload_n 0, 1, 0, 0, 0)]
set_option maxRecDepth 20000 in
theorem hX3_init_0 : zChk true 3 cX3_init 0 bX3_init_0 = true := by decide +kernel
def bX3_init_4 : List zI := [(.aload_n 0, 1, 0, 0, 0), (.iconst 5, 1, 0, 0, 0)]
set_option maxRecDepth 20000 in
theorem hX3_init_4 : zChk true 3 cX3_init 4 bX3_init_4 = true := by decide +kernel
def bX3_init_8 : List zI := [(.putfield 9, 3, 3, 0, 0), (.return_, 1, 0, 0, 0)]
set_option maxRecDepth 20000 in
theorem hX3_init_8 : zChk true 3 cX3_init 8 bX3_init_8 = true := by decide +kernel
def bX3_start_0 : List zI := [(.aload_n 0, 1, 0, 0, 0), (.iconst 0, 1, 0, 0, 0), (.iload_n 1, 1, 0, 0, 0), (.iconst 5, 1, 0, 0, 0)]
set_option maxRecDepth 20000 in
theorem hX3_start_0 : zChk false 3 cX3_start 0 bX3_start_0 = true := by decide +kernel
def bX3_start_10 : List zI := [(.putfield 24, 3, 3, 1, 0), (.iconst 0, 1, 0, 0, 0), (.istore_n 2, 1, 0, 0, 0)]
set_option maxRecDepth 20000 in
theorem hX3_start_10 : zChk false 3 cX3_start 10 bX3_start_10 = true := by decide +kernel
def bX3_start_15 : List zI := [(.iload_n 2, 1, 0, 0, 0), (.aload_n 0, 1, 0, 0, 0), (.getfield 24, 3, 3, 1, 0), (.if_icmp .ge 16, 3, 36, 0, 0), (.aload_n 0, 1, 0, 0, 0), (.getfield 9, 3, 3, 0, 0), (.iload_n 2, 1, 0, 0, 0), (.iload_n 2, 1, 0, 0, 0), (.iastore, 1, 0, 0, 0), (.iinc 2 1, 3, 0, 0, 0), (.goto (-18), 3, 15, 0, 0)]
set_option maxRecDepth 20000 in
theorem hX3_start_15 : zChk false 3 cX3_start 15 bX3_start_15 = true := by decide +kernel
def bX3_start_36 : List zI := [(.return_, 1, 0, 0, 0)]
set_option maxRecDepth 20000 in
theorem hX3_start_36 : zChk false 3 cX3_start 36 bX3_start_36 = true := by decide +kernel
def bX3_step_0 : List zI := [(.aload_n 0, 1, 0, 0, 0), (.getfield 24, 3, 3, 1, 0), (.iconst 2, 1, 0, 0, 0), (.isub, 1, 0, 0, 0), (.istore_n 1, 1, 0, 0, 0)]
set_option maxRecDepth 20000 in
theorem hX3_step_0 : zChk false 3 cX3_step 0 bX3_step_0 = true := by decide +kernel
def bX3_step_7 : List zI := [(.iload_n 1, 1, 0, 0, 0), (.ifCond .lt 26, 3, 34, 0, 0), (.aload_n 0, 1, 0, 0, 0), (.getfield 9, 3, 3, 0, 0), (.iload_n 1, 1, 0, 0, 0), (.iaload, 1, 0, 0, 0), (.aload_n 0, 1, 0, 0, 0), (.getfield 9, 3, 3, 0, 0), (.iload_n 1, 1, 0, 0, 0), (.iconst 1, 1, 0, 0, 0), (.iadd, 1, 0, 0, 0), (.iaload, 1, 0, 0, 0), (.if_icmp .le 9, 3, 34, 0, 0), (.iinc 1 (-1), 3, 0, 0, 0), (.goto (-24), 3, 7, 0, 0)]
set_option maxRecDepth 20000 in
theorem hX3_step_7 : zChk false 3 cX3_step 7 bX3_step_7 = true := by decide +kernel
def bX3_step_34 : List zI := [(.iload_n 1, 1, 0, 0, 0), (.ifCond .ge 5, 3, 40, 0, 0), (.iconst 0, 1, 0, 0, 0), (.ireturn, 1, 0, 0, 0)]
set_option maxRecDepth 20000 in
theorem hX3_step_34 : zChk false 3 cX3_step 34 bX3_step_34 = true := by decide +kernel
def bX3_step_40 : List zI := [(.aload_n 0, 1, 0, 0, 0), (.getfield 24, 3, 3, 1, 0), (.iconst 1, 1, 0, 0, 0), (.isub, 1, 0, 0, 0), (.istore_n 2, 1, 0, 0, 0)]
set_option maxRecDepth 20000 in
theorem hX3_step_40 : zChk false 3 cX3_step 40 bX3_step_40 = true := by decide +kernel
def bX3_step_47 : List zI := [(.iload_n 2, 1, 0, 0, 0), (.iload_n 1, 1, 0, 0, 0), (.if_icmp .le 24, 3, 73, 0, 0), (.aload_n 0, 1, 0, 0, 0), (.getfield 9, 3, 3, 0, 0), (.iload_n 2, 1, 0, 0, 0), (.iaload, 1, 0, 0, 0), (.aload_n 0, 1, 0, 0, 0), (.getfield 9, 3, 3, 0, 0), (.iload_n 1, 1, 0, 0, 0), (.iaload, 1, 0, 0, 0), (.if_icmp .ge 9, 3, 73, 0, 0), (.iinc 2 (-1), 3, 0, 0, 0), (.goto (-23), 3, 47, 0, 0)]
set_option maxRecDepth 20000 in
theorem hX3_step_47 : zChk false 3 cX3_step 47 bX3_step_47 = true := by decide +kernel
def bX3_step_73 : List zI := [(.aload_n 0, 1, 0, 0, 0), (.iload_n 1, 1, 0, 0, 0), (.iload_n 2, 1, 0, 0, 0)]
set_option maxRecDepth 20000 in
theorem hX3_step_73 : zChk false 3 cX3_step 73 bX3_step_73 = true := by decide +kernel
def bX3_step_79 : List zI := [(.iload_n 1, 1, 0, 0, 0), (.iconst 1, 1, 0, 0, 0), (.iadd, 1, 0, 0, 0), (.istore_n 3, 1, 0, 0, 0), (.aload_n 0, 1, 0, 0, 0), (.getfield 24, 3, 3, 1, 0), (.iconst 1, 1, 0, 0, 0), (.isub, 1, 0, 0, 0), (.istore 4, 2, 0, 0, 0)]
set_option maxRecDepth 20000 in
theorem hX3_step_79 : zChk false 3 cX3_step 79 bX3_step_79 = true := by decide +kernel
def bX3_step_91 : List zI := [(.iload_n 3, 1, 0, 0, 0), (.iload 4, 2, 0, 0, 0), (.if_icmp .ge 19, 3, 113, 0, 0), (.aload_n 0, 1, 0, 0, 0), (.iload_n 3, 1, 0, 0, 0), (.iload 4, 2, 0, 0, 0)]
set_option maxRecDepth 20000 in
theorem hX3_step_91 : zChk false 3 cX3_step 91 bX3_step_91 = true := by decide +kernel
def bX3_step_104 : List zI := [(.iinc 3 1, 3, 0, 0, 0), (.iinc 4 (-1), 3, 0, 0, 0), (.goto (-19), 3, 91, 0, 0)]
set_option maxRecDepth 20000 in
theorem hX3_step_104 : zChk false 3 cX3_step 104 bX3_step_104 = true := by decide +kernel
def bX3_step_113 : List zI := [(.iconst 1, 1, 0, 0, 0), (.ireturn, 1, 0, 0, 0)]
set_option maxRecDepth 20000 in
theorem hX3_step_113 : zChk false 3 cX3_step 113 bX3_step_113 = true := by decide +kernel
def bX3_swap_0 : List zI := [(.aload_n 0, 1, 0, 0, 0), (.getfield 9, 3, 3, 0, 0), (.iload_n 1, 1, 0, 0, 0), (.iaload, 1, 0, 0, 0), (.istore_n 3, 1, 0, 0, 0), (.aload_n 0, 1, 0, 0, 0), (.getfield 9, 3, 3, 0, 0), (.iload_n 1, 1, 0, 0, 0), (.aload_n 0, 1, 0, 0, 0), (.getfield 9, 3, 3, 0, 0), (.iload_n 2, 1, 0, 0, 0), (.iaload, 1, 0, 0, 0), (.iastore, 1, 0, 0, 0), (.aload_n 0, 1, 0, 0, 0), (.getfield 9, 3, 3, 0, 0), (.iload_n 2, 1, 0, 0, 0), (.iload_n 3, 1, 0, 0, 0), (.iastore, 1, 0, 0, 0), (.return_, 1, 0, 0, 0)]
set_option maxRecDepth 20000 in
theorem hX3_swap_0 : zChk false 3 cX3_swap 0 bX3_swap_0 = true := by decide +kernel
def bX3_packed_0 : List zI := [(.iconst 0, 1, 0, 0, 0), (.istore_n 1, 1, 0, 0, 0), (.iconst 0, 1, 0, 0, 0), (.istore_n 2, 1, 0, 0, 0)]
set_option maxRecDepth 20000 in
theorem hX3_packed_0 : zChk false 3 cX3_packed 0 bX3_packed_0 = true := by decide +kernel
def bX3_packed_4 : List zI := [(.iload_n 2, 1, 0, 0, 0), (.aload_n 0, 1, 0, 0, 0), (.getfield 24, 3, 3, 1, 0), (.if_icmp .ge 22, 3, 31, 0, 0), (.iload_n 1, 1, 0, 0, 0), (.aload_n 0, 1, 0, 0, 0), (.getfield 9, 3, 3, 0, 0), (.iload_n 2, 1, 0, 0, 0), (.iaload, 1, 0, 0, 0), (.iconst 4, 1, 0, 0, 0), (.iload_n 2, 1, 0, 0, 0), (.imul, 1, 0, 0, 0), (.ishl, 1, 0, 0, 0), (.ior, 1, 0, 0, 0), (.istore_n 1, 1, 0, 0, 0), (.iinc 2 1, 3, 0, 0, 0), (.goto (-24), 3, 4, 0, 0)]
set_option maxRecDepth 20000 in
theorem hX3_packed_4 : zChk false 3 cX3_packed 4 bX3_packed_4 = true := by decide +kernel
def bX3_packed_31 : List zI := [(.iload_n 1, 1, 0, 0, 0), (.ireturn, 1, 0, 0, 0)]
set_option maxRecDepth 20000 in
theorem hX3_packed_31 : zChk false 3 cX3_packed 31 bX3_packed_31 = true := by decide +kernel
def bX4_init_0 : List zI := [(.aload_n 0, 1, 0, 0, 0)]
set_option maxRecDepth 20000 in
theorem hX4_init_0 : zChk true 4 cX4_init 0 bX4_init_0 = true := by decide +kernel
def bX4_init_4 : List zI := [(.aload_n 0, 1, 0, 0, 0), (.iconst 5, 1, 0, 0, 0)]
set_option maxRecDepth 20000 in
theorem hX4_init_4 : zChk true 4 cX4_init 4 bX4_init_4 = true := by decide +kernel
def bX4_init_8 : List zI := [(.putfield 9, 3, 4, 1, 0), (.aload_n 0, 1, 0, 0, 0), (.iconst 5, 1, 0, 0, 0)]
set_option maxRecDepth 20000 in
theorem hX4_init_8 : zChk true 4 cX4_init 8 bX4_init_8 = true := by decide +kernel
def bX4_init_15 : List zI := [(.putfield 15, 3, 4, 2, 0), (.aload_n 0, 1, 0, 0, 0), (.iconst 5, 1, 0, 0, 0)]
set_option maxRecDepth 20000 in
theorem hX4_init_15 : zChk true 4 cX4_init 15 bX4_init_15 = true := by decide +kernel
def bX4_init_22 : List zI := [(.putfield 18, 3, 4, 3, 0), (.aload_n 0, 1, 0, 0, 0), (.iconst 5, 1, 0, 0, 0)]
set_option maxRecDepth 20000 in
theorem hX4_init_22 : zChk true 4 cX4_init 22 bX4_init_22 = true := by decide +kernel
def bX4_init_29 : List zI := [(.putfield 21, 3, 4, 4, 0), (.aload_n 0, 1, 0, 0, 0), (.bipush 16, 2, 0, 0, 0)]
set_option maxRecDepth 20000 in
theorem hX4_init_29 : zChk true 4 cX4_init 29 bX4_init_29 = true := by decide +kernel
def bX4_init_37 : List zI := [(.putfield 24, 3, 4, 6, 0), (.aload_n 0, 1, 0, 0, 0), (.bipush 16, 2, 0, 0, 0)]
set_option maxRecDepth 20000 in
theorem hX4_init_37 : zChk true 4 cX4_init 37 bX4_init_37 = true := by decide +kernel
def bX4_init_45 : List zI := [(.putfield 27, 3, 4, 7, 0), (.aload_n 0, 1, 0, 0, 0), (.bipush 96, 2, 0, 0, 0)]
set_option maxRecDepth 20000 in
theorem hX4_init_45 : zChk true 4 cX4_init 45 bX4_init_45 = true := by decide +kernel
def bX4_init_53 : List zI := [(.putfield 30, 3, 4, 8, 0), (.aload_n 0, 1, 0, 0, 0), (.iconst 2, 1, 0, 0, 0)]
set_option maxRecDepth 20000 in
theorem hX4_init_53 : zChk true 4 cX4_init 53 bX4_init_53 = true := by decide +kernel
def bX4_init_60 : List zI := [(.putfield 33, 3, 4, 10, 0), (.aload_n 0, 1, 0, 0, 0), (.iconst 2, 1, 0, 0, 0)]
set_option maxRecDepth 20000 in
theorem hX4_init_60 : zChk true 4 cX4_init 60 bX4_init_60 = true := by decide +kernel
def bX4_init_67 : List zI := [(.putfield 36, 3, 4, 11, 0), (.aload_n 0, 1, 0, 0, 0), (.iconst 2, 1, 0, 0, 0)]
set_option maxRecDepth 20000 in
theorem hX4_init_67 : zChk true 4 cX4_init 67 bX4_init_67 = true := by decide +kernel
def bX4_init_74 : List zI := [(.putfield 39, 3, 4, 12, 0), (.aload_n 0, 1, 0, 0, 0), (.bipush 7, 2, 0, 0, 0)]
set_option maxRecDepth 20000 in
theorem hX4_init_74 : zChk true 4 cX4_init 74 bX4_init_74 = true := by decide +kernel
def bX4_init_82 : List zI := [(.putfield 42, 3, 4, 13, 0), (.aload_n 0, 1, 0, 0, 0), (.iconst 4, 1, 0, 0, 0)]
set_option maxRecDepth 20000 in
theorem hX4_init_82 : zChk true 4 cX4_init 82 bX4_init_82 = true := by decide +kernel
def bX4_init_89 : List zI := [(.putfield 45, 3, 4, 15, 0), (.aload_n 0, 1, 0, 0, 0), (.bipush 64, 2, 0, 0, 0)]
set_option maxRecDepth 20000 in
theorem hX4_init_89 : zChk true 4 cX4_init 89 bX4_init_89 = true := by decide +kernel
def bX4_init_97 : List zI := [(.putfield 48, 3, 4, 17, 0), (.aload_n 0, 1, 0, 0, 0), (.iconst 3, 1, 0, 0, 0)]
set_option maxRecDepth 20000 in
theorem hX4_init_97 : zChk true 4 cX4_init 97 bX4_init_97 = true := by decide +kernel
def bX4_init_104 : List zI := [(.putfield 51, 3, 4, 18, 0), (.aload_n 0, 1, 0, 0, 0), (.iconst 3, 1, 0, 0, 0)]
set_option maxRecDepth 20000 in
theorem hX4_init_104 : zChk true 4 cX4_init 104 bX4_init_104 = true := by decide +kernel
def bX4_init_111 : List zI := [(.putfield 54, 3, 4, 19, 0), (.aload_n 0, 1, 0, 0, 0)]
set_option maxRecDepth 20000 in
theorem hX4_init_111 : zChk true 4 cX4_init 111 bX4_init_111 = true := by decide +kernel
def bX4_init_118 : List zI := [(.aload_n 0, 1, 0, 0, 0)]
set_option maxRecDepth 20000 in
theorem hX4_init_118 : zChk true 4 cX4_init 118 bX4_init_118 = true := by decide +kernel
def bX4_init_122 : List zI := [(.return_, 1, 0, 0, 0)]
set_option maxRecDepth 20000 in
theorem hX4_init_122 : zChk true 4 cX4_init 122 bX4_init_122 = true := by decide +kernel
def bX4_clear_0 : List zI := [(.aload_n 0, 1, 0, 0, 0), (.iconst 0, 1, 0, 0, 0), (.putfield 63, 3, 4, 0, 0), (.aload_n 0, 1, 0, 0, 0), (.iconst 0, 1, 0, 0, 0), (.putfield 67, 3, 4, 5, 0), (.aload_n 0, 1, 0, 0, 0), (.iconst 0, 1, 0, 0, 0), (.putfield 70, 3, 4, 9, 0), (.aload_n 0, 1, 0, 0, 0), (.iconst 0, 1, 0, 0, 0), (.putfield 73, 3, 4, 14, 0), (.aload_n 0, 1, 0, 0, 0), (.iconst 0, 1, 0, 0, 0), (.putfield 76, 3, 4, 16, 0), (.aload_n 0, 1, 0, 0, 0), (.getfield 30, 3, 4, 8, 0), (.iconst (-1), 1, 0, 0, 0)]
set_option maxRecDepth 20000 in
theorem hX4_clear_0 : zChk false 4 cX4_clear 0 bX4_clear_0 = true := by decide +kernel
def bX4_clear_33 : List zI := [(.aload_n 0, 1, 0, 0, 0), (.getfield 51, 3, 4, 18, 0), (.iconst (-1), 1, 0, 0, 0)]
set_option maxRecDepth 20000 in
theorem hX4_clear_33 : zChk false 4 cX4_clear 33 bX4_clear_33 = true := by decide +kernel
def bX4_clear_41 : List zI := [(.aload_n 0, 1, 0, 0, 0), (.getfield 54, 3, 4, 19, 0), (.iconst (-1), 1, 0, 0, 0)]
set_option maxRecDepth 20000 in
theorem hX4_clear_41 : zChk false 4 cX4_clear 41 bX4_clear_41 = true := by decide +kernel
def bX4_clear_52 : List zI := [(.iconst 0, 1, 0, 0, 0), (.aload_n 0, 1, 0, 0, 0), (.getfield 42, 3, 4, 13, 0), (.iconst 0, 1, 0, 0, 0), (.bipush 7, 2, 0, 0, 0)]
set_option maxRecDepth 20000 in
theorem hX4_clear_52 : zChk false 4 cX4_clear 52 bX4_clear_52 = true := by decide +kernel
def bX4_clear_63 : List zI := [(.return_, 1, 0, 0, 0)]
set_option maxRecDepth 20000 in
theorem hX4_clear_63 : zChk false 4 cX4_clear 63 bX4_clear_63 = true := by decide +kernel
def bX4_settleSkies_0 : List zI := [(.iconst 0, 1, 0, 0, 0), (.istore_n 1, 1, 0, 0, 0), (.iconst 0, 1, 0, 0, 0), (.istore_n 2, 1, 0, 0, 0)]
set_option maxRecDepth 20000 in
theorem hX4_settleSkies_0 : zChk false 4 cX4_settleSkies 0 bX4_settleSkies_0 = true := by decide +kernel
def bX4_settleSkies_4 : List zI := [(.iload_n 2, 1, 0, 0, 0), (.bipush 96, 2, 0, 0, 0), (.if_icmp .ge 33, 3, 40, 0, 0), (.aload_n 0, 1, 0, 0, 0), (.getfield 30, 3, 4, 8, 0), (.iload_n 2, 1, 0, 0, 0), (.iaload, 1, 0, 0, 0), (.iconst (-1), 1, 0, 0, 0), (.if_icmp .eq 10, 3, 27, 0, 0), (.aload_n 0, 1, 0, 0, 0), (.getfield 30, 3, 4, 8, 0), (.iload_n 2, 1, 0, 0, 0), (.iaload, 1, 0, 0, 0), (.istore_n 1, 1, 0, 0, 0), (.aload_n 0, 1, 0, 0, 0), (.getfield 30, 3, 4, 8, 0), (.iload_n 2, 1, 0, 0, 0), (.iload_n 1, 1, 0, 0, 0), (.iastore, 1, 0, 0, 0), (.iinc 2 1, 3, 0, 0, 0), (.goto (-33), 3, 4, 0, 0)]
set_option maxRecDepth 20000 in
theorem hX4_settleSkies_4 : zChk false 4 cX4_settleSkies 4 bX4_settleSkies_4 = true := by decide +kernel
def bX4_settleSkies_27 : List zI := [(.aload_n 0, 1, 0, 0, 0), (.getfield 30, 3, 4, 8, 0), (.iload_n 2, 1, 0, 0, 0), (.iload_n 1, 1, 0, 0, 0), (.iastore, 1, 0, 0, 0), (.iinc 2 1, 3, 0, 0, 0), (.goto (-33), 3, 4, 0, 0)]
set_option maxRecDepth 20000 in
theorem hX4_settleSkies_27 : zChk false 4 cX4_settleSkies 27 bX4_settleSkies_27 = true := by decide +kernel
def bX4_settleSkies_40 : List zI := [(.return_, 1, 0, 0, 0)]
set_option maxRecDepth 20000 in
theorem hX4_settleSkies_40 : zChk false 4 cX4_settleSkies 40 bX4_settleSkies_40 = true := by decide +kernel
def bX4_hasPlace_0 : List zI := [(.iload_n 1, 1, 0, 0, 0), (.ifCond .lt 15, 3, 16, 0, 0), (.iload_n 1, 1, 0, 0, 0), (.aload_n 0, 1, 0, 0, 0), (.getfield 63, 3, 4, 0, 0), (.if_icmp .ge 7, 3, 16, 0, 0), (.iconst 1, 1, 0, 0, 0), (.goto 4, 3, 17, 0, 0)]
set_option maxRecDepth 20000 in
theorem hX4_hasPlace_0 : zChk false 4 cX4_hasPlace 0 bX4_hasPlace_0 = true := by decide +kernel
def bX4_hasPlace_16 : List zI := [(.iconst 0, 1, 0, 0, 0), (.ireturn, 1, 0, 0, 0)]
set_option maxRecDepth 20000 in
theorem hX4_hasPlace_16 : zChk false 4 cX4_hasPlace 16 bX4_hasPlace_16 = true := by decide +kernel
def bX4_hasPlace_17 : List zI := [(.ireturn, 1, 0, 0, 0)]
set_option maxRecDepth 20000 in
theorem hX4_hasPlace_17 : zChk false 4 cX4_hasPlace 17 bX4_hasPlace_17 = true := by decide +kernel
def bX4_hasSign_0 : List zI := [(.iload_n 1, 1, 0, 0, 0), (.ifCond .lt 15, 3, 16, 0, 0), (.iload_n 1, 1, 0, 0, 0), (.aload_n 0, 1, 0, 0, 0), (.getfield 73, 3, 4, 14, 0), (.if_icmp .ge 7, 3, 16, 0, 0), (.iconst 1, 1, 0, 0, 0), (.goto 4, 3, 17, 0, 0)]
set_option maxRecDepth 20000 in
theorem hX4_hasSign_0 : zChk false 4 cX4_hasSign 0 bX4_hasSign_0 = true := by decide +kernel
def bX4_hasSign_16 : List zI := [(.iconst 0, 1, 0, 0, 0), (.ireturn, 1, 0, 0, 0)]
set_option maxRecDepth 20000 in
theorem hX4_hasSign_16 : zChk false 4 cX4_hasSign 16 bX4_hasSign_16 = true := by decide +kernel
def bX4_hasSign_17 : List zI := [(.ireturn, 1, 0, 0, 0)]
set_option maxRecDepth 20000 in
theorem hX4_hasSign_17 : zChk false 4 cX4_hasSign 17 bX4_hasSign_17 = true := by decide +kernel
def bX4_hasLaw_0 : List zI := [(.iload_n 1, 1, 0, 0, 0), (.ifCond .lt 22, 3, 23, 0, 0), (.iload_n 1, 1, 0, 0, 0), (.iconst 3, 1, 0, 0, 0), (.if_icmp .ge 17, 3, 23, 0, 0), (.aload_n 0, 1, 0, 0, 0), (.getfield 51, 3, 4, 18, 0), (.iload_n 1, 1, 0, 0, 0), (.iaload, 1, 0, 0, 0), (.iconst (-1), 1, 0, 0, 0), (.if_icmp .eq 7, 3, 23, 0, 0), (.iconst 1, 1, 0, 0, 0), (.goto 4, 3, 24, 0, 0)]
set_option maxRecDepth 20000 in
theorem hX4_hasLaw_0 : zChk false 4 cX4_hasLaw 0 bX4_hasLaw_0 = true := by decide +kernel
def bX4_hasLaw_23 : List zI := [(.iconst 0, 1, 0, 0, 0), (.ireturn, 1, 0, 0, 0)]
set_option maxRecDepth 20000 in
theorem hX4_hasLaw_23 : zChk false 4 cX4_hasLaw 23 bX4_hasLaw_23 = true := by decide +kernel
def bX4_hasLaw_24 : List zI := [(.ireturn, 1, 0, 0, 0)]
set_option maxRecDepth 20000 in
theorem hX4_hasLaw_24 : zChk false 4 cX4_hasLaw 24 bX4_hasLaw_24 = true := by decide +kernel
def bX4_placeNamed_0 : List zI := [(.iconst 0, 1, 0, 0, 0), (.istore_n 2, 1, 0, 0, 0)]
set_option maxRecDepth 20000 in
theorem hX4_placeNamed_0 : zChk false 4 cX4_placeNamed 0 bX4_placeNamed_0 = true := by decide +kernel
def bX4_placeNamed_2 : List zI := [(.iload_n 2, 1, 0, 0, 0), (.aload_n 0, 1, 0, 0, 0), (.getfield 63, 3, 4, 0, 0), (.if_icmp .ge 21, 3, 28, 0, 0), (.aload_n 0, 1, 0, 0, 0), (.getfield 9, 3, 4, 1, 0), (.iload_n 2, 1, 0, 0, 0), (.iaload, 1, 0, 0, 0), (.iload_n 1, 1, 0, 0, 0), (.if_icmp .ne 5, 3, 22, 0, 0), (.iload_n 2, 1, 0, 0, 0), (.ireturn, 1, 0, 0, 0)]
set_option maxRecDepth 20000 in
theorem hX4_placeNamed_2 : zChk false 4 cX4_placeNamed 2 bX4_placeNamed_2 = true := by decide +kernel
def bX4_placeNamed_22 : List zI := [(.iinc 2 1, 3, 0, 0, 0), (.goto (-23), 3, 2, 0, 0)]
set_option maxRecDepth 20000 in
theorem hX4_placeNamed_22 : zChk false 4 cX4_placeNamed 22 bX4_placeNamed_22 = true := by decide +kernel
def bX4_placeNamed_28 : List zI := [(.iconst (-1), 1, 0, 0, 0), (.ireturn, 1, 0, 0, 0)]
set_option maxRecDepth 20000 in
theorem hX4_placeNamed_28 : zChk false 4 cX4_placeNamed 28 bX4_placeNamed_28 = true := by decide +kernel
def bX4_signNamed_0 : List zI := [(.iconst 0, 1, 0, 0, 0), (.istore_n 2, 1, 0, 0, 0)]
set_option maxRecDepth 20000 in
theorem hX4_signNamed_0 : zChk false 4 cX4_signNamed 0 bX4_signNamed_0 = true := by decide +kernel
def bX4_signNamed_2 : List zI := [(.iload_n 2, 1, 0, 0, 0), (.aload_n 0, 1, 0, 0, 0), (.getfield 73, 3, 4, 14, 0), (.if_icmp .ge 21, 3, 28, 0, 0), (.aload_n 0, 1, 0, 0, 0), (.getfield 45, 3, 4, 15, 0), (.iload_n 2, 1, 0, 0, 0), (.iaload, 1, 0, 0, 0), (.iload_n 1, 1, 0, 0, 0), (.if_icmp .ne 5, 3, 22, 0, 0), (.iload_n 2, 1, 0, 0, 0), (.ireturn, 1, 0, 0, 0)]
set_option maxRecDepth 20000 in
theorem hX4_signNamed_2 : zChk false 4 cX4_signNamed 2 bX4_signNamed_2 = true := by decide +kernel
def bX4_signNamed_22 : List zI := [(.iinc 2 1, 3, 0, 0, 0), (.goto (-23), 3, 2, 0, 0)]
set_option maxRecDepth 20000 in
theorem hX4_signNamed_22 : zChk false 4 cX4_signNamed 22 bX4_signNamed_22 = true := by decide +kernel
def bX4_signNamed_28 : List zI := [(.iconst (-1), 1, 0, 0, 0), (.ireturn, 1, 0, 0, 0)]
set_option maxRecDepth 20000 in
theorem hX4_signNamed_28 : zChk false 4 cX4_signNamed 28 bX4_signNamed_28 = true := by decide +kernel
def bX4_isFlooded_0 : List zI := [(.aload_n 0, 1, 0, 0, 0), (.iload_n 1, 1, 0, 0, 0)]
set_option maxRecDepth 20000 in
theorem hX4_isFlooded_0 : zChk false 4 cX4_isFlooded 0 bX4_isFlooded_0 = true := by decide +kernel
def bX4_isFlooded_5 : List zI := [(.ifCond .eq 27, 3, 32, 0, 0), (.aload_n 0, 1, 0, 0, 0), (.getfield 21, 3, 4, 4, 0), (.iload_n 1, 1, 0, 0, 0), (.iaload, 1, 0, 0, 0), (.iconst (-1), 1, 0, 0, 0), (.if_icmp .eq 17, 3, 32, 0, 0), (.aload_n 0, 1, 0, 0, 0), (.getfield 21, 3, 4, 4, 0), (.iload_n 1, 1, 0, 0, 0), (.iaload, 1, 0, 0, 0), (.iload_n 2, 1, 0, 0, 0), (.if_icmp .gt 7, 3, 32, 0, 0), (.iconst 1, 1, 0, 0, 0), (.goto 4, 3, 33, 0, 0)]
set_option maxRecDepth 20000 in
theorem hX4_isFlooded_5 : zChk false 4 cX4_isFlooded 5 bX4_isFlooded_5 = true := by decide +kernel
def bX4_isFlooded_32 : List zI := [(.iconst 0, 1, 0, 0, 0), (.ireturn, 1, 0, 0, 0)]
set_option maxRecDepth 20000 in
theorem hX4_isFlooded_32 : zChk false 4 cX4_isFlooded 32 bX4_isFlooded_32 = true := by decide +kernel
def bX4_isFlooded_33 : List zI := [(.ireturn, 1, 0, 0, 0)]
set_option maxRecDepth 20000 in
theorem hX4_isFlooded_33 : zChk false 4 cX4_isFlooded 33 bX4_isFlooded_33 = true := by decide +kernel
def bX4_hasBand_0 : List zI := [(.iconst 0, 1, 0, 0, 0), (.istore_n 3, 1, 0, 0, 0)]
set_option maxRecDepth 20000 in
theorem hX4_hasBand_0 : zChk false 4 cX4_hasBand 0 bX4_hasBand_0 = true := by decide +kernel
def bX4_hasBand_2 : List zI := [(.iload_n 3, 1, 0, 0, 0), (.aload_n 0, 1, 0, 0, 0), (.getfield 70, 3, 4, 9, 0), (.if_icmp .ge 41, 3, 48, 0, 0), (.aload_n 0, 1, 0, 0, 0), (.getfield 33, 3, 4, 10, 0), (.iload_n 3, 1, 0, 0, 0), (.iaload, 1, 0, 0, 0), (.iload_n 1, 1, 0, 0, 0), (.if_icmp .ne 25, 3, 42, 0, 0), (.aload_n 0, 1, 0, 0, 0), (.getfield 36, 3, 4, 11, 0), (.iload_n 3, 1, 0, 0, 0), (.iaload, 1, 0, 0, 0), (.iload_n 2, 1, 0, 0, 0), (.if_icmp .gt 15, 3, 42, 0, 0), (.iload_n 2, 1, 0, 0, 0), (.aload_n 0, 1, 0, 0, 0), (.getfield 39, 3, 4, 12, 0), (.iload_n 3, 1, 0, 0, 0), (.iaload, 1, 0, 0, 0), (.if_icmp .gt 5, 3, 42, 0, 0), (.iconst 1, 1, 0, 0, 0), (.ireturn, 1, 0, 0, 0)]
set_option maxRecDepth 20000 in
theorem hX4_hasBand_2 : zChk false 4 cX4_hasBand 2 bX4_hasBand_2 = true := by decide +kernel
def bX4_hasBand_42 : List zI := [(.iinc 3 1, 3, 0, 0, 0), (.goto (-43), 3, 2, 0, 0)]
set_option maxRecDepth 20000 in
theorem hX4_hasBand_42 : zChk false 4 cX4_hasBand 42 bX4_hasBand_42 = true := by decide +kernel
def bX4_hasBand_48 : List zI := [(.iconst 0, 1, 0, 0, 0), (.ireturn, 1, 0, 0, 0)]
set_option maxRecDepth 20000 in
theorem hX4_hasBand_48 : zChk false 4 cX4_hasBand 48 bX4_hasBand_48 = true := by decide +kernel
def bX4_comersOn_0 : List zI := [(.iconst 0, 1, 0, 0, 0), (.istore_n 3, 1, 0, 0, 0), (.iconst 0, 1, 0, 0, 0), (.istore 4, 2, 0, 0, 0)]
set_option maxRecDepth 20000 in
theorem hX4_comersOn_0 : zChk false 4 cX4_comersOn 0 bX4_comersOn_0 = true := by decide +kernel
def bX4_comersOn_5 : List zI := [(.iload 4, 2, 0, 0, 0), (.aload_n 0, 1, 0, 0, 0), (.getfield 67, 3, 4, 5, 0), (.if_icmp .ge 36, 3, 47, 0, 0), (.aload_n 0, 1, 0, 0, 0), (.getfield 24, 3, 4, 6, 0), (.iload 4, 2, 0, 0, 0), (.iaload, 1, 0, 0, 0), (.iload_n 1, 1, 0, 0, 0), (.if_icmp .ne 19, 3, 41, 0, 0), (.iload 4, 2, 0, 0, 0), (.iload_n 2, 1, 0, 0, 0), (.if_icmp .eq 13, 3, 41, 0, 0), (.iload_n 3, 1, 0, 0, 0), (.aload_n 0, 1, 0, 0, 0), (.getfield 27, 3, 4, 7, 0), (.iload 4, 2, 0, 0, 0), (.iaload, 1, 0, 0, 0), (.iadd, 1, 0, 0, 0), (.istore_n 3, 1, 0, 0, 0), (.iinc 4 1, 3, 0, 0, 0), (.goto (-39), 3, 5, 0, 0)]
set_option maxRecDepth 20000 in
theorem hX4_comersOn_5 : zChk false 4 cX4_comersOn 5 bX4_comersOn_5 = true := by decide +kernel
def bX4_comersOn_41 : List zI := [(.iinc 4 1, 3, 0, 0, 0), (.goto (-39), 3, 5, 0, 0)]
set_option maxRecDepth 20000 in
theorem hX4_comersOn_41 : zChk false 4 cX4_comersOn 41 bX4_comersOn_41 = true := by decide +kernel
def bX4_comersOn_47 : List zI := [(.iload_n 3, 1, 0, 0, 0), (.ireturn, 1, 0, 0, 0)]
set_option maxRecDepth 20000 in
theorem hX4_comersOn_47 : zChk false 4 cX4_comersOn 47 bX4_comersOn_47 = true := by decide +kernel
def bJ13_bitCount_95d88_0 : List zI := [(.lload_n 0, 1, 0, 0, 0), (.lload_n 0, 1, 0, 0, 0), (.iconst 1, 1, 0, 0, 0), (.lushr, 1, 0, 0, 0), (.ldc2_w 314, 3, 0, 0, 6148914691236517205), (.land, 1, 0, 0, 0), (.lsub, 1, 0, 0, 0), (.lstore_n 0, 1, 0, 0, 0), (.lload_n 0, 1, 0, 0, 0), (.ldc2_w 316, 3, 0, 0, 3689348814741910323), (.land, 1, 0, 0, 0), (.lload_n 0, 1, 0, 0, 0), (.iconst 2, 1, 0, 0, 0), (.lushr, 1, 0, 0, 0), (.ldc2_w 316, 3, 0, 0, 3689348814741910323), (.land, 1, 0, 0, 0), (.ladd, 1, 0, 0, 0), (.lstore_n 0, 1, 0, 0, 0), (.lload_n 0, 1, 0, 0, 0), (.lload_n 0, 1, 0, 0, 0), (.iconst 4, 1, 0, 0, 0), (.lushr, 1, 0, 0, 0), (.ladd, 1, 0, 0, 0), (.ldc2_w 318, 3, 0, 0, 1085102592571150095), (.land, 1, 0, 0, 0), (.lstore_n 0, 1, 0, 0, 0), (.lload_n 0, 1, 0, 0, 0), (.lload_n 0, 1, 0, 0, 0), (.bipush 8, 2, 0, 0, 0), (.lushr, 1, 0, 0, 0), (.ladd, 1, 0, 0, 0), (.lstore_n 0, 1, 0, 0, 0), (.lload_n 0, 1, 0, 0, 0), (.lload_n 0, 1, 0, 0, 0), (.bipush 16, 2, 0, 0, 0), (.lushr, 1, 0, 0, 0), (.ladd, 1, 0, 0, 0), (.lstore_n 0, 1, 0, 0, 0), (.lload_n 0, 1, 0, 0, 0), (.lload_n 0, 1, 0, 0, 0), (.bipush 32, 2, 0, 0, 0), (.lushr, 1, 0, 0, 0), (.ladd, 1, 0, 0, 0), (.lstore_n 0, 1, 0, 0, 0), (.lload_n 0, 1, 0, 0, 0), (.l2i, 1, 0, 0, 0), (.bipush 127, 2, 0, 0, 0), (.iand, 1, 0, 0, 0), (.ireturn, 1, 0, 0, 0)]
set_option maxRecDepth 20000 in
theorem hJ13_bitCount_95d88_0 : zChk false 12 cJ13_bitCount_95d88 0 bJ13_bitCount_95d88_0 = true := by decide +kernel
def bJ9_floorMod_7cf53_0 : List zI := [(.iload_n 0, 1, 0, 0, 0), (.iload_n 1, 1, 0, 0, 0), (.irem, 1, 0, 0, 0), (.istore_n 2, 1, 0, 0, 0), (.iload_n 0, 1, 0, 0, 0), (.iload_n 1, 1, 0, 0, 0), (.ixor, 1, 0, 0, 0), (.ifCond .ge 11, 3, 18, 0, 0), (.iload_n 2, 1, 0, 0, 0), (.ifCond .eq 7, 3, 18, 0, 0), (.iload_n 2, 1, 0, 0, 0), (.iload_n 1, 1, 0, 0, 0), (.iadd, 1, 0, 0, 0), (.ireturn, 1, 0, 0, 0)]
set_option maxRecDepth 20000 in
theorem hJ9_floorMod_7cf53_0 : zChk false 13 cJ9_floorMod_7cf53 0 bJ9_floorMod_7cf53_0 = true := by decide +kernel
def bJ9_floorMod_7cf53_18 : List zI := [(.iload_n 2, 1, 0, 0, 0), (.ireturn, 1, 0, 0, 0)]
set_option maxRecDepth 20000 in
theorem hJ9_floorMod_7cf53_18 : zChk false 13 cJ9_floorMod_7cf53 18 bJ9_floorMod_7cf53_18 = true := by decide +kernel
def bJ9_abs_0f7a4_0 : List zI := [(.iload_n 0, 1, 0, 0, 0), (.ifCond .ge 8, 3, 9, 0, 0), (.iload_n 0, 1, 0, 0, 0), (.ineg, 1, 0, 0, 0), (.goto 4, 3, 10, 0, 0)]
set_option maxRecDepth 20000 in
theorem hJ9_abs_0f7a4_0 : zChk false 13 cJ9_abs_0f7a4 0 bJ9_abs_0f7a4_0 = true := by decide +kernel
def bJ9_abs_0f7a4_9 : List zI := [(.iload_n 0, 1, 0, 0, 0), (.ireturn, 1, 0, 0, 0)]
set_option maxRecDepth 20000 in
theorem hJ9_abs_0f7a4_9 : zChk false 13 cJ9_abs_0f7a4 9 bJ9_abs_0f7a4_9 = true := by decide +kernel
def bJ9_abs_0f7a4_10 : List zI := [(.ireturn, 1, 0, 0, 0)]
set_option maxRecDepth 20000 in
theorem hJ9_abs_0f7a4_10 : zChk false 13 cJ9_abs_0f7a4 10 bJ9_abs_0f7a4_10 = true := by decide +kernel
def bJ9_abs_067f4_0 : List zI := [(.lload_n 0, 1, 0, 0, 0), (.lconst 0, 1, 0, 0, 0), (.lcmp, 1, 0, 0, 0), (.ifCond .ge 8, 3, 11, 0, 0), (.lload_n 0, 1, 0, 0, 0), (.lneg, 1, 0, 0, 0), (.goto 4, 3, 12, 0, 0)]
set_option maxRecDepth 20000 in
theorem hJ9_abs_067f4_0 : zChk false 13 cJ9_abs_067f4 0 bJ9_abs_067f4_0 = true := by decide +kernel
def bJ9_abs_067f4_11 : List zI := [(.lload_n 0, 1, 0, 0, 0), (.lreturn, 1, 0, 0, 0)]
set_option maxRecDepth 20000 in
theorem hJ9_abs_067f4_11 : zChk false 13 cJ9_abs_067f4 11 bJ9_abs_067f4_11 = true := by decide +kernel
def bJ9_abs_067f4_12 : List zI := [(.lreturn, 1, 0, 0, 0)]
set_option maxRecDepth 20000 in
theorem hJ9_abs_067f4_12 : zChk false 13 cJ9_abs_067f4 12 bJ9_abs_067f4_12 = true := by decide +kernel
def bJ9_max_7cf53_0 : List zI := [(.iload_n 0, 1, 0, 0, 0), (.iload_n 1, 1, 0, 0, 0), (.if_icmp .lt 7, 3, 9, 0, 0), (.iload_n 0, 1, 0, 0, 0), (.goto 4, 3, 10, 0, 0)]
set_option maxRecDepth 20000 in
theorem hJ9_max_7cf53_0 : zChk false 13 cJ9_max_7cf53 0 bJ9_max_7cf53_0 = true := by decide +kernel
def bJ9_max_7cf53_9 : List zI := [(.iload_n 1, 1, 0, 0, 0), (.ireturn, 1, 0, 0, 0)]
set_option maxRecDepth 20000 in
theorem hJ9_max_7cf53_9 : zChk false 13 cJ9_max_7cf53 9 bJ9_max_7cf53_9 = true := by decide +kernel
def bJ9_max_7cf53_10 : List zI := [(.ireturn, 1, 0, 0, 0)]
set_option maxRecDepth 20000 in
theorem hJ9_max_7cf53_10 : zChk false 13 cJ9_max_7cf53 10 bJ9_max_7cf53_10 = true := by decide +kernel
def bJ9_max_f86c9_0 : List zI := [(.lload_n 0, 1, 0, 0, 0), (.lload_n 2, 1, 0, 0, 0), (.lcmp, 1, 0, 0, 0), (.ifCond .lt 7, 3, 10, 0, 0), (.lload_n 0, 1, 0, 0, 0), (.goto 4, 3, 11, 0, 0)]
set_option maxRecDepth 20000 in
theorem hJ9_max_f86c9_0 : zChk false 13 cJ9_max_f86c9 0 bJ9_max_f86c9_0 = true := by decide +kernel
def bJ9_max_f86c9_10 : List zI := [(.lload_n 2, 1, 0, 0, 0), (.lreturn, 1, 0, 0, 0)]
set_option maxRecDepth 20000 in
theorem hJ9_max_f86c9_10 : zChk false 13 cJ9_max_f86c9 10 bJ9_max_f86c9_10 = true := by decide +kernel
def bJ9_max_f86c9_11 : List zI := [(.lreturn, 1, 0, 0, 0)]
set_option maxRecDepth 20000 in
theorem hJ9_max_f86c9_11 : zChk false 13 cJ9_max_f86c9 11 bJ9_max_f86c9_11 = true := by decide +kernel
def bJ9_min_7cf53_0 : List zI := [(.iload_n 0, 1, 0, 0, 0), (.iload_n 1, 1, 0, 0, 0), (.if_icmp .gt 7, 3, 9, 0, 0), (.iload_n 0, 1, 0, 0, 0), (.goto 4, 3, 10, 0, 0)]
set_option maxRecDepth 20000 in
theorem hJ9_min_7cf53_0 : zChk false 13 cJ9_min_7cf53 0 bJ9_min_7cf53_0 = true := by decide +kernel
def bJ9_min_7cf53_9 : List zI := [(.iload_n 1, 1, 0, 0, 0), (.ireturn, 1, 0, 0, 0)]
set_option maxRecDepth 20000 in
theorem hJ9_min_7cf53_9 : zChk false 13 cJ9_min_7cf53 9 bJ9_min_7cf53_9 = true := by decide +kernel
def bJ9_min_7cf53_10 : List zI := [(.ireturn, 1, 0, 0, 0)]
set_option maxRecDepth 20000 in
theorem hJ9_min_7cf53_10 : zChk false 13 cJ9_min_7cf53 10 bJ9_min_7cf53_10 = true := by decide +kernel
def bJ9_min_f86c9_0 : List zI := [(.lload_n 0, 1, 0, 0, 0), (.lload_n 2, 1, 0, 0, 0), (.lcmp, 1, 0, 0, 0), (.ifCond .gt 7, 3, 10, 0, 0), (.lload_n 0, 1, 0, 0, 0), (.goto 4, 3, 11, 0, 0)]
set_option maxRecDepth 20000 in
theorem hJ9_min_f86c9_0 : zChk false 13 cJ9_min_f86c9 0 bJ9_min_f86c9_0 = true := by decide +kernel
def bJ9_min_f86c9_10 : List zI := [(.lload_n 2, 1, 0, 0, 0), (.lreturn, 1, 0, 0, 0)]
set_option maxRecDepth 20000 in
theorem hJ9_min_f86c9_10 : zChk false 13 cJ9_min_f86c9 10 bJ9_min_f86c9_10 = true := by decide +kernel
def bJ9_min_f86c9_11 : List zI := [(.lreturn, 1, 0, 0, 0)]
set_option maxRecDepth 20000 in
theorem hJ9_min_f86c9_11 : zChk false 13 cJ9_min_f86c9 11 bJ9_min_f86c9_11 = true := by decide +kernel
def bJ7_fill_53178_0 : List zI := [(.iconst 0, 1, 0, 0, 0), (.istore_n 2, 1, 0, 0, 0), (.aload_n 0, 1, 0, 0, 0), (.arraylength, 1, 0, 0, 0), (.istore_n 3, 1, 0, 0, 0)]
set_option maxRecDepth 20000 in
theorem hJ7_fill_53178_0 : zChk false 14 cJ7_fill_53178 0 bJ7_fill_53178_0 = true := by decide +kernel
def bJ7_fill_53178_5 : List zI := [(.iload_n 2, 1, 0, 0, 0), (.iload_n 3, 1, 0, 0, 0), (.if_icmp .ge 13, 3, 20, 0, 0), (.aload_n 0, 1, 0, 0, 0), (.iload_n 2, 1, 0, 0, 0), (.iload_n 1, 1, 0, 0, 0), (.iastore, 1, 0, 0, 0), (.iinc 2 1, 3, 0, 0, 0), (.goto (-12), 3, 5, 0, 0)]
set_option maxRecDepth 20000 in
theorem hJ7_fill_53178_5 : zChk false 14 cJ7_fill_53178 5 bJ7_fill_53178_5 = true := by decide +kernel
def bJ7_fill_53178_20 : List zI := [(.return_, 1, 0, 0, 0)]
set_option maxRecDepth 20000 in
theorem hJ7_fill_53178_20 : zChk false 14 cJ7_fill_53178 20 bJ7_fill_53178_20 = true := by decide +kernel
