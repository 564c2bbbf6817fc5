/-! ===== BLOCKS of code (written by a program) ===== -/
def bX9_init_0 : List zI := [(.aload_n 0, 1, 0, 0, 0)]
set_option maxRecDepth 20000 in
theorem hX9_init_0 : zChk true 9 cX9_init 0 bX9_init_0 = true := by decide +kernel
def bX9_init_4 : List zI := [(.aload_n 0, 1, 0, 0, 0)]
set_option maxRecDepth 20000 in
theorem hX9_init_4 : zChk true 9 cX9_init 4 bX9_init_4 = true := by decide +kernel
def bX9_init_8 : List zI := [(.dup, 1, 0, 0, 0)]
set_option maxRecDepth 20000 in
theorem hX9_init_8 : zChk true 9 cX9_init 8 bX9_init_8 = true := by decide +kernel
def bX9_init_12 : List zI := [(.putfield 14, 3, 9, 0, 0), (.aload_n 0, 1, 0, 0, 0)]
set_option maxRecDepth 20000 in
theorem hX9_init_12 : zChk true 9 cX9_init 12 bX9_init_12 = true := by decide +kernel
def bX9_init_19 : List zI := [(.dup, 1, 0, 0, 0), (.aload_n 0, 1, 0, 0, 0), (.getfield 14, 3, 9, 0, 0)]
set_option maxRecDepth 20000 in
theorem hX9_init_19 : zChk true 9 cX9_init 19 bX9_init_19 = true := by decide +kernel
def bX9_init_27 : List zI := [(.putfield 25, 3, 9, 1, 0), (.aload_n 0, 1, 0, 0, 0)]
set_option maxRecDepth 20000 in
theorem hX9_init_27 : zChk true 9 cX9_init 27 bX9_init_27 = true := by decide +kernel
def bX9_init_34 : List zI := [(.dup, 1, 0, 0, 0)]
set_option maxRecDepth 20000 in
theorem hX9_init_34 : zChk true 9 cX9_init 34 bX9_init_34 = true := by decide +kernel
def bX9_init_38 : List zI := [(.putfield 32, 3, 9, 2, 0), (.aload_n 0, 1, 0, 0, 0)]
set_option maxRecDepth 20000 in
theorem hX9_init_38 : zChk true 9 cX9_init 38 bX9_init_38 = true := by decide +kernel
def bX9_init_45 : List zI := [(.dup, 1, 0, 0, 0)]
set_option maxRecDepth 20000 in
theorem hX9_init_45 : zChk true 9 cX9_init 45 bX9_init_45 = true := by decide +kernel
def bX9_init_49 : List zI := [(.putfield 36, 3, 9, 3, 0), (.aload_n 0, 1, 0, 0, 0)]
set_option maxRecDepth 20000 in
theorem hX9_init_49 : zChk true 9 cX9_init 49 bX9_init_49 = true := by decide +kernel
def bX9_init_56 : List zI := [(.dup, 1, 0, 0, 0)]
set_option maxRecDepth 20000 in
theorem hX9_init_56 : zChk true 9 cX9_init 56 bX9_init_56 = true := by decide +kernel
def bX9_init_60 : List zI := [(.putfield 42, 3, 9, 4, 0), (.aload_n 0, 1, 0, 0, 0)]
set_option maxRecDepth 20000 in
theorem hX9_init_60 : zChk true 9 cX9_init 60 bX9_init_60 = true := by decide +kernel
def bX9_init_67 : List zI := [(.dup, 1, 0, 0, 0)]
set_option maxRecDepth 20000 in
theorem hX9_init_67 : zChk true 9 cX9_init 67 bX9_init_67 = true := by decide +kernel
def bX9_init_71 : List zI := [(.putfield 46, 3, 9, 5, 0), (.aload_n 0, 1, 0, 0, 0)]
set_option maxRecDepth 20000 in
theorem hX9_init_71 : zChk true 9 cX9_init 71 bX9_init_71 = true := by decide +kernel
def bX9_init_78 : List zI := [(.dup, 1, 0, 0, 0)]
set_option maxRecDepth 20000 in
theorem hX9_init_78 : zChk true 9 cX9_init 78 bX9_init_78 = true := by decide +kernel
def bX9_init_82 : List zI := [(.putfield 49, 3, 9, 6, 0), (.aload_n 0, 1, 0, 0, 0)]
set_option maxRecDepth 20000 in
theorem hX9_init_82 : zChk true 9 cX9_init 82 bX9_init_82 = true := by decide +kernel
def bX9_init_89 : List zI := [(.dup, 1, 0, 0, 0), (.aload_n 0, 1, 0, 0, 0), (.getfield 42, 3, 9, 4, 0), (.aload_n 0, 1, 0, 0, 0), (.getfield 32, 3, 9, 2, 0)]
set_option maxRecDepth 20000 in
theorem hX9_init_89 : zChk true 9 cX9_init 89 bX9_init_89 = true := by decide +kernel
def bX9_init_101 : List zI := [(.putfield 57, 3, 9, 7, 0), (.aload_n 0, 1, 0, 0, 0)]
set_option maxRecDepth 20000 in
theorem hX9_init_101 : zChk true 9 cX9_init 101 bX9_init_101 = true := by decide +kernel
def bX9_init_108 : List zI := [(.dup, 1, 0, 0, 0), (.aload_n 0, 1, 0, 0, 0), (.getfield 46, 3, 9, 5, 0), (.aload_n 0, 1, 0, 0, 0), (.getfield 36, 3, 9, 3, 0)]
set_option maxRecDepth 20000 in
theorem hX9_init_108 : zChk true 9 cX9_init 108 bX9_init_108 = true := by decide +kernel
def bX9_init_120 : List zI := [(.putfield 61, 3, 9, 8, 0), (.aload_n 0, 1, 0, 0, 0)]
set_option maxRecDepth 20000 in
theorem hX9_init_120 : zChk true 9 cX9_init 120 bX9_init_120 = true := by decide +kernel
def bX9_init_127 : List zI := [(.dup, 1, 0, 0, 0)]
set_option maxRecDepth 20000 in
theorem hX9_init_127 : zChk true 9 cX9_init 127 bX9_init_127 = true := by decide +kernel
def bX9_init_131 : List zI := [(.putfield 67, 3, 9, 9, 0), (.aload_n 0, 1, 0, 0, 0)]
set_option maxRecDepth 20000 in
theorem hX9_init_131 : zChk true 9 cX9_init 131 bX9_init_131 = true := by decide +kernel
def bX9_init_138 : List zI := [(.dup, 1, 0, 0, 0)]
set_option maxRecDepth 20000 in
theorem hX9_init_138 : zChk true 9 cX9_init 138 bX9_init_138 = true := by decide +kernel
def bX9_init_142 : List zI := [(.putfield 74, 3, 9, 10, 0), (.aload_n 0, 1, 0, 0, 0)]
set_option maxRecDepth 20000 in
theorem hX9_init_142 : zChk true 9 cX9_init 142 bX9_init_142 = true := by decide +kernel
def bX9_init_149 : List zI := [(.dup, 1, 0, 0, 0)]
set_option maxRecDepth 20000 in
theorem hX9_init_149 : zChk true 9 cX9_init 149 bX9_init_149 = true := by decide +kernel
def bX9_init_153 : List zI := [(.putfield 81, 3, 9, 11, 0), (.aload_n 0, 1, 0, 0, 0)]
set_option maxRecDepth 20000 in
theorem hX9_init_153 : zChk true 9 cX9_init 153 bX9_init_153 = true := by decide +kernel
def bX9_init_160 : List zI := [(.dup, 1, 0, 0, 0)]
set_option maxRecDepth 20000 in
theorem hX9_init_160 : zChk true 9 cX9_init 160 bX9_init_160 = true := by decide +kernel
def bX9_init_164 : List zI := [(.putfield 88, 3, 9, 12, 0), (.aload_n 0, 1, 0, 0, 0)]
set_option maxRecDepth 20000 in
theorem hX9_init_164 : zChk true 9 cX9_init 164 bX9_init_164 = true := by decide +kernel
def bX9_init_171 : List zI := [(.dup, 1, 0, 0, 0)]
set_option maxRecDepth 20000 in
theorem hX9_init_171 : zChk true 9 cX9_init 171 bX9_init_171 = true := by decide +kernel
def bX9_init_175 : List zI := [(.putfield 92, 3, 9, 13, 0), (.aload_n 0, 1, 0, 0, 0)]
set_option maxRecDepth 20000 in
theorem hX9_init_175 : zChk true 9 cX9_init 175 bX9_init_175 = true := by decide +kernel
def bX9_init_182 : List zI := [(.return_, 1, 0, 0, 0)]
set_option maxRecDepth 20000 in
theorem hX9_init_182 : zChk true 9 cX9_init 182 bX9_init_182 = true := by decide +kernel
def bX9_feed_0 : List zI := [(.aload_n 0, 1, 0, 0, 0), (.getfield 14, 3, 9, 0, 0), (.getfield 98, 3, 7, 2, 0), (.bipush 20, 2, 0, 0, 0), (.iadd, 1, 0, 0, 0), (.sipush 700, 3, 0, 0, 0), (.if_icmp .le 5, 3, 18, 0, 0), (.iconst (-1), 1, 0, 0, 0), (.ireturn, 1, 0, 0, 0)]
set_option maxRecDepth 20000 in
theorem hX9_feed_0 : zChk false 9 cX9_feed 0 bX9_feed_0 = true := by decide +kernel
def bX9_feed_18 : List zI := [(.aload_n 0, 1, 0, 0, 0), (.getfield 14, 3, 9, 0, 0), (.iload_n 1, 1, 0, 0, 0)]
set_option maxRecDepth 20000 in
theorem hX9_feed_18 : zChk false 9 cX9_feed 18 bX9_feed_18 = true := by decide +kernel
def bX9_feed_26 : List zI := [(.aload_n 0, 1, 0, 0, 0), (.getfield 14, 3, 9, 0, 0), (.iload_n 2, 1, 0, 0, 0)]
set_option maxRecDepth 20000 in
theorem hX9_feed_26 : zChk false 9 cX9_feed 26 bX9_feed_26 = true := by decide +kernel
def bX9_feed_34 : List zI := [(.aload_n 0, 1, 0, 0, 0), (.getfield 14, 3, 9, 0, 0), (.iload_n 3, 1, 0, 0, 0)]
set_option maxRecDepth 20000 in
theorem hX9_feed_34 : zChk false 9 cX9_feed 34 bX9_feed_34 = true := by decide +kernel
def bX9_feed_42 : List zI := [(.aload_n 0, 1, 0, 0, 0), (.getfield 14, 3, 9, 0, 0), (.iload 4, 2, 0, 0, 0)]
set_option maxRecDepth 20000 in
theorem hX9_feed_42 : zChk false 9 cX9_feed 42 bX9_feed_42 = true := by decide +kernel
def bX9_feed_51 : List zI := [(.aload_n 0, 1, 0, 0, 0), (.getfield 14, 3, 9, 0, 0), (.iload 5, 2, 0, 0, 0)]
set_option maxRecDepth 20000 in
theorem hX9_feed_51 : zChk false 9 cX9_feed 51 bX9_feed_51 = true := by decide +kernel
def bX9_feed_60 : List zI := [(.aload_n 0, 1, 0, 0, 0), (.getfield 14, 3, 9, 0, 0), (.getfield 98, 3, 7, 2, 0), (.ireturn, 1, 0, 0, 0)]
set_option maxRecDepth 20000 in
theorem hX9_feed_60 : zChk false 9 cX9_feed 60 bX9_feed_60 = true := by decide +kernel
def bX9_text_0 : List zI := [(.iload_n 1, 1, 0, 0, 0), (.ifCond .lt 14, 3, 15, 0, 0), (.iload_n 1, 1, 0, 0, 0), (.aload_n 0, 1, 0, 0, 0), (.getfield 14, 3, 9, 0, 0), (.getfield 98, 3, 7, 2, 0), (.if_icmp .le 6, 3, 18, 0, 0), (.bipush (-2), 2, 0, 0, 0), (.ireturn, 1, 0, 0, 0)]
set_option maxRecDepth 20000 in
theorem hX9_text_0 : zChk false 9 cX9_text 0 bX9_text_0 = true := by decide +kernel
def bX9_text_15 : List zI := [(.bipush (-2), 2, 0, 0, 0), (.ireturn, 1, 0, 0, 0)]
set_option maxRecDepth 20000 in
theorem hX9_text_15 : zChk false 9 cX9_text 15 bX9_text_15 = true := by decide +kernel
def bX9_text_18 : List zI := [(.aload_n 0, 1, 0, 0, 0), (.getfield 25, 3, 9, 1, 0), (.aload_n 0, 1, 0, 0, 0), (.getfield 92, 3, 9, 13, 0), (.iload_n 1, 1, 0, 0, 0)]
set_option maxRecDepth 20000 in
theorem hX9_text_18 : zChk false 9 cX9_text 18 bX9_text_18 = true := by decide +kernel
def bX9_text_30 : List zI := [(.istore_n 2, 1, 0, 0, 0), (.aload_n 0, 1, 0, 0, 0), (.getfield 14, 3, 9, 0, 0), (.iconst 0, 1, 0, 0, 0), (.putfield 98, 3, 7, 2, 0), (.iload_n 2, 1, 0, 0, 0), (.ifCond .ne 5, 3, 45, 0, 0), (.iconst (-1), 1, 0, 0, 0), (.ireturn, 1, 0, 0, 0)]
set_option maxRecDepth 20000 in
theorem hX9_text_30 : zChk false 9 cX9_text 30 bX9_text_30 = true := by decide +kernel
def bX9_text_45 : List zI := [(.aload_n 0, 1, 0, 0, 0), (.getfield 92, 3, 9, 13, 0), (.astore_n 3, 1, 0, 0, 0), (.aload_n 0, 1, 0, 0, 0), (.aload_n 0, 1, 0, 0, 0), (.getfield 88, 3, 9, 12, 0), (.putfield 92, 3, 9, 13, 0), (.aload_n 0, 1, 0, 0, 0), (.aload_n 3, 1, 0, 0, 0), (.putfield 88, 3, 9, 12, 0), (.aload_n 0, 1, 0, 0, 0)]
set_option maxRecDepth 20000 in
theorem hX9_text_45 : zChk false 9 cX9_text 45 bX9_text_45 = true := by decide +kernel
def bX9_text_67 : List zI := [(.aload_n 0, 1, 0, 0, 0), (.getfield 25, 3, 9, 1, 0), (.getfield 110, 3, 5, 9, 0), (.ireturn, 1, 0, 0, 0)]
set_option maxRecDepth 20000 in
theorem hX9_text_67 : zChk false 9 cX9_text 67 bX9_text_67 = true := by decide +kernel
def bX9_fault_0 : List zI := [(.iload_n 1, 1, 0, 0, 0)]
set_option maxRecDepth 20000 in
theorem hX9_fault_0 : zChk false 9 cX9_fault 0 bX9_fault_0 = true := by decide +kernel
def bX9_fault_28 : List zI := [(.aload_n 0, 1, 0, 0, 0), (.getfield 25, 3, 9, 1, 0), (.getfield 113, 3, 5, 10, 0), (.ireturn, 1, 0, 0, 0)]
set_option maxRecDepth 20000 in
theorem hX9_fault_28 : zChk false 9 cX9_fault 28 bX9_fault_28 = true := by decide +kernel
def bX9_fault_36 : List zI := [(.aload_n 0, 1, 0, 0, 0), (.getfield 25, 3, 9, 1, 0), (.getfield 116, 3, 5, 11, 0), (.ireturn, 1, 0, 0, 0)]
set_option maxRecDepth 20000 in
theorem hX9_fault_36 : zChk false 9 cX9_fault 36 bX9_fault_36 = true := by decide +kernel
def bX9_fault_44 : List zI := [(.iconst (-1), 1, 0, 0, 0), (.ireturn, 1, 0, 0, 0)]
set_option maxRecDepth 20000 in
theorem hX9_fault_44 : zChk false 9 cX9_fault 44 bX9_fault_44 = true := by decide +kernel
def bX9_named_0 : List zI := [(.iload_n 1, 1, 0, 0, 0)]
set_option maxRecDepth 20000 in
theorem hX9_named_0 : zChk false 9 cX9_named 0 bX9_named_0 = true := by decide +kernel
def bX9_named_28 : List zI := [(.aload_n 0, 1, 0, 0, 0), (.getfield 88, 3, 9, 12, 0), (.iload_n 2, 1, 0, 0, 0)]
set_option maxRecDepth 20000 in
theorem hX9_named_28 : zChk false 9 cX9_named 28 bX9_named_28 = true := by decide +kernel
def bX9_named_36 : List zI := [(.ireturn, 1, 0, 0, 0)]
set_option maxRecDepth 20000 in
theorem hX9_named_36 : zChk false 9 cX9_named 36 bX9_named_36 = true := by decide +kernel
def bX9_named_37 : List zI := [(.aload_n 0, 1, 0, 0, 0), (.getfield 88, 3, 9, 12, 0), (.iload_n 2, 1, 0, 0, 0)]
set_option maxRecDepth 20000 in
theorem hX9_named_37 : zChk false 9 cX9_named 37 bX9_named_37 = true := by decide +kernel
def bX9_named_45 : List zI := [(.ireturn, 1, 0, 0, 0)]
set_option maxRecDepth 20000 in
theorem hX9_named_45 : zChk false 9 cX9_named 45 bX9_named_45 = true := by decide +kernel
def bX9_named_46 : List zI := [(.iconst (-1), 1, 0, 0, 0), (.ireturn, 1, 0, 0, 0)]
set_option maxRecDepth 20000 in
theorem hX9_named_46 : zChk false 9 cX9_named 46 bX9_named_46 = true := by decide +kernel
def bX9_look_0 : List zI := [(.iload_n 1, 1, 0, 0, 0), (.ifCond .lt 14, 3, 15, 0, 0), (.iload_n 1, 1, 0, 0, 0), (.aload_n 0, 1, 0, 0, 0), (.getfield 42, 3, 9, 4, 0), (.getfield 126, 3, 2, 8, 0), (.if_icmp .lt 13, 3, 25, 0, 0)]
set_option maxRecDepth 20000 in
theorem hX9_look_0 : zChk false 9 cX9_look 0 bX9_look_0 = true := by decide +kernel
def bX9_look_18 : List zI := [(.dup, 1, 0, 0, 0)]
set_option maxRecDepth 20000 in
theorem hX9_look_18 : zChk false 9 cX9_look 18 bX9_look_18 = true := by decide +kernel
def bX9_look_25 : List zI := [(.iload_n 2, 1, 0, 0, 0)]
set_option maxRecDepth 20000 in
theorem hX9_look_25 : zChk false 9 cX9_look 25 bX9_look_25 = true := by decide +kernel
def bX9_look_60 : List zI := [(.aload_n 0, 1, 0, 0, 0), (.getfield 42, 3, 9, 4, 0), (.getfield 136, 3, 2, 0, 0), (.iload_n 1, 1, 0, 0, 0), (.iaload, 1, 0, 0, 0), (.ireturn, 1, 0, 0, 0)]
set_option maxRecDepth 20000 in
theorem hX9_look_60 : zChk false 9 cX9_look 60 bX9_look_60 = true := by decide +kernel
def bX9_look_70 : List zI := [(.aload_n 0, 1, 0, 0, 0), (.getfield 42, 3, 9, 4, 0), (.getfield 140, 3, 2, 1, 0), (.iload_n 1, 1, 0, 0, 0), (.iaload, 1, 0, 0, 0), (.ireturn, 1, 0, 0, 0)]
set_option maxRecDepth 20000 in
theorem hX9_look_70 : zChk false 9 cX9_look 70 bX9_look_70 = true := by decide +kernel
def bX9_look_80 : List zI := [(.aload_n 0, 1, 0, 0, 0), (.getfield 42, 3, 9, 4, 0), (.getfield 143, 3, 2, 2, 0), (.iload_n 1, 1, 0, 0, 0), (.iaload, 1, 0, 0, 0), (.ireturn, 1, 0, 0, 0)]
set_option maxRecDepth 20000 in
theorem hX9_look_80 : zChk false 9 cX9_look 80 bX9_look_80 = true := by decide +kernel
def bX9_look_90 : List zI := [(.aload_n 0, 1, 0, 0, 0), (.getfield 42, 3, 9, 4, 0), (.getfield 146, 3, 2, 3, 0), (.iload_n 1, 1, 0, 0, 0), (.iaload, 1, 0, 0, 0), (.ireturn, 1, 0, 0, 0)]
set_option maxRecDepth 20000 in
theorem hX9_look_90 : zChk false 9 cX9_look 90 bX9_look_90 = true := by decide +kernel
def bX9_look_100 : List zI := [(.aload_n 0, 1, 0, 0, 0), (.getfield 42, 3, 9, 4, 0), (.getfield 149, 3, 2, 4, 0), (.iload_n 1, 1, 0, 0, 0), (.iaload, 1, 0, 0, 0), (.ireturn, 1, 0, 0, 0)]
set_option maxRecDepth 20000 in
theorem hX9_look_100 : zChk false 9 cX9_look 100 bX9_look_100 = true := by decide +kernel
def bX9_look_113 : List zI := [(.dup, 1, 0, 0, 0)]
set_option maxRecDepth 20000 in
theorem hX9_look_113 : zChk false 9 cX9_look 113 bX9_look_113 = true := by decide +kernel
def bX9_place_0 : List zI := [(.aload_n 0, 1, 0, 0, 0), (.getfield 88, 3, 9, 12, 0), (.iload_n 1, 1, 0, 0, 0)]
set_option maxRecDepth 20000 in
theorem hX9_place_0 : zChk false 9 cX9_place 0 bX9_place_0 = true := by decide +kernel
def bX9_place_8 : List zI := [(.ifCond .ne 5, 3, 13, 0, 0), (.iconst (-1), 1, 0, 0, 0), (.ireturn, 1, 0, 0, 0)]
set_option maxRecDepth 20000 in
theorem hX9_place_8 : zChk false 9 cX9_place 8 bX9_place_8 = true := by decide +kernel
def bX9_place_13 : List zI := [(.iload_n 2, 1, 0, 0, 0)]
set_option maxRecDepth 20000 in
theorem hX9_place_13 : zChk false 9 cX9_place 13 bX9_place_13 = true := by decide +kernel
def bX9_place_48 : List zI := [(.aload_n 0, 1, 0, 0, 0), (.getfield 88, 3, 9, 12, 0), (.getfield 161, 3, 4, 2, 0), (.iload_n 1, 1, 0, 0, 0), (.iaload, 1, 0, 0, 0), (.ireturn, 1, 0, 0, 0)]
set_option maxRecDepth 20000 in
theorem hX9_place_48 : zChk false 9 cX9_place 48 bX9_place_48 = true := by decide +kernel
def bX9_place_58 : List zI := [(.aload_n 0, 1, 0, 0, 0), (.getfield 88, 3, 9, 12, 0), (.getfield 164, 3, 4, 3, 0), (.iload_n 1, 1, 0, 0, 0), (.iaload, 1, 0, 0, 0), (.ireturn, 1, 0, 0, 0)]
set_option maxRecDepth 20000 in
theorem hX9_place_58 : zChk false 9 cX9_place 58 bX9_place_58 = true := by decide +kernel
def bX9_place_68 : List zI := [(.aload_n 0, 1, 0, 0, 0), (.getfield 88, 3, 9, 12, 0), (.getfield 167, 3, 4, 4, 0), (.iload_n 1, 1, 0, 0, 0), (.iaload, 1, 0, 0, 0), (.ireturn, 1, 0, 0, 0)]
set_option maxRecDepth 20000 in
theorem hX9_place_68 : zChk false 9 cX9_place 68 bX9_place_68 = true := by decide +kernel
def bX9_place_78 : List zI := [(.aload_n 0, 1, 0, 0, 0), (.getfield 42, 3, 9, 4, 0), (.getfield 170, 3, 2, 5, 0), (.iload_n 1, 1, 0, 0, 0), (.iaload, 1, 0, 0, 0), (.ireturn, 1, 0, 0, 0)]
set_option maxRecDepth 20000 in
theorem hX9_place_78 : zChk false 9 cX9_place 78 bX9_place_78 = true := by decide +kernel
def bX9_place_88 : List zI := [(.aload_n 0, 1, 0, 0, 0), (.getfield 42, 3, 9, 4, 0), (.getfield 173, 3, 2, 6, 0), (.iload_n 1, 1, 0, 0, 0), (.iaload, 1, 0, 0, 0), (.ireturn, 1, 0, 0, 0)]
set_option maxRecDepth 20000 in
theorem hX9_place_88 : zChk false 9 cX9_place 88 bX9_place_88 = true := by decide +kernel
def bX9_place_98 : List zI := [(.iconst (-1), 1, 0, 0, 0), (.ireturn, 1, 0, 0, 0)]
set_option maxRecDepth 20000 in
theorem hX9_place_98 : zChk false 9 cX9_place 98 bX9_place_98 = true := by decide +kernel
def bX9_sky_0 : List zI := [(.iload_n 1, 1, 0, 0, 0), (.ifCond .lt 9, 3, 10, 0, 0), (.iload_n 1, 1, 0, 0, 0), (.bipush 96, 2, 0, 0, 0), (.if_icmp .lt 7, 3, 14, 0, 0), (.iconst (-1), 1, 0, 0, 0), (.goto 12, 3, 23, 0, 0)]
set_option maxRecDepth 20000 in
theorem hX9_sky_0 : zChk false 9 cX9_sky 0 bX9_sky_0 = true := by decide +kernel
def bX9_sky_10 : List zI := [(.iconst (-1), 1, 0, 0, 0), (.goto 12, 3, 23, 0, 0)]
set_option maxRecDepth 20000 in
theorem hX9_sky_10 : zChk false 9 cX9_sky 10 bX9_sky_10 = true := by decide +kernel
def bX9_sky_14 : List zI := [(.aload_n 0, 1, 0, 0, 0), (.getfield 88, 3, 9, 12, 0), (.getfield 176, 3, 4, 8, 0), (.iload_n 1, 1, 0, 0, 0), (.iaload, 1, 0, 0, 0), (.ireturn, 1, 0, 0, 0)]
set_option maxRecDepth 20000 in
theorem hX9_sky_14 : zChk false 9 cX9_sky 14 bX9_sky_14 = true := by decide +kernel
def bX9_sky_23 : List zI := [(.ireturn, 1, 0, 0, 0)]
set_option maxRecDepth 20000 in
theorem hX9_sky_23 : zChk false 9 cX9_sky 23 bX9_sky_23 = true := by decide +kernel
def bX9_law_0 : List zI := [(.iload_n 1, 1, 0, 0, 0), (.ifCond .lt 31, 3, 32, 0, 0), (.iload_n 1, 1, 0, 0, 0), (.iconst 3, 1, 0, 0, 0), (.if_icmp .ge 26, 3, 32, 0, 0), (.aload_n 0, 1, 0, 0, 0), (.getfield 88, 3, 9, 12, 0), (.iload_n 2, 1, 0, 0, 0)]
set_option maxRecDepth 20000 in
theorem hX9_law_0 : zChk false 9 cX9_law 0 bX9_law_0 = true := by decide +kernel
def bX9_law_17 : List zI := [(.ifCond .eq 15, 3, 32, 0, 0), (.aload_n 0, 1, 0, 0, 0), (.getfield 42, 3, 9, 4, 0), (.getfield 179, 3, 2, 10, 0), (.bipush 96, 2, 0, 0, 0), (.if_icmp .lt 7, 3, 36, 0, 0), (.ldc2_w 182, 3, 0, 0, -9223372036854775808), (.lreturn, 1, 0, 0, 0)]
set_option maxRecDepth 20000 in
theorem hX9_law_17 : zChk false 9 cX9_law 17 bX9_law_17 = true := by decide +kernel
def bX9_law_32 : List zI := [(.ldc2_w 182, 3, 0, 0, -9223372036854775808), (.lreturn, 1, 0, 0, 0)]
set_option maxRecDepth 20000 in
theorem hX9_law_32 : zChk false 9 cX9_law 32 bX9_law_32 = true := by decide +kernel
def bX9_law_36 : List zI := [(.aload_n 0, 1, 0, 0, 0), (.getfield 57, 3, 9, 7, 0), (.iload_n 1, 1, 0, 0, 0), (.iload_n 2, 1, 0, 0, 0)]
set_option maxRecDepth 20000 in
theorem hX9_law_36 : zChk false 9 cX9_law 36 bX9_law_36 = true := by decide +kernel
def bX9_law_45 : List zI := [(.lreturn, 1, 0, 0, 0)]
set_option maxRecDepth 20000 in
theorem hX9_law_45 : zChk false 9 cX9_law 45 bX9_law_45 = true := by decide +kernel
def bX9_put_0 : List zI := [(.aload_n 0, 1, 0, 0, 0), (.getfield 88, 3, 9, 12, 0), (.iload_n 1, 1, 0, 0, 0)]
set_option maxRecDepth 20000 in
theorem hX9_put_0 : zChk false 9 cX9_put 0 bX9_put_0 = true := by decide +kernel
def bX9_put_8 : List zI := [(.ifCond .eq 13, 3, 21, 0, 0), (.iload_n 2, 1, 0, 0, 0), (.ifCond .lt 9, 3, 21, 0, 0), (.iload_n 2, 1, 0, 0, 0), (.bipush 40, 2, 0, 0, 0), (.if_icmp .le 5, 3, 23, 0, 0), (.iconst (-1), 1, 0, 0, 0), (.ireturn, 1, 0, 0, 0)]
set_option maxRecDepth 20000 in
theorem hX9_put_8 : zChk false 9 cX9_put 8 bX9_put_8 = true := by decide +kernel
def bX9_put_21 : List zI := [(.iconst (-1), 1, 0, 0, 0), (.ireturn, 1, 0, 0, 0)]
set_option maxRecDepth 20000 in
theorem hX9_put_21 : zChk false 9 cX9_put 21 bX9_put_21 = true := by decide +kernel
def bX9_put_23 : List zI := [(.iload_n 2, 1, 0, 0, 0), (.aload_n 0, 1, 0, 0, 0), (.getfield 88, 3, 9, 12, 0), (.getfield 188, 3, 4, 13, 0), (.iconst 3, 1, 0, 0, 0), (.iaload, 1, 0, 0, 0), (.aload_n 0, 1, 0, 0, 0), (.getfield 42, 3, 9, 4, 0), (.getfield 191, 3, 2, 11, 0), (.isub, 1, 0, 0, 0)]
set_option maxRecDepth 20000 in
theorem hX9_put_23 : zChk false 9 cX9_put 23 bX9_put_23 = true := by decide +kernel
def bX9_put_44 : List zI := [(.istore_n 3, 1, 0, 0, 0), (.aload_n 0, 1, 0, 0, 0), (.getfield 42, 3, 9, 4, 0), (.iload_n 1, 1, 0, 0, 0), (.iload_n 3, 1, 0, 0, 0)]
set_option maxRecDepth 20000 in
theorem hX9_put_44 : zChk false 9 cX9_put 44 bX9_put_44 = true := by decide +kernel
def bX9_put_54 : List zI := [(.lstore 4, 2, 0, 0, 0), (.aload_n 0, 1, 0, 0, 0), (.iconst 0, 1, 0, 0, 0), (.iload_n 1, 1, 0, 0, 0), (.lload 4, 2, 0, 0, 0)]
set_option maxRecDepth 20000 in
theorem hX9_put_54 : zChk false 9 cX9_put 54 bX9_put_54 = true := by decide +kernel
def bX9_put_64 : List zI := [(.ireturn, 1, 0, 0, 0)]
set_option maxRecDepth 20000 in
theorem hX9_put_64 : zChk false 9 cX9_put 64 bX9_put_64 = true := by decide +kernel
def bX9_bring_0 : List zI := [(.aload_n 0, 1, 0, 0, 0), (.getfield 88, 3, 9, 12, 0), (.iload_n 1, 1, 0, 0, 0)]
set_option maxRecDepth 20000 in
theorem hX9_bring_0 : zChk false 9 cX9_bring 0 bX9_bring_0 = true := by decide +kernel
def bX9_bring_8 : List zI := [(.ifCond .eq 13, 3, 21, 0, 0), (.iload_n 2, 1, 0, 0, 0), (.ifCond .lt 9, 3, 21, 0, 0), (.iload_n 2, 1, 0, 0, 0), (.bipush 40, 2, 0, 0, 0), (.if_icmp .le 5, 3, 23, 0, 0), (.iconst (-1), 1, 0, 0, 0), (.ireturn, 1, 0, 0, 0)]
set_option maxRecDepth 20000 in
theorem hX9_bring_8 : zChk false 9 cX9_bring 8 bX9_bring_8 = true := by decide +kernel
def bX9_bring_21 : List zI := [(.iconst (-1), 1, 0, 0, 0), (.ireturn, 1, 0, 0, 0)]
set_option maxRecDepth 20000 in
theorem hX9_bring_21 : zChk false 9 cX9_bring 21 bX9_bring_21 = true := by decide +kernel
def bX9_bring_23 : List zI := [(.iload_n 2, 1, 0, 0, 0), (.aload_n 0, 1, 0, 0, 0), (.getfield 88, 3, 9, 12, 0), (.getfield 188, 3, 4, 13, 0), (.iconst 3, 1, 0, 0, 0), (.iaload, 1, 0, 0, 0), (.aload_n 0, 1, 0, 0, 0), (.getfield 42, 3, 9, 4, 0), (.getfield 191, 3, 2, 11, 0), (.isub, 1, 0, 0, 0)]
set_option maxRecDepth 20000 in
theorem hX9_bring_23 : zChk false 9 cX9_bring 23 bX9_bring_23 = true := by decide +kernel
def bX9_bring_44 : List zI := [(.istore_n 3, 1, 0, 0, 0), (.aload_n 0, 1, 0, 0, 0), (.getfield 42, 3, 9, 4, 0), (.iload_n 1, 1, 0, 0, 0), (.iload_n 3, 1, 0, 0, 0)]
set_option maxRecDepth 20000 in
theorem hX9_bring_44 : zChk false 9 cX9_bring 44 bX9_bring_44 = true := by decide +kernel
def bX9_bring_54 : List zI := [(.lstore 4, 2, 0, 0, 0), (.aload_n 0, 1, 0, 0, 0), (.iconst 1, 1, 0, 0, 0), (.iload_n 1, 1, 0, 0, 0), (.lload 4, 2, 0, 0, 0)]
set_option maxRecDepth 20000 in
theorem hX9_bring_54 : zChk false 9 cX9_bring 54 bX9_bring_54 = true := by decide +kernel
def bX9_bring_64 : List zI := [(.ireturn, 1, 0, 0, 0)]
set_option maxRecDepth 20000 in
theorem hX9_bring_64 : zChk false 9 cX9_bring 64 bX9_bring_64 = true := by decide +kernel
def bX9_route_0 : List zI := [(.iload_n 1, 1, 0, 0, 0), (.ifCond .lt 9, 3, 10, 0, 0), (.iload_n 1, 1, 0, 0, 0), (.bipush 8, 2, 0, 0, 0), (.if_icmp .le 5, 3, 12, 0, 0), (.iconst 0, 1, 0, 0, 0), (.ireturn, 1, 0, 0, 0)]
set_option maxRecDepth 20000 in
theorem hX9_route_0 : zChk false 9 cX9_route 0 bX9_route_0 = true := by decide +kernel
def bX9_route_10 : List zI := [(.iconst 0, 1, 0, 0, 0), (.ireturn, 1, 0, 0, 0)]
set_option maxRecDepth 20000 in
theorem hX9_route_10 : zChk false 9 cX9_route 10 bX9_route_10 = true := by decide +kernel
def bX9_route_12 : List zI := [(.iconst 0, 1, 0, 0, 0), (.istore 4, 2, 0, 0, 0)]
set_option maxRecDepth 20000 in
theorem hX9_route_12 : zChk false 9 cX9_route 12 bX9_route_12 = true := by decide +kernel
def bX9_route_15 : List zI := [(.iload 4, 2, 0, 0, 0), (.iload_n 1, 1, 0, 0, 0), (.if_icmp .ge 31, 3, 49, 0, 0), (.aload_n 0, 1, 0, 0, 0), (.getfield 88, 3, 9, 12, 0), (.lload_n 2, 1, 0, 0, 0), (.iconst 4, 1, 0, 0, 0), (.iload 4, 2, 0, 0, 0), (.imul, 1, 0, 0, 0), (.lshr, 1, 0, 0, 0), (.l2i, 1, 0, 0, 0), (.bipush 15, 2, 0, 0, 0), (.iand, 1, 0, 0, 0)]
set_option maxRecDepth 20000 in
theorem hX9_route_15 : zChk false 9 cX9_route 15 bX9_route_15 = true := by decide +kernel
def bX9_route_38 : List zI := [(.ifCond .ne 5, 3, 43, 0, 0), (.iconst 0, 1, 0, 0, 0), (.ireturn, 1, 0, 0, 0)]
set_option maxRecDepth 20000 in
theorem hX9_route_38 : zChk false 9 cX9_route 38 bX9_route_38 = true := by decide +kernel
def bX9_route_43 : List zI := [(.iinc 4 1, 3, 0, 0, 0), (.goto (-31), 3, 15, 0, 0)]
set_option maxRecDepth 20000 in
theorem hX9_route_43 : zChk false 9 cX9_route 43 bX9_route_43 = true := by decide +kernel
def bX9_route_49 : List zI := [(.aload_n 0, 1, 0, 0, 0), (.getfield 67, 3, 9, 9, 0), (.aload_n 0, 1, 0, 0, 0), (.getfield 42, 3, 9, 4, 0)]
set_option maxRecDepth 20000 in
theorem hX9_route_49 : zChk false 9 cX9_route 49 bX9_route_49 = true := by decide +kernel
def bX9_route_60 : List zI := [(.aload_n 0, 1, 0, 0, 0), (.getfield 42, 3, 9, 4, 0), (.iload_n 1, 1, 0, 0, 0), (.lload_n 2, 1, 0, 0, 0)]
set_option maxRecDepth 20000 in
theorem hX9_route_60 : zChk false 9 cX9_route 60 bX9_route_60 = true := by decide +kernel
def bX9_route_69 : List zI := [(.iconst 1, 1, 0, 0, 0), (.ireturn, 1, 0, 0, 0)]
set_option maxRecDepth 20000 in
theorem hX9_route_69 : zChk false 9 cX9_route 69 bX9_route_69 = true := by decide +kernel
def bX9_ticks_0 : List zI := [(.aload_n 0, 1, 0, 0, 0), (.iload_n 1, 1, 0, 0, 0)]
set_option maxRecDepth 20000 in
theorem hX9_ticks_0 : zChk false 9 cX9_ticks 0 bX9_ticks_0 = true := by decide +kernel
def bX9_ticks_5 : List zI := [(.ifCond .ne 5, 3, 10, 0, 0), (.iconst (-1), 1, 0, 0, 0), (.ireturn, 1, 0, 0, 0)]
set_option maxRecDepth 20000 in
theorem hX9_ticks_5 : zChk false 9 cX9_ticks 5 bX9_ticks_5 = true := by decide +kernel
def bX9_ticks_10 : List zI := [(.iload_n 1, 1, 0, 0, 0), (.ifCond .le 19, 3, 30, 0, 0), (.aload_n 0, 1, 0, 0, 0), (.getfield 57, 3, 9, 7, 0), (.iload_n 1, 1, 0, 0, 0)]
set_option maxRecDepth 20000 in
theorem hX9_ticks_10 : zChk false 9 cX9_ticks 10 bX9_ticks_10 = true := by decide +kernel
def bX9_ticks_22 : List zI := [(.aload_n 0, 1, 0, 0, 0), (.getfield 67, 3, 9, 9, 0), (.iconst 0, 1, 0, 0, 0), (.putfield 223, 3, 1, 4, 0), (.aload_n 0, 1, 0, 0, 0), (.getfield 42, 3, 9, 4, 0), (.getfield 179, 3, 2, 10, 0), (.ireturn, 1, 0, 0, 0)]
set_option maxRecDepth 20000 in
theorem hX9_ticks_22 : zChk false 9 cX9_ticks 22 bX9_ticks_22 = true := by decide +kernel
def bX9_ticks_30 : List zI := [(.aload_n 0, 1, 0, 0, 0), (.getfield 42, 3, 9, 4, 0), (.getfield 179, 3, 2, 10, 0), (.ireturn, 1, 0, 0, 0)]
set_option maxRecDepth 20000 in
theorem hX9_ticks_30 : zChk false 9 cX9_ticks 30 bX9_ticks_30 = true := by decide +kernel
def bX9_sum_0 : List zI := [(.iload_n 1, 1, 0, 0, 0), (.bipush 7, 2, 0, 0, 0), (.if_icmp .ne 20, 3, 23, 0, 0), (.aload_n 0, 1, 0, 0, 0), (.getfield 42, 3, 9, 4, 0), (.aload_n 0, 1, 0, 0, 0), (.getfield 88, 3, 9, 12, 0), (.getfield 188, 3, 4, 13, 0), (.iconst 5, 1, 0, 0, 0), (.iaload, 1, 0, 0, 0)]
set_option maxRecDepth 20000 in
theorem hX9_sum_0 : zChk false 9 cX9_sum 0 bX9_sum_0 = true := by decide +kernel
def bX9_sum_22 : List zI := [(.ireturn, 1, 0, 0, 0)]
set_option maxRecDepth 20000 in
theorem hX9_sum_22 : zChk false 9 cX9_sum 22 bX9_sum_22 = true := by decide +kernel
def bX9_sum_23 : List zI := [(.iload_n 1, 1, 0, 0, 0), (.ifCond .lt 9, 3, 33, 0, 0), (.iload_n 1, 1, 0, 0, 0), (.bipush 7, 2, 0, 0, 0), (.if_icmp .le 7, 3, 37, 0, 0), (.iconst (-1), 1, 0, 0, 0), (.goto 12, 3, 46, 0, 0)]
set_option maxRecDepth 20000 in
theorem hX9_sum_23 : zChk false 9 cX9_sum 23 bX9_sum_23 = true := by decide +kernel
def bX9_sum_33 : List zI := [(.iconst (-1), 1, 0, 0, 0), (.goto 12, 3, 46, 0, 0)]
set_option maxRecDepth 20000 in
theorem hX9_sum_33 : zChk false 9 cX9_sum 33 bX9_sum_33 = true := by decide +kernel
def bX9_sum_37 : List zI := [(.aload_n 0, 1, 0, 0, 0), (.getfield 42, 3, 9, 4, 0), (.getfield 229, 3, 2, 7, 0), (.iload_n 1, 1, 0, 0, 0), (.iaload, 1, 0, 0, 0), (.ireturn, 1, 0, 0, 0)]
set_option maxRecDepth 20000 in
theorem hX9_sum_37 : zChk false 9 cX9_sum 37 bX9_sum_37 = true := by decide +kernel
def bX9_sum_46 : List zI := [(.ireturn, 1, 0, 0, 0)]
set_option maxRecDepth 20000 in
theorem hX9_sum_46 : zChk false 9 cX9_sum 46 bX9_sum_46 = true := by decide +kernel
def bX9_run_0 : List zI := [(.aload_n 0, 1, 0, 0, 0), (.iload_n 1, 1, 0, 0, 0)]
set_option maxRecDepth 20000 in
theorem hX9_run_0 : zChk false 9 cX9_run 0 bX9_run_0 = true := by decide +kernel
def bX9_run_5 : List zI := [(.ifCond .ne 6, 3, 11, 0, 0), (.ldc 232, 2, 0, 0, -2147483648), (.ireturn, 1, 0, 0, 0)]
set_option maxRecDepth 20000 in
theorem hX9_run_5 : zChk false 9 cX9_run 5 bX9_run_5 = true := by decide +kernel
def bX9_run_11 : List zI := [(.aload_n 0, 1, 0, 0, 0)]
set_option maxRecDepth 20000 in
theorem hX9_run_11 : zChk false 9 cX9_run 11 bX9_run_11 = true := by decide +kernel
def bX9_run_15 : List zI := [(.aload_n 0, 1, 0, 0, 0), (.iload_n 1, 1, 0, 0, 0)]
set_option maxRecDepth 20000 in
theorem hX9_run_15 : zChk false 9 cX9_run 15 bX9_run_15 = true := by decide +kernel
def bX9_run_20 : List zI := [(.ireturn, 1, 0, 0, 0)]
set_option maxRecDepth 20000 in
theorem hX9_run_20 : zChk false 9 cX9_run 20 bX9_run_20 = true := by decide +kernel
def bX9_many_0 : List zI := [(.aload_n 0, 1, 0, 0, 0), (.getfield 88, 3, 9, 12, 0), (.iload_n 1, 1, 0, 0, 0)]
set_option maxRecDepth 20000 in
theorem hX9_many_0 : zChk false 9 cX9_many 0 bX9_many_0 = true := by decide +kernel
def bX9_many_8 : List zI := [(.ifCond .eq 20, 3, 28, 0, 0), (.aload_n 0, 1, 0, 0, 0), (.iload_n 2, 1, 0, 0, 0)]
set_option maxRecDepth 20000 in
theorem hX9_many_8 : zChk false 9 cX9_many 8 bX9_many_8 = true := by decide +kernel
def bX9_many_16 : List zI := [(.ifCond .eq 12, 3, 28, 0, 0), (.iload_n 3, 1, 0, 0, 0), (.ifCond .lt 8, 3, 28, 0, 0), (.iload_n 3, 1, 0, 0, 0), (.iconst 1, 1, 0, 0, 0), (.if_icmp .le 6, 3, 31, 0, 0), (.ldc 232, 2, 0, 0, -2147483648), (.ireturn, 1, 0, 0, 0)]
set_option maxRecDepth 20000 in
theorem hX9_many_16 : zChk false 9 cX9_many 16 bX9_many_16 = true := by decide +kernel
def bX9_many_28 : List zI := [(.ldc 232, 2, 0, 0, -2147483648), (.ireturn, 1, 0, 0, 0)]
set_option maxRecDepth 20000 in
theorem hX9_many_28 : zChk false 9 cX9_many 28 bX9_many_28 = true := by decide +kernel
def bX9_many_31 : List zI := [(.ldc 232, 2, 0, 0, -2147483648), (.istore 4, 2, 0, 0, 0), (.iconst 0, 1, 0, 0, 0), (.istore 5, 2, 0, 0, 0), (.iconst 0, 1, 0, 0, 0), (.istore 6, 2, 0, 0, 0)]
set_option maxRecDepth 20000 in
theorem hX9_many_31 : zChk false 9 cX9_many 31 bX9_many_31 = true := by decide +kernel
def bX9_many_41 : List zI := [(.iload 6, 2, 0, 0, 0), (.aload_n 0, 1, 0, 0, 0), (.getfield 42, 3, 9, 4, 0), (.getfield 239, 3, 2, 9, 0), (.if_icmp .gt 46, 3, 96, 0, 0), (.aload_n 0, 1, 0, 0, 0)]
set_option maxRecDepth 20000 in
theorem hX9_many_41 : zChk false 9 cX9_many 41 bX9_many_41 = true := by decide +kernel
def bX9_many_57 : List zI := [(.aload_n 0, 1, 0, 0, 0), (.getfield 46, 3, 9, 5, 0), (.iload_n 1, 1, 0, 0, 0), (.iload 6, 2, 0, 0, 0)]
set_option maxRecDepth 20000 in
theorem hX9_many_57 : zChk false 9 cX9_many 57 bX9_many_57 = true := by decide +kernel
def bX9_many_67 : List zI := [(.pop2, 1, 0, 0, 0), (.aload_n 0, 1, 0, 0, 0), (.iload_n 2, 1, 0, 0, 0)]
set_option maxRecDepth 20000 in
theorem hX9_many_67 : zChk false 9 cX9_many 67 bX9_many_67 = true := by decide +kernel
def bX9_many_73 : List zI := [(.istore 7, 2, 0, 0, 0), (.iload 7, 2, 0, 0, 0), (.iload 4, 2, 0, 0, 0), (.if_icmp .le 11, 3, 90, 0, 0), (.iload 7, 2, 0, 0, 0), (.istore 4, 2, 0, 0, 0), (.iload 6, 2, 0, 0, 0), (.istore 5, 2, 0, 0, 0), (.iinc 6 1, 3, 0, 0, 0), (.goto (-52), 3, 41, 0, 0)]
set_option maxRecDepth 20000 in
theorem hX9_many_73 : zChk false 9 cX9_many 73 bX9_many_73 = true := by decide +kernel
def bX9_many_90 : List zI := [(.iinc 6 1, 3, 0, 0, 0), (.goto (-52), 3, 41, 0, 0)]
set_option maxRecDepth 20000 in
theorem hX9_many_90 : zChk false 9 cX9_many 90 bX9_many_90 = true := by decide +kernel
def bX9_many_96 : List zI := [(.iload_n 3, 1, 0, 0, 0), (.ifCond .ne 8, 3, 105, 0, 0), (.iload 5, 2, 0, 0, 0), (.goto 5, 3, 107, 0, 0)]
set_option maxRecDepth 20000 in
theorem hX9_many_96 : zChk false 9 cX9_many 96 bX9_many_96 = true := by decide +kernel
def bX9_many_105 : List zI := [(.iload 4, 2, 0, 0, 0), (.ireturn, 1, 0, 0, 0)]
set_option maxRecDepth 20000 in
theorem hX9_many_105 : zChk false 9 cX9_many 105 bX9_many_105 = true := by decide +kernel
def bX9_many_107 : List zI := [(.ireturn, 1, 0, 0, 0)]
set_option maxRecDepth 20000 in
theorem hX9_many_107 : zChk false 9 cX9_many 107 bX9_many_107 = true := by decide +kernel
def bX9_when_0 : List zI := [(.aload_n 0, 1, 0, 0, 0), (.iload_n 1, 1, 0, 0, 0)]
set_option maxRecDepth 20000 in
theorem hX9_when_0 : zChk false 9 cX9_when 0 bX9_when_0 = true := by decide +kernel
def bX9_when_5 : List zI := [(.ifCond .eq 12, 3, 17, 0, 0), (.iload_n 2, 1, 0, 0, 0), (.ifCond .lt 8, 3, 17, 0, 0), (.iload_n 2, 1, 0, 0, 0), (.iconst 1, 1, 0, 0, 0), (.if_icmp .le 6, 3, 20, 0, 0), (.ldc 232, 2, 0, 0, -2147483648), (.ireturn, 1, 0, 0, 0)]
set_option maxRecDepth 20000 in
theorem hX9_when_5 : zChk false 9 cX9_when 5 bX9_when_5 = true := by decide +kernel
def bX9_when_17 : List zI := [(.ldc 232, 2, 0, 0, -2147483648), (.ireturn, 1, 0, 0, 0)]
set_option maxRecDepth 20000 in
theorem hX9_when_17 : zChk false 9 cX9_when 17 bX9_when_17 = true := by decide +kernel
def bX9_when_20 : List zI := [(.ldc 232, 2, 0, 0, -2147483648), (.istore_n 3, 1, 0, 0, 0), (.aload_n 0, 1, 0, 0, 0), (.getfield 42, 3, 9, 4, 0), (.getfield 179, 3, 2, 10, 0), (.istore 4, 2, 0, 0, 0), (.aload_n 0, 1, 0, 0, 0), (.getfield 42, 3, 9, 4, 0), (.getfield 179, 3, 2, 10, 0), (.istore 5, 2, 0, 0, 0)]
set_option maxRecDepth 20000 in
theorem hX9_when_20 : zChk false 9 cX9_when 20 bX9_when_20 = true := by decide +kernel
def bX9_when_41 : List zI := [(.iload 5, 2, 0, 0, 0), (.aload_n 0, 1, 0, 0, 0), (.getfield 42, 3, 9, 4, 0), (.getfield 179, 3, 2, 10, 0), (.iload_n 1, 1, 0, 0, 0), (.iadd, 1, 0, 0, 0), (.if_icmp .gt 42, 3, 94, 0, 0), (.aload_n 0, 1, 0, 0, 0)]
set_option maxRecDepth 20000 in
theorem hX9_when_41 : zChk false 9 cX9_when 41 bX9_when_41 = true := by decide +kernel
def bX9_when_59 : List zI := [(.aload_n 0, 1, 0, 0, 0), (.getfield 36, 3, 9, 3, 0), (.iload 5, 2, 0, 0, 0), (.putfield 242, 3, 6, 2, 0), (.aload_n 0, 1, 0, 0, 0), (.iload_n 1, 1, 0, 0, 0)]
set_option maxRecDepth 20000 in
theorem hX9_when_59 : zChk false 9 cX9_when 59 bX9_when_59 = true := by decide +kernel
def bX9_when_73 : List zI := [(.istore 6, 2, 0, 0, 0), (.iload 6, 2, 0, 0, 0), (.iload_n 3, 1, 0, 0, 0), (.if_icmp .le 10, 3, 88, 0, 0), (.iload 6, 2, 0, 0, 0), (.istore_n 3, 1, 0, 0, 0), (.iload 5, 2, 0, 0, 0), (.istore 4, 2, 0, 0, 0), (.iinc 5 1, 3, 0, 0, 0), (.goto (-50), 3, 41, 0, 0)]
set_option maxRecDepth 20000 in
theorem hX9_when_73 : zChk false 9 cX9_when 73 bX9_when_73 = true := by decide +kernel
def bX9_when_88 : List zI := [(.iinc 5 1, 3, 0, 0, 0), (.goto (-50), 3, 41, 0, 0)]
set_option maxRecDepth 20000 in
theorem hX9_when_88 : zChk false 9 cX9_when 88 bX9_when_88 = true := by decide +kernel
def bX9_when_94 : List zI := [(.iload_n 2, 1, 0, 0, 0), (.ifCond .ne 8, 3, 103, 0, 0), (.iload 4, 2, 0, 0, 0), (.goto 4, 3, 104, 0, 0)]
set_option maxRecDepth 20000 in
theorem hX9_when_94 : zChk false 9 cX9_when 94 bX9_when_94 = true := by decide +kernel
def bX9_when_103 : List zI := [(.iload_n 3, 1, 0, 0, 0), (.ireturn, 1, 0, 0, 0)]
set_option maxRecDepth 20000 in
theorem hX9_when_103 : zChk false 9 cX9_when 103 bX9_when_103 = true := by decide +kernel
def bX9_when_104 : List zI := [(.ireturn, 1, 0, 0, 0)]
set_option maxRecDepth 20000 in
theorem hX9_when_104 : zChk false 9 cX9_when 104 bX9_when_104 = true := by decide +kernel
def bX9_way_0 : List zI := [(.aload_n 0, 1, 0, 0, 0), (.iload_n 1, 1, 0, 0, 0)]
set_option maxRecDepth 20000 in
theorem hX9_way_0 : zChk false 9 cX9_way 0 bX9_way_0 = true := by decide +kernel
def bX9_way_5 : List zI := [(.ifCond .eq 22, 3, 27, 0, 0), (.iload_n 2, 1, 0, 0, 0), (.ifCond .lt 18, 3, 27, 0, 0), (.iload_n 2, 1, 0, 0, 0), (.iconst 1, 1, 0, 0, 0), (.if_icmp .gt 13, 3, 27, 0, 0), (.aload_n 0, 1, 0, 0, 0), (.getfield 88, 3, 9, 12, 0), (.getfield 245, 3, 4, 0, 0), (.ifCond .ne 5, 3, 29, 0, 0), (.iconst (-1), 1, 0, 0, 0), (.ireturn, 1, 0, 0, 0)]
set_option maxRecDepth 20000 in
theorem hX9_way_5 : zChk false 9 cX9_way 5 bX9_way_5 = true := by decide +kernel
def bX9_way_27 : List zI := [(.iconst (-1), 1, 0, 0, 0), (.ireturn, 1, 0, 0, 0)]
set_option maxRecDepth 20000 in
theorem hX9_way_27 : zChk false 9 cX9_way 27 bX9_way_27 = true := by decide +kernel
def bX9_way_29 : List zI := [(.iconst (-1), 1, 0, 0, 0), (.istore_n 3, 1, 0, 0, 0), (.iconst 0, 1, 0, 0, 0), (.istore 4, 2, 0, 0, 0), (.aload_n 0, 1, 0, 0, 0), (.getfield 81, 3, 9, 11, 0), (.aload_n 0, 1, 0, 0, 0), (.getfield 88, 3, 9, 12, 0), (.getfield 245, 3, 4, 0, 0)]
set_option maxRecDepth 20000 in
theorem hX9_way_29 : zChk false 9 cX9_way 29 bX9_way_29 = true := by decide +kernel
def bX9_way_48 : List zI := [(.iconst 0, 1, 0, 0, 0), (.istore 5, 2, 0, 0, 0)]
set_option maxRecDepth 20000 in
theorem hX9_way_48 : zChk false 9 cX9_way 48 bX9_way_48 = true := by decide +kernel
def bX9_way_51 : List zI := [(.iload 5, 2, 0, 0, 0), (.bipush 120, 2, 0, 0, 0), (.if_icmp .ge 88, 3, 143, 0, 0), (.aload_n 0, 1, 0, 0, 0)]
set_option maxRecDepth 20000 in
theorem hX9_way_51 : zChk false 9 cX9_way 51 bX9_way_51 = true := by decide +kernel
def bX9_way_62 : List zI := [(.aload_n 0, 1, 0, 0, 0), (.getfield 46, 3, 9, 5, 0), (.aload_n 0, 1, 0, 0, 0), (.getfield 88, 3, 9, 12, 0), (.getfield 245, 3, 4, 0, 0), (.aload_n 0, 1, 0, 0, 0), (.getfield 81, 3, 9, 11, 0)]
set_option maxRecDepth 20000 in
theorem hX9_way_62 : zChk false 9 cX9_way 62 bX9_way_62 = true := by decide +kernel
def bX9_way_80 : List zI := [(.i2l, 1, 0, 0, 0)]
set_option maxRecDepth 20000 in
theorem hX9_way_80 : zChk false 9 cX9_way 80 bX9_way_80 = true := by decide +kernel
def bX9_way_84 : List zI := [(.aload_n 0, 1, 0, 0, 0), (.getfield 61, 3, 9, 8, 0), (.iload_n 1, 1, 0, 0, 0)]
set_option maxRecDepth 20000 in
theorem hX9_way_84 : zChk false 9 cX9_way 84 bX9_way_84 = true := by decide +kernel
def bX9_way_92 : List zI := [(.aload_n 0, 1, 0, 0, 0), (.getfield 46, 3, 9, 5, 0), (.getfield 229, 3, 2, 7, 0), (.iconst 0, 1, 0, 0, 0), (.iaload, 1, 0, 0, 0), (.iload_n 3, 1, 0, 0, 0), (.if_icmp .le 22, 3, 124, 0, 0), (.aload_n 0, 1, 0, 0, 0), (.getfield 46, 3, 9, 5, 0), (.getfield 229, 3, 2, 7, 0), (.iconst 0, 1, 0, 0, 0), (.iaload, 1, 0, 0, 0), (.istore_n 3, 1, 0, 0, 0), (.aload_n 0, 1, 0, 0, 0), (.getfield 81, 3, 9, 11, 0)]
set_option maxRecDepth 20000 in
theorem hX9_way_92 : zChk false 9 cX9_way 92 bX9_way_92 = true := by decide +kernel
def bX9_way_122 : List zI := [(.istore 4, 2, 0, 0, 0), (.aload_n 0, 1, 0, 0, 0), (.getfield 81, 3, 9, 11, 0)]
set_option maxRecDepth 20000 in
theorem hX9_way_122 : zChk false 9 cX9_way 122 bX9_way_122 = true := by decide +kernel
def bX9_way_124 : List zI := [(.aload_n 0, 1, 0, 0, 0), (.getfield 81, 3, 9, 11, 0)]
set_option maxRecDepth 20000 in
theorem hX9_way_124 : zChk false 9 cX9_way 124 bX9_way_124 = true := by decide +kernel
def bX9_way_131 : List zI := [(.ifCond .ne 6, 3, 137, 0, 0), (.goto 9, 3, 143, 0, 0)]
set_option maxRecDepth 20000 in
theorem hX9_way_131 : zChk false 9 cX9_way 131 bX9_way_131 = true := by decide +kernel
def bX9_way_137 : List zI := [(.iinc 5 1, 3, 0, 0, 0), (.goto (-89), 3, 51, 0, 0)]
set_option maxRecDepth 20000 in
theorem hX9_way_137 : zChk false 9 cX9_way 137 bX9_way_137 = true := by decide +kernel
def bX9_way_143 : List zI := [(.iload_n 2, 1, 0, 0, 0), (.ifCond .ne 7, 3, 151, 0, 0), (.iload_n 3, 1, 0, 0, 0), (.goto 5, 3, 153, 0, 0)]
set_option maxRecDepth 20000 in
theorem hX9_way_143 : zChk false 9 cX9_way 143 bX9_way_143 = true := by decide +kernel
def bX9_way_151 : List zI := [(.iload 4, 2, 0, 0, 0), (.ireturn, 1, 0, 0, 0)]
set_option maxRecDepth 20000 in
theorem hX9_way_151 : zChk false 9 cX9_way 151 bX9_way_151 = true := by decide +kernel
def bX9_way_153 : List zI := [(.ireturn, 1, 0, 0, 0)]
set_option maxRecDepth 20000 in
theorem hX9_way_153 : zChk false 9 cX9_way 153 bX9_way_153 = true := by decide +kernel
def bX9_best_0 : List zI := [(.aload_n 0, 1, 0, 0, 0), (.iload_n 1, 1, 0, 0, 0)]
set_option maxRecDepth 20000 in
theorem hX9_best_0 : zChk false 9 cX9_best 0 bX9_best_0 = true := by decide +kernel
def bX9_best_5 : List zI := [(.ifCond .eq 12, 3, 17, 0, 0), (.iload_n 2, 1, 0, 0, 0), (.ifCond .lt 8, 3, 17, 0, 0), (.iload_n 2, 1, 0, 0, 0), (.iconst 1, 1, 0, 0, 0), (.if_icmp .le 6, 3, 20, 0, 0), (.ldc 232, 2, 0, 0, -2147483648), (.ireturn, 1, 0, 0, 0)]
set_option maxRecDepth 20000 in
theorem hX9_best_5 : zChk false 9 cX9_best 5 bX9_best_5 = true := by decide +kernel
def bX9_best_17 : List zI := [(.ldc 232, 2, 0, 0, -2147483648), (.ireturn, 1, 0, 0, 0)]
set_option maxRecDepth 20000 in
theorem hX9_best_17 : zChk false 9 cX9_best 17 bX9_best_17 = true := by decide +kernel
def bX9_best_20 : List zI := [(.ldc 232, 2, 0, 0, -2147483648), (.istore_n 3, 1, 0, 0, 0), (.iconst 0, 1, 0, 0, 0), (.istore 4, 2, 0, 0, 0), (.iconst 0, 1, 0, 0, 0), (.istore 5, 2, 0, 0, 0)]
set_option maxRecDepth 20000 in
theorem hX9_best_20 : zChk false 9 cX9_best 20 bX9_best_20 = true := by decide +kernel
def bX9_best_29 : List zI := [(.iload 5, 2, 0, 0, 0), (.bipush 20, 2, 0, 0, 0), (.if_icmp .gt 42, 3, 75, 0, 0), (.aload_n 0, 1, 0, 0, 0)]
set_option maxRecDepth 20000 in
theorem hX9_best_29 : zChk false 9 cX9_best 29 bX9_best_29 = true := by decide +kernel
def bX9_best_40 : List zI := [(.aload_n 0, 1, 0, 0, 0), (.getfield 36, 3, 9, 3, 0), (.iload 5, 2, 0, 0, 0), (.putfield 259, 3, 6, 0, 0), (.aload_n 0, 1, 0, 0, 0), (.iload_n 1, 1, 0, 0, 0)]
set_option maxRecDepth 20000 in
theorem hX9_best_40 : zChk false 9 cX9_best 40 bX9_best_40 = true := by decide +kernel
def bX9_best_54 : List zI := [(.istore 6, 2, 0, 0, 0), (.iload 6, 2, 0, 0, 0), (.iload_n 3, 1, 0, 0, 0), (.if_icmp .le 10, 3, 69, 0, 0), (.iload 6, 2, 0, 0, 0), (.istore_n 3, 1, 0, 0, 0), (.iload 5, 2, 0, 0, 0), (.istore 4, 2, 0, 0, 0), (.iinc 5 1, 3, 0, 0, 0), (.goto (-43), 3, 29, 0, 0)]
set_option maxRecDepth 20000 in
theorem hX9_best_54 : zChk false 9 cX9_best 54 bX9_best_54 = true := by decide +kernel
def bX9_best_69 : List zI := [(.iinc 5 1, 3, 0, 0, 0), (.goto (-43), 3, 29, 0, 0)]
set_option maxRecDepth 20000 in
theorem hX9_best_69 : zChk false 9 cX9_best 69 bX9_best_69 = true := by decide +kernel
def bX9_best_75 : List zI := [(.iload_n 2, 1, 0, 0, 0), (.ifCond .ne 8, 3, 84, 0, 0), (.iload 4, 2, 0, 0, 0), (.goto 4, 3, 85, 0, 0)]
set_option maxRecDepth 20000 in
theorem hX9_best_75 : zChk false 9 cX9_best 75 bX9_best_75 = true := by decide +kernel
def bX9_best_84 : List zI := [(.iload_n 3, 1, 0, 0, 0), (.ireturn, 1, 0, 0, 0)]
set_option maxRecDepth 20000 in
theorem hX9_best_84 : zChk false 9 cX9_best 84 bX9_best_84 = true := by decide +kernel
def bX9_best_85 : List zI := [(.ireturn, 1, 0, 0, 0)]
set_option maxRecDepth 20000 in
theorem hX9_best_85 : zChk false 9 cX9_best 85 bX9_best_85 = true := by decide +kernel
def bX9_second_0 : List zI := [(.aload_n 0, 1, 0, 0, 0), (.iload_n 1, 1, 0, 0, 0)]
set_option maxRecDepth 20000 in
theorem hX9_second_0 : zChk false 9 cX9_second 0 bX9_second_0 = true := by decide +kernel
def bX9_second_5 : List zI := [(.ifCond .eq 13, 3, 18, 0, 0), (.aload_n 0, 1, 0, 0, 0), (.getfield 42, 3, 9, 4, 0), (.getfield 262, 3, 2, 12, 0), (.ifCond .ne 6, 3, 21, 0, 0), (.ldc 232, 2, 0, 0, -2147483648), (.ireturn, 1, 0, 0, 0)]
set_option maxRecDepth 20000 in
theorem hX9_second_5 : zChk false 9 cX9_second 5 bX9_second_5 = true := by decide +kernel
def bX9_second_18 : List zI := [(.ldc 232, 2, 0, 0, -2147483648), (.ireturn, 1, 0, 0, 0)]
set_option maxRecDepth 20000 in
theorem hX9_second_18 : zChk false 9 cX9_second 18 bX9_second_18 = true := by decide +kernel
def bX9_second_21 : List zI := [(.aload_n 0, 1, 0, 0, 0)]
set_option maxRecDepth 20000 in
theorem hX9_second_21 : zChk false 9 cX9_second 21 bX9_second_21 = true := by decide +kernel
def bX9_second_25 : List zI := [(.aload_n 0, 1, 0, 0, 0), (.iload_n 1, 1, 0, 0, 0)]
set_option maxRecDepth 20000 in
theorem hX9_second_25 : zChk false 9 cX9_second 25 bX9_second_25 = true := by decide +kernel
def bX9_second_30 : List zI := [(.istore_n 2, 1, 0, 0, 0), (.aload_n 0, 1, 0, 0, 0)]
set_option maxRecDepth 20000 in
theorem hX9_second_30 : zChk false 9 cX9_second 30 bX9_second_30 = true := by decide +kernel
def bX9_second_35 : List zI := [(.aload_n 0, 1, 0, 0, 0), (.getfield 36, 3, 9, 3, 0), (.iconst 1, 1, 0, 0, 0), (.putfield 265, 3, 6, 1, 0), (.aload_n 0, 1, 0, 0, 0), (.iload_n 1, 1, 0, 0, 0)]
set_option maxRecDepth 20000 in
theorem hX9_second_35 : zChk false 9 cX9_second 35 bX9_second_35 = true := by decide +kernel
def bX9_second_48 : List zI := [(.iload_n 2, 1, 0, 0, 0), (.isub, 1, 0, 0, 0), (.aload_n 0, 1, 0, 0, 0), (.getfield 88, 3, 9, 12, 0), (.getfield 188, 3, 4, 13, 0), (.iconst 2, 1, 0, 0, 0), (.iaload, 1, 0, 0, 0), (.isub, 1, 0, 0, 0), (.ireturn, 1, 0, 0, 0)]
set_option maxRecDepth 20000 in
theorem hX9_second_48 : zChk false 9 cX9_second 48 bX9_second_48 = true := by decide +kernel
def bX9_gather_0 : List zI := [(.iload_n 1, 1, 0, 0, 0), (.ifCond .lt 18, 3, 19, 0, 0), (.iload_n 1, 1, 0, 0, 0), (.iconst 2, 1, 0, 0, 0), (.if_icmp .gt 13, 3, 19, 0, 0), (.aload_n 0, 1, 0, 0, 0), (.getfield 88, 3, 9, 12, 0), (.getfield 245, 3, 4, 0, 0), (.ifCond .ne 5, 3, 21, 0, 0), (.iconst (-1), 1, 0, 0, 0), (.ireturn, 1, 0, 0, 0)]
set_option maxRecDepth 20000 in
theorem hX9_gather_0 : zChk false 9 cX9_gather 0 bX9_gather_0 = true := by decide +kernel
def bX9_gather_19 : List zI := [(.iconst (-1), 1, 0, 0, 0), (.ireturn, 1, 0, 0, 0)]
set_option maxRecDepth 20000 in
theorem hX9_gather_19 : zChk false 9 cX9_gather 19 bX9_gather_19 = true := by decide +kernel
def bX9_gather_21 : List zI := [(.iconst (-1), 1, 0, 0, 0), (.istore_n 2, 1, 0, 0, 0), (.iconst 0, 1, 0, 0, 0), (.istore_n 3, 1, 0, 0, 0), (.iconst 0, 1, 0, 0, 0), (.istore 4, 2, 0, 0, 0), (.aload_n 0, 1, 0, 0, 0), (.getfield 81, 3, 9, 11, 0), (.aload_n 0, 1, 0, 0, 0), (.getfield 88, 3, 9, 12, 0), (.getfield 245, 3, 4, 0, 0)]
set_option maxRecDepth 20000 in
theorem hX9_gather_21 : zChk false 9 cX9_gather 21 bX9_gather_21 = true := by decide +kernel
def bX9_gather_42 : List zI := [(.iconst 0, 1, 0, 0, 0), (.istore 5, 2, 0, 0, 0)]
set_option maxRecDepth 20000 in
theorem hX9_gather_42 : zChk false 9 cX9_gather 42 bX9_gather_42 = true := by decide +kernel
def bX9_gather_45 : List zI := [(.iload 5, 2, 0, 0, 0), (.bipush 120, 2, 0, 0, 0), (.if_icmp .ge 75, 3, 124, 0, 0), (.aload_n 0, 1, 0, 0, 0), (.aload_n 0, 1, 0, 0, 0), (.getfield 81, 3, 9, 11, 0)]
set_option maxRecDepth 20000 in
theorem hX9_gather_45 : zChk false 9 cX9_gather 45 bX9_gather_45 = true := by decide +kernel
def bX9_gather_60 : List zI := [(.istore 6, 2, 0, 0, 0), (.aload_n 0, 1, 0, 0, 0), (.aload_n 0, 1, 0, 0, 0), (.getfield 81, 3, 9, 11, 0)]
set_option maxRecDepth 20000 in
theorem hX9_gather_60 : zChk false 9 cX9_gather 60 bX9_gather_60 = true := by decide +kernel
def bX9_gather_70 : List zI := [(.istore 7, 2, 0, 0, 0), (.iload 6, 2, 0, 0, 0), (.iload_n 2, 1, 0, 0, 0), (.if_icmp .gt 15, 3, 90, 0, 0), (.iload 6, 2, 0, 0, 0), (.iload_n 2, 1, 0, 0, 0), (.if_icmp .ne 24, 3, 105, 0, 0), (.iload 7, 2, 0, 0, 0), (.iload_n 3, 1, 0, 0, 0), (.if_icmp .ge 18, 3, 105, 0, 0), (.iload 6, 2, 0, 0, 0), (.istore_n 2, 1, 0, 0, 0), (.iload 7, 2, 0, 0, 0), (.istore_n 3, 1, 0, 0, 0), (.aload_n 0, 1, 0, 0, 0), (.getfield 81, 3, 9, 11, 0)]
set_option maxRecDepth 20000 in
theorem hX9_gather_70 : zChk false 9 cX9_gather 70 bX9_gather_70 = true := by decide +kernel
def bX9_gather_90 : List zI := [(.iload 6, 2, 0, 0, 0), (.istore_n 2, 1, 0, 0, 0), (.iload 7, 2, 0, 0, 0), (.istore_n 3, 1, 0, 0, 0), (.aload_n 0, 1, 0, 0, 0), (.getfield 81, 3, 9, 11, 0)]
set_option maxRecDepth 20000 in
theorem hX9_gather_90 : zChk false 9 cX9_gather 90 bX9_gather_90 = true := by decide +kernel
def bX9_gather_103 : List zI := [(.istore 4, 2, 0, 0, 0), (.aload_n 0, 1, 0, 0, 0), (.getfield 81, 3, 9, 11, 0)]
set_option maxRecDepth 20000 in
theorem hX9_gather_103 : zChk false 9 cX9_gather 103 bX9_gather_103 = true := by decide +kernel
def bX9_gather_105 : List zI := [(.aload_n 0, 1, 0, 0, 0), (.getfield 81, 3, 9, 11, 0)]
set_option maxRecDepth 20000 in
theorem hX9_gather_105 : zChk false 9 cX9_gather 105 bX9_gather_105 = true := by decide +kernel
def bX9_gather_112 : List zI := [(.ifCond .ne 6, 3, 118, 0, 0), (.goto 9, 3, 124, 0, 0)]
set_option maxRecDepth 20000 in
theorem hX9_gather_112 : zChk false 9 cX9_gather 112 bX9_gather_112 = true := by decide +kernel
def bX9_gather_118 : List zI := [(.iinc 5 1, 3, 0, 0, 0), (.goto (-76), 3, 45, 0, 0)]
set_option maxRecDepth 20000 in
theorem hX9_gather_118 : zChk false 9 cX9_gather 118 bX9_gather_118 = true := by decide +kernel
def bX9_gather_124 : List zI := [(.iload_n 1, 1, 0, 0, 0), (.ifCond .ne 7, 3, 132, 0, 0), (.iload_n 2, 1, 0, 0, 0), (.goto 14, 3, 143, 0, 0)]
set_option maxRecDepth 20000 in
theorem hX9_gather_124 : zChk false 9 cX9_gather 124 bX9_gather_124 = true := by decide +kernel
def bX9_gather_132 : List zI := [(.iload_n 1, 1, 0, 0, 0), (.iconst 1, 1, 0, 0, 0), (.if_icmp .ne 7, 3, 141, 0, 0), (.iload_n 3, 1, 0, 0, 0), (.goto 5, 3, 143, 0, 0)]
set_option maxRecDepth 20000 in
theorem hX9_gather_132 : zChk false 9 cX9_gather 132 bX9_gather_132 = true := by decide +kernel
def bX9_gather_141 : List zI := [(.iload 4, 2, 0, 0, 0), (.ireturn, 1, 0, 0, 0)]
set_option maxRecDepth 20000 in
theorem hX9_gather_141 : zChk false 9 cX9_gather 141 bX9_gather_141 = true := by decide +kernel
def bX9_gather_143 : List zI := [(.ireturn, 1, 0, 0, 0)]
set_option maxRecDepth 20000 in
theorem hX9_gather_143 : zChk false 9 cX9_gather 143 bX9_gather_143 = true := by decide +kernel
def bX9_day_0 : List zI := [(.iload_n 1, 1, 0, 0, 0), (.ifCond .lt 16, 3, 17, 0, 0), (.iload_n 1, 1, 0, 0, 0), (.iconst 1, 1, 0, 0, 0), (.aload_n 0, 1, 0, 0, 0), (.getfield 88, 3, 9, 12, 0), (.getfield 276, 3, 4, 14, 0), (.ishl, 1, 0, 0, 0), (.if_icmp .lt 5, 3, 19, 0, 0), (.iconst (-1), 1, 0, 0, 0), (.ireturn, 1, 0, 0, 0)]
set_option maxRecDepth 20000 in
theorem hX9_day_0 : zChk false 9 cX9_day 0 bX9_day_0 = true := by decide +kernel
def bX9_day_17 : List zI := [(.iconst (-1), 1, 0, 0, 0), (.ireturn, 1, 0, 0, 0)]
set_option maxRecDepth 20000 in
theorem hX9_day_17 : zChk false 9 cX9_day 17 bX9_day_17 = true := by decide +kernel
def bX9_day_19 : List zI := [(.aload_n 0, 1, 0, 0, 0), (.getfield 74, 3, 9, 10, 0), (.iload_n 1, 1, 0, 0, 0), (.iload_n 2, 1, 0, 0, 0)]
set_option maxRecDepth 20000 in
theorem hX9_day_19 : zChk false 9 cX9_day 19 bX9_day_19 = true := by decide +kernel
def bX9_day_28 : List zI := [(.ireturn, 1, 0, 0, 0)]
set_option maxRecDepth 20000 in
theorem hX9_day_28 : zChk false 9 cX9_day 28 bX9_day_28 = true := by decide +kernel
def bX9_strike_0 : List zI := [(.aload_n 0, 1, 0, 0, 0), (.getfield 74, 3, 9, 10, 0), (.iload_n 1, 1, 0, 0, 0)]
set_option maxRecDepth 20000 in
theorem hX9_strike_0 : zChk false 9 cX9_strike 0 bX9_strike_0 = true := by decide +kernel
def bX9_strike_8 : List zI := [(.ireturn, 1, 0, 0, 0)]
set_option maxRecDepth 20000 in
theorem hX9_strike_8 : zChk false 9 cX9_strike 8 bX9_strike_8 = true := by decide +kernel
def bX9_known_0 : List zI := [(.iload_n 1, 1, 0, 0, 0), (.iconst (-1), 1, 0, 0, 0), (.if_icmp .lt 14, 3, 16, 0, 0), (.iload_n 1, 1, 0, 0, 0), (.aload_n 0, 1, 0, 0, 0), (.getfield 74, 3, 9, 10, 0), (.getfield 286, 3, 0, 4, 0), (.if_icmp .le 5, 3, 18, 0, 0), (.iconst 0, 1, 0, 0, 0), (.ireturn, 1, 0, 0, 0)]
set_option maxRecDepth 20000 in
theorem hX9_known_0 : zChk false 9 cX9_known 0 bX9_known_0 = true := by decide +kernel
def bX9_known_16 : List zI := [(.iconst 0, 1, 0, 0, 0), (.ireturn, 1, 0, 0, 0)]
set_option maxRecDepth 20000 in
theorem hX9_known_16 : zChk false 9 cX9_known 16 bX9_known_16 = true := by decide +kernel
def bX9_known_18 : List zI := [(.aload_n 0, 1, 0, 0, 0), (.getfield 74, 3, 9, 10, 0), (.iload_n 1, 1, 0, 0, 0), (.putfield 287, 3, 0, 5, 0), (.iconst 1, 1, 0, 0, 0), (.ireturn, 1, 0, 0, 0)]
set_option maxRecDepth 20000 in
theorem hX9_known_18 : zChk false 9 cX9_known 18 bX9_known_18 = true := by decide +kernel
def bX9_right_0 : List zI := [(.aload_n 0, 1, 0, 0, 0), (.getfield 88, 3, 9, 12, 0), (.iload_n 1, 1, 0, 0, 0)]
set_option maxRecDepth 20000 in
theorem hX9_right_0 : zChk false 9 cX9_right 0 bX9_right_0 = true := by decide +kernel
def bX9_right_8 : List zI := [(.ifCond .eq 16, 3, 24, 0, 0), (.aload_n 0, 1, 0, 0, 0), (.getfield 74, 3, 9, 10, 0), (.iload_n 1, 1, 0, 0, 0), (.iload_n 1, 1, 0, 0, 0), (.iconst 0, 1, 0, 0, 0)]
set_option maxRecDepth 20000 in
theorem hX9_right_8 : zChk false 9 cX9_right 8 bX9_right_8 = true := by decide +kernel
def bX9_right_21 : List zI := [(.goto 4, 3, 25, 0, 0)]
set_option maxRecDepth 20000 in
theorem hX9_right_21 : zChk false 9 cX9_right 21 bX9_right_21 = true := by decide +kernel
def bX9_right_24 : List zI := [(.iconst (-1), 1, 0, 0, 0), (.ireturn, 1, 0, 0, 0)]
set_option maxRecDepth 20000 in
theorem hX9_right_24 : zChk false 9 cX9_right 24 bX9_right_24 = true := by decide +kernel
def bX9_right_25 : List zI := [(.ireturn, 1, 0, 0, 0)]
set_option maxRecDepth 20000 in
theorem hX9_right_25 : zChk false 9 cX9_right 25 bX9_right_25 = true := by decide +kernel
def bX9_tells_0 : List zI := [(.iconst (-1), 1, 0, 0, 0), (.istore_n 1, 1, 0, 0, 0), (.iconst (-1), 1, 0, 0, 0), (.istore_n 2, 1, 0, 0, 0), (.iconst 0, 1, 0, 0, 0), (.istore_n 3, 1, 0, 0, 0)]
set_option maxRecDepth 20000 in
theorem hX9_tells_0 : zChk false 9 cX9_tells 0 bX9_tells_0 = true := by decide +kernel
def bX9_tells_6 : List zI := [(.iload_n 3, 1, 0, 0, 0), (.aload_n 0, 1, 0, 0, 0), (.getfield 88, 3, 9, 12, 0), (.getfield 276, 3, 4, 14, 0), (.if_icmp .ge 32, 3, 46, 0, 0), (.aload_n 0, 1, 0, 0, 0), (.getfield 74, 3, 9, 10, 0), (.iload_n 3, 1, 0, 0, 0), (.iload_n 3, 1, 0, 0, 0), (.iconst 0, 1, 0, 0, 0)]
set_option maxRecDepth 20000 in
theorem hX9_tells_6 : zChk false 9 cX9_tells 6 bX9_tells_6 = true := by decide +kernel
def bX9_tells_27 : List zI := [(.istore 4, 2, 0, 0, 0), (.iload 4, 2, 0, 0, 0), (.iload_n 1, 1, 0, 0, 0), (.if_icmp .le 8, 3, 40, 0, 0), (.iload 4, 2, 0, 0, 0), (.istore_n 1, 1, 0, 0, 0), (.iload_n 3, 1, 0, 0, 0), (.istore_n 2, 1, 0, 0, 0), (.iinc 3 1, 3, 0, 0, 0), (.goto (-37), 3, 6, 0, 0)]
set_option maxRecDepth 20000 in
theorem hX9_tells_27 : zChk false 9 cX9_tells 27 bX9_tells_27 = true := by decide +kernel
def bX9_tells_40 : List zI := [(.iinc 3 1, 3, 0, 0, 0), (.goto (-37), 3, 6, 0, 0)]
set_option maxRecDepth 20000 in
theorem hX9_tells_40 : zChk false 9 cX9_tells 40 bX9_tells_40 = true := by decide +kernel
def bX9_tells_46 : List zI := [(.iload_n 2, 1, 0, 0, 0), (.ireturn, 1, 0, 0, 0)]
set_option maxRecDepth 20000 in
theorem hX9_tells_46 : zChk false 9 cX9_tells 46 bX9_tells_46 = true := by decide +kernel
def bX9_joined_0 : List zI := [(.aload_n 0, 1, 0, 0, 0), (.getfield 88, 3, 9, 12, 0), (.iload_n 1, 1, 0, 0, 0)]
set_option maxRecDepth 20000 in
theorem hX9_joined_0 : zChk false 9 cX9_joined 0 bX9_joined_0 = true := by decide +kernel
def bX9_joined_8 : List zI := [(.ifCond .eq 23, 3, 31, 0, 0), (.aload_n 0, 1, 0, 0, 0), (.getfield 88, 3, 9, 12, 0), (.iload_n 2, 1, 0, 0, 0)]
set_option maxRecDepth 20000 in
theorem hX9_joined_8 : zChk false 9 cX9_joined 8 bX9_joined_8 = true := by decide +kernel
def bX9_joined_19 : List zI := [(.ifCond .eq 12, 3, 31, 0, 0), (.iload_n 3, 1, 0, 0, 0), (.ifCond .lt 8, 3, 31, 0, 0), (.iload_n 3, 1, 0, 0, 0), (.iconst 1, 1, 0, 0, 0), (.if_icmp .le 5, 3, 33, 0, 0), (.iconst (-1), 1, 0, 0, 0), (.ireturn, 1, 0, 0, 0)]
set_option maxRecDepth 20000 in
theorem hX9_joined_19 : zChk false 9 cX9_joined 19 bX9_joined_19 = true := by decide +kernel
def bX9_joined_31 : List zI := [(.iconst (-1), 1, 0, 0, 0), (.ireturn, 1, 0, 0, 0)]
set_option maxRecDepth 20000 in
theorem hX9_joined_31 : zChk false 9 cX9_joined 31 bX9_joined_31 = true := by decide +kernel
def bX9_joined_33 : List zI := [(.aload_n 0, 1, 0, 0, 0), (.getfield 74, 3, 9, 10, 0), (.iload_n 1, 1, 0, 0, 0), (.iload_n 2, 1, 0, 0, 0), (.iload_n 3, 1, 0, 0, 0), (.iconst 1, 1, 0, 0, 0), (.if_icmp .ne 7, 3, 48, 0, 0), (.iconst 1, 1, 0, 0, 0), (.goto 4, 3, 49, 0, 0)]
set_option maxRecDepth 20000 in
theorem hX9_joined_33 : zChk false 9 cX9_joined 33 bX9_joined_33 = true := by decide +kernel
def bX9_joined_48 : List zI := [(.iconst 0, 1, 0, 0, 0)]
set_option maxRecDepth 20000 in
theorem hX9_joined_48 : zChk false 9 cX9_joined 48 bX9_joined_48 = true := by decide +kernel
def bX9_joined_52 : List zI := [(.ireturn, 1, 0, 0, 0)]
set_option maxRecDepth 20000 in
theorem hX9_joined_52 : zChk false 9 cX9_joined 52 bX9_joined_52 = true := by decide +kernel
def bX9_dodgers_0 : List zI := [(.iload_n 1, 1, 0, 0, 0), (.ifCond .lt 39, 3, 40, 0, 0), (.iload_n 1, 1, 0, 0, 0), (.sipush 999, 3, 0, 0, 0), (.if_icmp .gt 32, 3, 40, 0, 0), (.iload_n 2, 1, 0, 0, 0), (.ifCond .lt 28, 3, 40, 0, 0), (.iload_n 2, 1, 0, 0, 0), (.sipush 999, 3, 0, 0, 0), (.if_icmp .gt 21, 3, 40, 0, 0), (.iload_n 3, 1, 0, 0, 0), (.ifCond .lt 17, 3, 40, 0, 0), (.iload_n 3, 1, 0, 0, 0), (.iload_n 1, 1, 0, 0, 0), (.if_icmp .gt 12, 3, 40, 0, 0), (.iload_n 3, 1, 0, 0, 0), (.iload_n 2, 1, 0, 0, 0), (.if_icmp .gt 7, 3, 40, 0, 0), (.iconst 1, 1, 0, 0, 0), (.goto 4, 3, 41, 0, 0)]
set_option maxRecDepth 20000 in
theorem hX9_dodgers_0 : zChk false 9 cX9_dodgers 0 bX9_dodgers_0 = true := by decide +kernel
def bX9_dodgers_40 : List zI := [(.iconst 0, 1, 0, 0, 0), (.istore 5, 2, 0, 0, 0), (.iload 5, 2, 0, 0, 0), (.ifCond .eq 14, 3, 59, 0, 0), (.iload 4, 2, 0, 0, 0), (.ifCond .lt 9, 3, 59, 0, 0), (.iload 4, 2, 0, 0, 0), (.iconst 1, 1, 0, 0, 0), (.if_icmp .le 5, 3, 61, 0, 0), (.iconst (-1), 1, 0, 0, 0), (.ireturn, 1, 0, 0, 0)]
set_option maxRecDepth 20000 in
theorem hX9_dodgers_40 : zChk false 9 cX9_dodgers 40 bX9_dodgers_40 = true := by decide +kernel
def bX9_dodgers_41 : List zI := [(.istore 5, 2, 0, 0, 0), (.iload 5, 2, 0, 0, 0), (.ifCond .eq 14, 3, 59, 0, 0), (.iload 4, 2, 0, 0, 0), (.ifCond .lt 9, 3, 59, 0, 0), (.iload 4, 2, 0, 0, 0), (.iconst 1, 1, 0, 0, 0), (.if_icmp .le 5, 3, 61, 0, 0), (.iconst (-1), 1, 0, 0, 0), (.ireturn, 1, 0, 0, 0)]
set_option maxRecDepth 20000 in
theorem hX9_dodgers_41 : zChk false 9 cX9_dodgers 41 bX9_dodgers_41 = true := by decide +kernel
def bX9_dodgers_59 : List zI := [(.iconst (-1), 1, 0, 0, 0), (.ireturn, 1, 0, 0, 0)]
set_option maxRecDepth 20000 in
theorem hX9_dodgers_59 : zChk false 9 cX9_dodgers 59 bX9_dodgers_59 = true := by decide +kernel
def bX9_dodgers_61 : List zI := [(.iload 4, 2, 0, 0, 0), (.ifCond .ne 9, 3, 72, 0, 0), (.iload_n 1, 1, 0, 0, 0), (.iload_n 2, 1, 0, 0, 0), (.iadd, 1, 0, 0, 0), (.iload_n 3, 1, 0, 0, 0), (.isub, 1, 0, 0, 0), (.ireturn, 1, 0, 0, 0)]
set_option maxRecDepth 20000 in
theorem hX9_dodgers_61 : zChk false 9 cX9_dodgers 61 bX9_dodgers_61 = true := by decide +kernel
def bX9_dodgers_72 : List zI := [(.iload_n 3, 1, 0, 0, 0), (.ifCond .ne 8, 3, 81, 0, 0), (.bipush (-2), 2, 0, 0, 0), (.goto 8, 3, 86, 0, 0)]
set_option maxRecDepth 20000 in
theorem hX9_dodgers_72 : zChk false 9 cX9_dodgers 72 bX9_dodgers_72 = true := by decide +kernel
def bX9_dodgers_81 : List zI := [(.iload_n 1, 1, 0, 0, 0), (.iload_n 2, 1, 0, 0, 0), (.imul, 1, 0, 0, 0), (.iload_n 3, 1, 0, 0, 0), (.idiv, 1, 0, 0, 0), (.ireturn, 1, 0, 0, 0)]
set_option maxRecDepth 20000 in
theorem hX9_dodgers_81 : zChk false 9 cX9_dodgers 81 bX9_dodgers_81 = true := by decide +kernel
def bX9_dodgers_86 : List zI := [(.ireturn, 1, 0, 0, 0)]
set_option maxRecDepth 20000 in
theorem hX9_dodgers_86 : zChk false 9 cX9_dodgers 86 bX9_dodgers_86 = true := by decide +kernel
def bX9_tried_0 : List zI := [(.aload_n 0, 1, 0, 0, 0), (.iload_n 3, 1, 0, 0, 0)]
set_option maxRecDepth 20000 in
theorem hX9_tried_0 : zChk false 9 cX9_tried 0 bX9_tried_0 = true := by decide +kernel
def bX9_tried_5 : List zI := [(.ifCond .eq 12, 3, 17, 0, 0), (.aload_n 0, 1, 0, 0, 0), (.iload_n 1, 1, 0, 0, 0), (.iload_n 2, 1, 0, 0, 0)]
set_option maxRecDepth 20000 in
theorem hX9_tried_5 : zChk false 9 cX9_tried 5 bX9_tried_5 = true := by decide +kernel
def bX9_tried_14 : List zI := [(.ifCond .ne 6, 3, 20, 0, 0), (.ldc 232, 2, 0, 0, -2147483648), (.ireturn, 1, 0, 0, 0)]
set_option maxRecDepth 20000 in
theorem hX9_tried_14 : zChk false 9 cX9_tried 14 bX9_tried_14 = true := by decide +kernel
def bX9_tried_17 : List zI := [(.ldc 232, 2, 0, 0, -2147483648), (.ireturn, 1, 0, 0, 0)]
set_option maxRecDepth 20000 in
theorem hX9_tried_17 : zChk false 9 cX9_tried 17 bX9_tried_17 = true := by decide +kernel
def bX9_tried_20 : List zI := [(.aload_n 0, 1, 0, 0, 0)]
set_option maxRecDepth 20000 in
theorem hX9_tried_20 : zChk false 9 cX9_tried 20 bX9_tried_20 = true := by decide +kernel
def bX9_tried_24 : List zI := [(.aload_n 0, 1, 0, 0, 0), (.getfield 36, 3, 9, 3, 0), (.iload_n 1, 1, 0, 0, 0), (.iload_n 2, 1, 0, 0, 0)]
set_option maxRecDepth 20000 in
theorem hX9_tried_24 : zChk false 9 cX9_tried 24 bX9_tried_24 = true := by decide +kernel
def bX9_tried_33 : List zI := [(.aload_n 0, 1, 0, 0, 0), (.iload_n 3, 1, 0, 0, 0)]
set_option maxRecDepth 20000 in
theorem hX9_tried_33 : zChk false 9 cX9_tried 33 bX9_tried_33 = true := by decide +kernel
def bX9_tried_38 : List zI := [(.ireturn, 1, 0, 0, 0)]
set_option maxRecDepth 20000 in
theorem hX9_tried_38 : zChk false 9 cX9_tried 38 bX9_tried_38 = true := by decide +kernel
def bX9_chance_0 : List zI := [(.iload_n 1, 1, 0, 0, 0), (.ifCond .lt 11, 3, 12, 0, 0), (.aload_n 0, 1, 0, 0, 0), (.iload_n 2, 1, 0, 0, 0)]
set_option maxRecDepth 20000 in
theorem hX9_chance_0 : zChk false 9 cX9_chance 0 bX9_chance_0 = true := by decide +kernel
def bX9_chance_9 : List zI := [(.ifCond .ne 5, 3, 14, 0, 0), (.iconst (-1), 1, 0, 0, 0), (.ireturn, 1, 0, 0, 0)]
set_option maxRecDepth 20000 in
theorem hX9_chance_9 : zChk false 9 cX9_chance 9 bX9_chance_9 = true := by decide +kernel
def bX9_chance_12 : List zI := [(.iconst (-1), 1, 0, 0, 0), (.ireturn, 1, 0, 0, 0)]
set_option maxRecDepth 20000 in
theorem hX9_chance_12 : zChk false 9 cX9_chance 12 bX9_chance_12 = true := by decide +kernel
def bX9_chance_14 : List zI := [(.iconst 0, 1, 0, 0, 0), (.istore 4, 2, 0, 0, 0), (.iload_n 1, 1, 0, 0, 0), (.i2l, 1, 0, 0, 0), (.lstore 5, 2, 0, 0, 0), (.iconst 0, 1, 0, 0, 0), (.istore 7, 2, 0, 0, 0)]
set_option maxRecDepth 20000 in
theorem hX9_chance_14 : zChk false 9 cX9_chance 14 bX9_chance_14 = true := by decide +kernel
def bX9_chance_24 : List zI := [(.iload 7, 2, 0, 0, 0), (.bipush 10, 2, 0, 0, 0), (.if_icmp .ge 44, 3, 72, 0, 0), (.lload 5, 2, 0, 0, 0)]
set_option maxRecDepth 20000 in
theorem hX9_chance_24 : zChk false 9 cX9_chance 24 bX9_chance_24 = true := by decide +kernel
def bX9_chance_36 : List zI := [(.lstore 5, 2, 0, 0, 0), (.aload_n 0, 1, 0, 0, 0)]
set_option maxRecDepth 20000 in
theorem hX9_chance_36 : zChk false 9 cX9_chance 36 bX9_chance_36 = true := by decide +kernel
def bX9_chance_42 : List zI := [(.aload_n 0, 1, 0, 0, 0), (.getfield 46, 3, 9, 5, 0), (.lload 5, 2, 0, 0, 0)]
set_option maxRecDepth 20000 in
theorem hX9_chance_42 : zChk false 9 cX9_chance 42 bX9_chance_42 = true := by decide +kernel
def bX9_chance_51 : List zI := [(.putfield 312, 3, 2, 15, 0), (.aload_n 0, 1, 0, 0, 0), (.iload_n 2, 1, 0, 0, 0)]
set_option maxRecDepth 20000 in
theorem hX9_chance_51 : zChk false 9 cX9_chance 51 bX9_chance_51 = true := by decide +kernel
def bX9_chance_59 : List zI := [(.iload_n 3, 1, 0, 0, 0), (.if_icmp .lt 6, 3, 66, 0, 0), (.iinc 4 1, 3, 0, 0, 0), (.iinc 7 1, 3, 0, 0, 0), (.goto (-45), 3, 24, 0, 0)]
set_option maxRecDepth 20000 in
theorem hX9_chance_59 : zChk false 9 cX9_chance 59 bX9_chance_59 = true := by decide +kernel
def bX9_chance_66 : List zI := [(.iinc 7 1, 3, 0, 0, 0), (.goto (-45), 3, 24, 0, 0)]
set_option maxRecDepth 20000 in
theorem hX9_chance_66 : zChk false 9 cX9_chance 66 bX9_chance_66 = true := by decide +kernel
def bX9_chance_72 : List zI := [(.iload 4, 2, 0, 0, 0), (.ireturn, 1, 0, 0, 0)]
set_option maxRecDepth 20000 in
theorem hX9_chance_72 : zChk false 9 cX9_chance 72 bX9_chance_72 = true := by decide +kernel
def bX9_undo_0 : List zI := [(.aload_n 0, 1, 0, 0, 0), (.getfield 67, 3, 9, 9, 0), (.getfield 223, 3, 1, 4, 0), (.ifCond .ne 5, 3, 12, 0, 0), (.iconst (-1), 1, 0, 0, 0), (.ireturn, 1, 0, 0, 0)]
set_option maxRecDepth 20000 in
theorem hX9_undo_0 : zChk false 9 cX9_undo 0 bX9_undo_0 = true := by decide +kernel
def bX9_undo_12 : List zI := [(.aload_n 0, 1, 0, 0, 0), (.getfield 67, 3, 9, 9, 0), (.aload_n 0, 1, 0, 0, 0), (.getfield 42, 3, 9, 4, 0)]
set_option maxRecDepth 20000 in
theorem hX9_undo_12 : zChk false 9 cX9_undo 12 bX9_undo_12 = true := by decide +kernel
def bX9_undo_23 : List zI := [(.aload_n 0, 1, 0, 0, 0), (.getfield 67, 3, 9, 9, 0), (.getfield 223, 3, 1, 4, 0), (.ireturn, 1, 0, 0, 0)]
set_option maxRecDepth 20000 in
theorem hX9_undo_23 : zChk false 9 cX9_undo 23 bX9_undo_23 = true := by decide +kernel
def bX9_keep_0 : List zI := [(.aload_n 0, 1, 0, 0, 0), (.getfield 49, 3, 9, 6, 0), (.aload_n 0, 1, 0, 0, 0), (.getfield 42, 3, 9, 4, 0)]
set_option maxRecDepth 20000 in
theorem hX9_keep_0 : zChk false 9 cX9_keep 0 bX9_keep_0 = true := by decide +kernel
def bX9_keep_11 : List zI := [(.aload_n 0, 1, 0, 0, 0), (.iconst 1, 1, 0, 0, 0), (.putfield 322, 3, 9, 14, 0), (.aload_n 0, 1, 0, 0, 0), (.getfield 42, 3, 9, 4, 0), (.getfield 179, 3, 2, 10, 0), (.ireturn, 1, 0, 0, 0)]
set_option maxRecDepth 20000 in
theorem hX9_keep_11 : zChk false 9 cX9_keep 11 bX9_keep_11 = true := by decide +kernel
def bX9_back_0 : List zI := [(.aload_n 0, 1, 0, 0, 0), (.getfield 322, 3, 9, 14, 0), (.ifCond .ne 5, 3, 9, 0, 0), (.iconst (-1), 1, 0, 0, 0), (.ireturn, 1, 0, 0, 0)]
set_option maxRecDepth 20000 in
theorem hX9_back_0 : zChk false 9 cX9_back 0 bX9_back_0 = true := by decide +kernel
def bX9_back_9 : List zI := [(.aload_n 0, 1, 0, 0, 0), (.getfield 42, 3, 9, 4, 0), (.aload_n 0, 1, 0, 0, 0), (.getfield 49, 3, 9, 6, 0)]
set_option maxRecDepth 20000 in
theorem hX9_back_9 : zChk false 9 cX9_back 9 bX9_back_9 = true := by decide +kernel
def bX9_back_20 : List zI := [(.aload_n 0, 1, 0, 0, 0), (.getfield 67, 3, 9, 9, 0), (.iconst 0, 1, 0, 0, 0), (.putfield 223, 3, 1, 4, 0), (.aload_n 0, 1, 0, 0, 0), (.getfield 42, 3, 9, 4, 0), (.getfield 179, 3, 2, 10, 0), (.ireturn, 1, 0, 0, 0)]
set_option maxRecDepth 20000 in
theorem hX9_back_20 : zChk false 9 cX9_back 20 bX9_back_20 = true := by decide +kernel
def bX9_count_0 : List zI := [(.iload_n 1, 1, 0, 0, 0)]
set_option maxRecDepth 20000 in
theorem hX9_count_0 : zChk false 9 cX9_count 0 bX9_count_0 = true := by decide +kernel
def bX9_count_56 : List zI := [(.aload_n 0, 1, 0, 0, 0), (.getfield 88, 3, 9, 12, 0), (.getfield 245, 3, 4, 0, 0), (.ireturn, 1, 0, 0, 0)]
set_option maxRecDepth 20000 in
theorem hX9_count_56 : zChk false 9 cX9_count 56 bX9_count_56 = true := by decide +kernel
def bX9_count_64 : List zI := [(.aload_n 0, 1, 0, 0, 0), (.getfield 42, 3, 9, 4, 0), (.getfield 126, 3, 2, 8, 0), (.ireturn, 1, 0, 0, 0)]
set_option maxRecDepth 20000 in
theorem hX9_count_64 : zChk false 9 cX9_count 64 bX9_count_64 = true := by decide +kernel
def bX9_count_72 : List zI := [(.aload_n 0, 1, 0, 0, 0), (.getfield 88, 3, 9, 12, 0), (.getfield 325, 3, 4, 5, 0), (.ireturn, 1, 0, 0, 0)]
set_option maxRecDepth 20000 in
theorem hX9_count_72 : zChk false 9 cX9_count 72 bX9_count_72 = true := by decide +kernel
def bX9_count_80 : List zI := [(.aload_n 0, 1, 0, 0, 0), (.getfield 88, 3, 9, 12, 0), (.getfield 276, 3, 4, 14, 0), (.ireturn, 1, 0, 0, 0)]
set_option maxRecDepth 20000 in
theorem hX9_count_80 : zChk false 9 cX9_count 80 bX9_count_80 = true := by decide +kernel
def bX9_count_88 : List zI := [(.aload_n 0, 1, 0, 0, 0), (.getfield 88, 3, 9, 12, 0), (.getfield 328, 3, 4, 16, 0), (.ireturn, 1, 0, 0, 0)]
set_option maxRecDepth 20000 in
theorem hX9_count_88 : zChk false 9 cX9_count 88 bX9_count_88 = true := by decide +kernel
def bX9_count_96 : List zI := [(.aload_n 0, 1, 0, 0, 0), (.getfield 42, 3, 9, 4, 0), (.getfield 179, 3, 2, 10, 0), (.ireturn, 1, 0, 0, 0)]
set_option maxRecDepth 20000 in
theorem hX9_count_96 : zChk false 9 cX9_count 96 bX9_count_96 = true := by decide +kernel
def bX9_count_104 : List zI := [(.aload_n 0, 1, 0, 0, 0), (.getfield 74, 3, 9, 10, 0), (.getfield 286, 3, 0, 4, 0), (.ireturn, 1, 0, 0, 0)]
set_option maxRecDepth 20000 in
theorem hX9_count_104 : zChk false 9 cX9_count 104 bX9_count_104 = true := by decide +kernel
def bX9_count_112 : List zI := [(.aload_n 0, 1, 0, 0, 0), (.getfield 74, 3, 9, 10, 0)]
set_option maxRecDepth 20000 in
theorem hX9_count_112 : zChk false 9 cX9_count 112 bX9_count_112 = true := by decide +kernel
def bX9_count_119 : List zI := [(.ireturn, 1, 0, 0, 0)]
set_option maxRecDepth 20000 in
theorem hX9_count_119 : zChk false 9 cX9_count 119 bX9_count_119 = true := by decide +kernel
def bX9_count_120 : List zI := [(.aload_n 0, 1, 0, 0, 0), (.getfield 67, 3, 9, 9, 0), (.getfield 223, 3, 1, 4, 0), (.ireturn, 1, 0, 0, 0)]
set_option maxRecDepth 20000 in
theorem hX9_count_120 : zChk false 9 cX9_count 120 bX9_count_120 = true := by decide +kernel
def bX9_count_128 : List zI := [(.aload_n 0, 1, 0, 0, 0), (.getfield 42, 3, 9, 4, 0), (.getfield 239, 3, 2, 9, 0), (.ireturn, 1, 0, 0, 0)]
set_option maxRecDepth 20000 in
theorem hX9_count_128 : zChk false 9 cX9_count 128 bX9_count_128 = true := by decide +kernel
def bX9_count_136 : List zI := [(.iconst (-1), 1, 0, 0, 0), (.ireturn, 1, 0, 0, 0)]
set_option maxRecDepth 20000 in
theorem hX9_count_136 : zChk false 9 cX9_count 136 bX9_count_136 = true := by decide +kernel
def bX9_begin_0 : List zI := [(.aload_n 0, 1, 0, 0, 0), (.getfield 57, 3, 9, 7, 0), (.aload_n 0, 1, 0, 0, 0), (.getfield 88, 3, 9, 12, 0), (.putfield 334, 3, 8, 4, 0), (.aload_n 0, 1, 0, 0, 0), (.getfield 61, 3, 9, 8, 0), (.aload_n 0, 1, 0, 0, 0), (.getfield 88, 3, 9, 12, 0), (.putfield 334, 3, 8, 4, 0), (.aload_n 0, 1, 0, 0, 0), (.getfield 32, 3, 9, 2, 0), (.aload_n 0, 1, 0, 0, 0), (.getfield 88, 3, 9, 12, 0), (.getfield 188, 3, 4, 13, 0), (.iconst 0, 1, 0, 0, 0), (.iaload, 1, 0, 0, 0)]
set_option maxRecDepth 20000 in
theorem hX9_begin_0 : zChk false 9 cX9_begin 0 bX9_begin_0 = true := by decide +kernel
def bX9_begin_38 : List zI := [(.aload_n 0, 1, 0, 0, 0), (.getfield 42, 3, 9, 4, 0), (.aload_n 0, 1, 0, 0, 0), (.getfield 88, 3, 9, 12, 0), (.getfield 188, 3, 4, 13, 0), (.iconst 1, 1, 0, 0, 0), (.iaload, 1, 0, 0, 0), (.aload_n 0, 1, 0, 0, 0), (.getfield 88, 3, 9, 12, 0), (.getfield 188, 3, 4, 13, 0), (.bipush 6, 2, 0, 0, 0), (.iaload, 1, 0, 0, 0)]
set_option maxRecDepth 20000 in
theorem hX9_begin_38 : zChk false 9 cX9_begin 38 bX9_begin_38 = true := by decide +kernel
def bX9_begin_64 : List zI := [(.aload_n 0, 1, 0, 0, 0), (.getfield 67, 3, 9, 9, 0), (.iconst 0, 1, 0, 0, 0), (.putfield 223, 3, 1, 4, 0), (.aload_n 0, 1, 0, 0, 0), (.getfield 74, 3, 9, 10, 0), (.iconst 0, 1, 0, 0, 0), (.putfield 286, 3, 0, 4, 0), (.aload_n 0, 1, 0, 0, 0), (.getfield 74, 3, 9, 10, 0), (.iconst (-1), 1, 0, 0, 0), (.putfield 287, 3, 0, 5, 0), (.aload_n 0, 1, 0, 0, 0), (.iconst 0, 1, 0, 0, 0), (.putfield 322, 3, 9, 14, 0), (.return_, 1, 0, 0, 0)]
set_option maxRecDepth 20000 in
theorem hX9_begin_64 : zChk false 9 cX9_begin 64 bX9_begin_64 = true := by decide +kernel
def bX9_isNameOfLaw_0 : List zI := [(.iload_n 0, 1, 0, 0, 0), (.bipush 20, 2, 0, 0, 0), (.if_icmp .lt 13, 3, 16, 0, 0), (.iload_n 0, 1, 0, 0, 0), (.bipush 27, 2, 0, 0, 0), (.if_icmp .gt 7, 3, 16, 0, 0), (.iconst 1, 1, 0, 0, 0), (.goto 4, 3, 17, 0, 0)]
set_option maxRecDepth 20000 in
theorem hX9_isNameOfLaw_0 : zChk false 9 cX9_isNameOfLaw 0 bX9_isNameOfLaw_0 = true := by decide +kernel
def bX9_isNameOfLaw_16 : List zI := [(.iconst 0, 1, 0, 0, 0), (.ireturn, 1, 0, 0, 0)]
set_option maxRecDepth 20000 in
theorem hX9_isNameOfLaw_16 : zChk false 9 cX9_isNameOfLaw 16 bX9_isNameOfLaw_16 = true := by decide +kernel
def bX9_isNameOfLaw_17 : List zI := [(.ireturn, 1, 0, 0, 0)]
set_option maxRecDepth 20000 in
theorem hX9_isNameOfLaw_17 : zChk false 9 cX9_isNameOfLaw 17 bX9_isNameOfLaw_17 = true := by decide +kernel
def bX9_hasRun_0 : List zI := [(.iload_n 1, 1, 0, 0, 0), (.ifCond .lt 21, 3, 22, 0, 0), (.iload_n 1, 1, 0, 0, 0), (.bipush 96, 2, 0, 0, 0), (.aload_n 0, 1, 0, 0, 0), (.getfield 42, 3, 9, 4, 0), (.getfield 179, 3, 2, 10, 0), (.isub, 1, 0, 0, 0), (.if_icmp .gt 7, 3, 22, 0, 0), (.iconst 1, 1, 0, 0, 0), (.goto 4, 3, 23, 0, 0)]
set_option maxRecDepth 20000 in
theorem hX9_hasRun_0 : zChk false 9 cX9_hasRun 0 bX9_hasRun_0 = true := by decide +kernel
def bX9_hasRun_22 : List zI := [(.iconst 0, 1, 0, 0, 0), (.ireturn, 1, 0, 0, 0)]
set_option maxRecDepth 20000 in
theorem hX9_hasRun_22 : zChk false 9 cX9_hasRun 22 bX9_hasRun_22 = true := by decide +kernel
def bX9_hasRun_23 : List zI := [(.ireturn, 1, 0, 0, 0)]
set_option maxRecDepth 20000 in
theorem hX9_hasRun_23 : zChk false 9 cX9_hasRun 23 bX9_hasRun_23 = true := by decide +kernel
def bX9_prepare_0 : List zI := [(.aload_n 0, 1, 0, 0, 0), (.getfield 46, 3, 9, 5, 0), (.aload_n 0, 1, 0, 0, 0), (.getfield 42, 3, 9, 4, 0)]
set_option maxRecDepth 20000 in
theorem hX9_prepare_0 : zChk false 9 cX9_prepare 0 bX9_prepare_0 = true := by decide +kernel
def bX9_prepare_11 : List zI := [(.aload_n 0, 1, 0, 0, 0), (.getfield 36, 3, 9, 3, 0), (.aload_n 0, 1, 0, 0, 0), (.getfield 88, 3, 9, 12, 0), (.getfield 188, 3, 4, 13, 0), (.iconst 0, 1, 0, 0, 0), (.iaload, 1, 0, 0, 0)]
set_option maxRecDepth 20000 in
theorem hX9_prepare_11 : zChk false 9 cX9_prepare 11 bX9_prepare_11 = true := by decide +kernel
def bX9_prepare_27 : List zI := [(.return_, 1, 0, 0, 0)]
set_option maxRecDepth 20000 in
theorem hX9_prepare_27 : zChk false 9 cX9_prepare 27 bX9_prepare_27 = true := by decide +kernel
def bX9_balanceAfter_0 : List zI := [(.aload_n 0, 1, 0, 0, 0), (.getfield 61, 3, 9, 8, 0), (.iload_n 1, 1, 0, 0, 0)]
set_option maxRecDepth 20000 in
theorem hX9_balanceAfter_0 : zChk false 9 cX9_balanceAfter 0 bX9_balanceAfter_0 = true := by decide +kernel
def bX9_balanceAfter_8 : List zI := [(.aload_n 0, 1, 0, 0, 0), (.getfield 46, 3, 9, 5, 0), (.aload_n 0, 1, 0, 0, 0), (.getfield 88, 3, 9, 12, 0), (.getfield 188, 3, 4, 13, 0), (.iconst 5, 1, 0, 0, 0), (.iaload, 1, 0, 0, 0)]
set_option maxRecDepth 20000 in
theorem hX9_balanceAfter_8 : zChk false 9 cX9_balanceAfter 8 bX9_balanceAfter_8 = true := by decide +kernel
def bX9_balanceAfter_24 : List zI := [(.ireturn, 1, 0, 0, 0)]
set_option maxRecDepth 20000 in
theorem hX9_balanceAfter_24 : zChk false 9 cX9_balanceAfter 24 bX9_balanceAfter_24 = true := by decide +kernel
def bX9_carried_0 : List zI := [(.lload_n 3, 1, 0, 0, 0)]
set_option maxRecDepth 20000 in
theorem hX9_carried_0 : zChk false 9 cX9_carried 0 bX9_carried_0 = true := by decide +kernel
def bX9_carried_4 : List zI := [(.istore 5, 2, 0, 0, 0), (.iload 5, 2, 0, 0, 0), (.ifCond .le 27, 3, 35, 0, 0), (.aload_n 0, 1, 0, 0, 0), (.getfield 42, 3, 9, 4, 0), (.dup, 1, 0, 0, 0), (.getfield 191, 3, 2, 11, 0), (.iload 5, 2, 0, 0, 0), (.iadd, 1, 0, 0, 0), (.putfield 191, 3, 2, 11, 0), (.aload_n 0, 1, 0, 0, 0), (.getfield 67, 3, 9, 9, 0), (.iload_n 1, 1, 0, 0, 0), (.iload_n 2, 1, 0, 0, 0), (.lload_n 3, 1, 0, 0, 0)]
set_option maxRecDepth 20000 in
theorem hX9_carried_4 : zChk false 9 cX9_carried 4 bX9_carried_4 = true := by decide +kernel
def bX9_carried_35 : List zI := [(.iload 5, 2, 0, 0, 0), (.ireturn, 1, 0, 0, 0)]
set_option maxRecDepth 20000 in
theorem hX9_carried_35 : zChk false 9 cX9_carried 35 bX9_carried_35 = true := by decide +kernel
def bX9_canTry_0 : List zI := [(.iload_n 1, 1, 0, 0, 0)]
set_option maxRecDepth 20000 in
theorem hX9_canTry_0 : zChk false 9 cX9_canTry 0 bX9_canTry_0 = true := by decide +kernel
def bX9_canTry_40 : List zI := [(.iload_n 2, 1, 0, 0, 0), (.ifCond .ne 7, 3, 48, 0, 0), (.iconst 1, 1, 0, 0, 0), (.goto 4, 3, 49, 0, 0)]
set_option maxRecDepth 20000 in
theorem hX9_canTry_40 : zChk false 9 cX9_canTry 40 bX9_canTry_40 = true := by decide +kernel
def bX9_canTry_48 : List zI := [(.iconst 0, 1, 0, 0, 0), (.ireturn, 1, 0, 0, 0)]
set_option maxRecDepth 20000 in
theorem hX9_canTry_48 : zChk false 9 cX9_canTry 48 bX9_canTry_48 = true := by decide +kernel
def bX9_canTry_49 : List zI := [(.ireturn, 1, 0, 0, 0)]
set_option maxRecDepth 20000 in
theorem hX9_canTry_49 : zChk false 9 cX9_canTry 49 bX9_canTry_49 = true := by decide +kernel
def bX9_canTry_50 : List zI := [(.aload_n 0, 1, 0, 0, 0), (.getfield 88, 3, 9, 12, 0), (.iload_n 2, 1, 0, 0, 0)]
set_option maxRecDepth 20000 in
theorem hX9_canTry_50 : zChk false 9 cX9_canTry 50 bX9_canTry_50 = true := by decide +kernel
def bX9_canTry_58 : List zI := [(.ireturn, 1, 0, 0, 0)]
set_option maxRecDepth 20000 in
theorem hX9_canTry_58 : zChk false 9 cX9_canTry 58 bX9_canTry_58 = true := by decide +kernel
def bX9_canTry_59 : List zI := [(.iload_n 2, 1, 0, 0, 0), (.ifCond .lt 18, 3, 78, 0, 0), (.iload_n 2, 1, 0, 0, 0), (.aload_n 0, 1, 0, 0, 0), (.getfield 88, 3, 9, 12, 0), (.getfield 325, 3, 4, 5, 0), (.if_icmp .ge 7, 3, 78, 0, 0), (.iconst 1, 1, 0, 0, 0), (.goto 4, 3, 79, 0, 0)]
set_option maxRecDepth 20000 in
theorem hX9_canTry_59 : zChk false 9 cX9_canTry 59 bX9_canTry_59 = true := by decide +kernel
def bX9_canTry_78 : List zI := [(.iconst 0, 1, 0, 0, 0), (.ireturn, 1, 0, 0, 0)]
set_option maxRecDepth 20000 in
theorem hX9_canTry_78 : zChk false 9 cX9_canTry 78 bX9_canTry_78 = true := by decide +kernel
def bX9_canTry_79 : List zI := [(.ireturn, 1, 0, 0, 0)]
set_option maxRecDepth 20000 in
theorem hX9_canTry_79 : zChk false 9 cX9_canTry 79 bX9_canTry_79 = true := by decide +kernel
def bX9_canTry_80 : List zI := [(.iconst 0, 1, 0, 0, 0), (.ireturn, 1, 0, 0, 0)]
set_option maxRecDepth 20000 in
theorem hX9_canTry_80 : zChk false 9 cX9_canTry 80 bX9_canTry_80 = true := by decide +kernel
def bX9_savedBy_0 : List zI := [(.iconst 0, 1, 0, 0, 0), (.istore_n 2, 1, 0, 0, 0), (.iconst 0, 1, 0, 0, 0), (.istore_n 3, 1, 0, 0, 0)]
set_option maxRecDepth 20000 in
theorem hX9_savedBy_0 : zChk false 9 cX9_savedBy 0 bX9_savedBy_0 = true := by decide +kernel
def bX9_savedBy_4 : List zI := [(.iload_n 3, 1, 0, 0, 0), (.aload_n 1, 1, 0, 0, 0), (.getfield 348, 3, 3, 1, 0), (.if_icmp .ge 51, 3, 60, 0, 0), (.aload_n 1, 1, 0, 0, 0), (.getfield 351, 3, 3, 0, 0), (.iload_n 3, 1, 0, 0, 0), (.iaload, 1, 0, 0, 0), (.istore 4, 2, 0, 0, 0), (.aload_n 0, 1, 0, 0, 0), (.getfield 88, 3, 9, 12, 0), (.iload 4, 2, 0, 0, 0), (.aload_n 0, 1, 0, 0, 0), (.getfield 42, 3, 9, 4, 0), (.getfield 179, 3, 2, 10, 0), (.iload_n 3, 1, 0, 0, 0), (.iadd, 1, 0, 0, 0)]
set_option maxRecDepth 20000 in
theorem hX9_savedBy_4 : zChk false 9 cX9_savedBy 4 bX9_savedBy_4 = true := by decide +kernel
def bX9_savedBy_38 : List zI := [(.ifCond .ne 16, 3, 54, 0, 0), (.iload_n 2, 1, 0, 0, 0), (.aload_n 0, 1, 0, 0, 0), (.getfield 42, 3, 9, 4, 0), (.getfield 170, 3, 2, 5, 0), (.iload 4, 2, 0, 0, 0), (.iaload, 1, 0, 0, 0), (.iadd, 1, 0, 0, 0), (.istore_n 2, 1, 0, 0, 0), (.iinc 3 1, 3, 0, 0, 0), (.goto (-53), 3, 4, 0, 0)]
set_option maxRecDepth 20000 in
theorem hX9_savedBy_38 : zChk false 9 cX9_savedBy 38 bX9_savedBy_38 = true := by decide +kernel
def bX9_savedBy_54 : List zI := [(.iinc 3 1, 3, 0, 0, 0), (.goto (-53), 3, 4, 0, 0)]
set_option maxRecDepth 20000 in
theorem hX9_savedBy_54 : zChk false 9 cX9_savedBy 54 bX9_savedBy_54 = true := by decide +kernel
def bX9_savedBy_60 : List zI := [(.iload_n 2, 1, 0, 0, 0), (.ireturn, 1, 0, 0, 0)]
set_option maxRecDepth 20000 in
theorem hX9_savedBy_60 : zChk false 9 cX9_savedBy 60 bX9_savedBy_60 = true := by decide +kernel
def bX9_walkOf_0 : List zI := [(.iconst 0, 1, 0, 0, 0), (.istore_n 2, 1, 0, 0, 0), (.iconst 0, 1, 0, 0, 0), (.istore_n 3, 1, 0, 0, 0), (.iconst 0, 1, 0, 0, 0), (.istore 4, 2, 0, 0, 0)]
set_option maxRecDepth 20000 in
theorem hX9_walkOf_0 : zChk false 9 cX9_walkOf 0 bX9_walkOf_0 = true := by decide +kernel
def bX9_walkOf_7 : List zI := [(.iload 4, 2, 0, 0, 0), (.aload_n 1, 1, 0, 0, 0), (.getfield 348, 3, 3, 1, 0), (.if_icmp .ge 39, 3, 52, 0, 0), (.aload_n 0, 1, 0, 0, 0), (.getfield 88, 3, 9, 12, 0), (.getfield 164, 3, 4, 3, 0), (.aload_n 1, 1, 0, 0, 0), (.getfield 351, 3, 3, 0, 0), (.iload 4, 2, 0, 0, 0), (.iaload, 1, 0, 0, 0), (.iaload, 1, 0, 0, 0), (.istore 5, 2, 0, 0, 0), (.iload_n 2, 1, 0, 0, 0), (.iload 5, 2, 0, 0, 0), (.iload_n 3, 1, 0, 0, 0), (.isub, 1, 0, 0, 0)]
set_option maxRecDepth 20000 in
theorem hX9_walkOf_7 : zChk false 9 cX9_walkOf 7 bX9_walkOf_7 = true := by decide +kernel
def bX9_walkOf_41 : List zI := [(.iadd, 1, 0, 0, 0), (.istore_n 2, 1, 0, 0, 0), (.iload 5, 2, 0, 0, 0), (.istore_n 3, 1, 0, 0, 0), (.iinc 4 1, 3, 0, 0, 0), (.goto (-42), 3, 7, 0, 0)]
set_option maxRecDepth 20000 in
theorem hX9_walkOf_41 : zChk false 9 cX9_walkOf 41 bX9_walkOf_41 = true := by decide +kernel
def bX9_walkOf_52 : List zI := [(.iload_n 2, 1, 0, 0, 0), (.ireturn, 1, 0, 0, 0)]
set_option maxRecDepth 20000 in
theorem hX9_walkOf_52 : zChk false 9 cX9_walkOf 52 bX9_walkOf_52 = true := by decide +kernel
