/-! ===== BLOCKS of code (written by a program) ===== -/
def bX10_thrown_0 : List zI := [(.aload_n 0, 1, 0, 0, 0), (.getfield 178, 3, 10, 2, 0), (.ireturn, 1, 0, 0, 0)]
set_option maxRecDepth 20000 in
theorem hX10_thrown_0 : zChk false 10 cX10_thrown 0 bX10_thrown_0 = true := by decide +kernel
def bX10_wrong_0 : List zI := [(.aload_n 0, 1, 0, 0, 0), (.iload_n 1, 1, 0, 0, 0), (.putfield 184, 3, 10, 4, 0), (.aload_n 0, 1, 0, 0, 0), (.aload_n 0, 1, 0, 0, 0), (.getfield 187, 3, 10, 10, 0), (.putfield 16, 3, 10, 5, 0), (.iconst 0, 1, 0, 0, 0), (.ireturn, 1, 0, 0, 0)]
set_option maxRecDepth 20000 in
theorem hX10_wrong_0 : zChk false 10 cX10_wrong 0 bX10_wrong_0 = true := by decide +kernel
def bX10_wordAt_0 : List zI := [(.iconst 0, 1, 0, 0, 0), (.istore_n 3, 1, 0, 0, 0), (.iconst 0, 1, 0, 0, 0), (.istore 4, 2, 0, 0, 0)]
set_option maxRecDepth 20000 in
theorem hX10_wordAt_0 : zChk false 10 cX10_wordAt 0 bX10_wordAt_0 = true := by decide +kernel
def bX10_wordAt_5 : List zI := [(.iload 4, 2, 0, 0, 0), (.aload_n 0, 1, 0, 0, 0), (.getfield 13, 3, 10, 3, 0), (.arraylength, 1, 0, 0, 0), (.if_icmp .ge 114, 3, 126, 0, 0), (.iconst 0, 1, 0, 0, 0), (.istore 5, 2, 0, 0, 0)]
set_option maxRecDepth 20000 in
theorem hX10_wordAt_5 : zChk false 10 cX10_wordAt 5 bX10_wordAt_5 = true := by decide +kernel
def bX10_wordAt_18 : List zI := [(.aload_n 0, 1, 0, 0, 0), (.getfield 13, 3, 10, 3, 0), (.iload 4, 2, 0, 0, 0), (.iload 5, 2, 0, 0, 0), (.iadd, 1, 0, 0, 0), (.iaload, 1, 0, 0, 0), (.bipush 32, 2, 0, 0, 0), (.if_icmp .eq 9, 3, 39, 0, 0), (.iinc 5 1, 3, 0, 0, 0), (.goto (-18), 3, 18, 0, 0)]
set_option maxRecDepth 20000 in
theorem hX10_wordAt_18 : zChk false 10 cX10_wordAt 18 bX10_wordAt_18 = true := by decide +kernel
def bX10_wordAt_39 : List zI := [(.iload 5, 2, 0, 0, 0), (.iload_n 2, 1, 0, 0, 0), (.iload_n 1, 1, 0, 0, 0), (.isub, 1, 0, 0, 0), (.if_icmp .ne 7, 3, 51, 0, 0), (.iconst 1, 1, 0, 0, 0), (.goto 4, 3, 52, 0, 0)]
set_option maxRecDepth 20000 in
theorem hX10_wordAt_39 : zChk false 10 cX10_wordAt 39 bX10_wordAt_39 = true := by decide +kernel
def bX10_wordAt_51 : List zI := [(.iconst 0, 1, 0, 0, 0), (.istore 6, 2, 0, 0, 0), (.iconst 0, 1, 0, 0, 0), (.istore 7, 2, 0, 0, 0)]
set_option maxRecDepth 20000 in
theorem hX10_wordAt_51 : zChk false 10 cX10_wordAt 51 bX10_wordAt_51 = true := by decide +kernel
def bX10_wordAt_52 : List zI := [(.istore 6, 2, 0, 0, 0), (.iconst 0, 1, 0, 0, 0), (.istore 7, 2, 0, 0, 0)]
set_option maxRecDepth 20000 in
theorem hX10_wordAt_52 : zChk false 10 cX10_wordAt 52 bX10_wordAt_52 = true := by decide +kernel
def bX10_wordAt_57 : List zI := [(.iload 7, 2, 0, 0, 0), (.iload 5, 2, 0, 0, 0), (.if_icmp .ge 43, 3, 104, 0, 0), (.iload 6, 2, 0, 0, 0), (.ifCond .eq 38, 3, 104, 0, 0), (.aload_n 0, 1, 0, 0, 0), (.getfield 13, 3, 10, 3, 0), (.iload 4, 2, 0, 0, 0), (.iload 7, 2, 0, 0, 0), (.iadd, 1, 0, 0, 0), (.iaload, 1, 0, 0, 0), (.aload_n 0, 1, 0, 0, 0), (.getfield 7, 3, 10, 0, 0), (.iload_n 1, 1, 0, 0, 0), (.iload 7, 2, 0, 0, 0), (.iadd, 1, 0, 0, 0), (.iaload, 1, 0, 0, 0), (.if_icmp .ne 7, 3, 95, 0, 0), (.iconst 1, 1, 0, 0, 0), (.goto 4, 3, 96, 0, 0)]
set_option maxRecDepth 20000 in
theorem hX10_wordAt_57 : zChk false 10 cX10_wordAt 57 bX10_wordAt_57 = true := by decide +kernel
def bX10_wordAt_95 : List zI := [(.iconst 0, 1, 0, 0, 0), (.istore 6, 2, 0, 0, 0), (.iinc 7 1, 3, 0, 0, 0), (.goto (-44), 3, 57, 0, 0)]
set_option maxRecDepth 20000 in
theorem hX10_wordAt_95 : zChk false 10 cX10_wordAt 95 bX10_wordAt_95 = true := by decide +kernel
def bX10_wordAt_96 : List zI := [(.istore 6, 2, 0, 0, 0), (.iinc 7 1, 3, 0, 0, 0), (.goto (-44), 3, 57, 0, 0)]
set_option maxRecDepth 20000 in
theorem hX10_wordAt_96 : zChk false 10 cX10_wordAt 96 bX10_wordAt_96 = true := by decide +kernel
def bX10_wordAt_104 : List zI := [(.iload 6, 2, 0, 0, 0), (.ifCond .eq 5, 3, 111, 0, 0), (.iload_n 3, 1, 0, 0, 0), (.ireturn, 1, 0, 0, 0)]
set_option maxRecDepth 20000 in
theorem hX10_wordAt_104 : zChk false 10 cX10_wordAt 104 bX10_wordAt_104 = true := by decide +kernel
def bX10_wordAt_111 : List zI := [(.iload 4, 2, 0, 0, 0), (.iload 5, 2, 0, 0, 0), (.iconst 1, 1, 0, 0, 0), (.iadd, 1, 0, 0, 0), (.iadd, 1, 0, 0, 0), (.istore 4, 2, 0, 0, 0), (.iinc 3 1, 3, 0, 0, 0), (.goto (-118), 3, 5, 0, 0)]
set_option maxRecDepth 20000 in
theorem hX10_wordAt_111 : zChk false 10 cX10_wordAt 111 bX10_wordAt_111 = true := by decide +kernel
def bX10_wordAt_126 : List zI := [(.iconst (-1), 1, 0, 0, 0), (.ireturn, 1, 0, 0, 0)]
set_option maxRecDepth 20000 in
theorem hX10_wordAt_126 : zChk false 10 cX10_wordAt 126 bX10_wordAt_126 = true := by decide +kernel
def bX10_token_0 : List zI := [(.aload_n 0, 1, 0, 0, 0), (.getfield 193, 3, 10, 7, 0), (.aload_n 0, 1, 0, 0, 0), (.getfield 190, 3, 10, 6, 0), (.if_icmp .ge 44, 3, 52, 0, 0), (.aload_n 0, 1, 0, 0, 0), (.getfield 7, 3, 10, 0, 0), (.aload_n 0, 1, 0, 0, 0), (.getfield 193, 3, 10, 7, 0), (.iaload, 1, 0, 0, 0), (.bipush 10, 2, 0, 0, 0), (.if_icmp .eq 17, 3, 39, 0, 0), (.aload_n 0, 1, 0, 0, 0), (.getfield 7, 3, 10, 0, 0), (.aload_n 0, 1, 0, 0, 0), (.getfield 193, 3, 10, 7, 0), (.iaload, 1, 0, 0, 0), (.bipush 32, 2, 0, 0, 0), (.if_icmp .ne 16, 3, 52, 0, 0), (.aload_n 0, 1, 0, 0, 0), (.dup, 1, 0, 0, 0), (.getfield 193, 3, 10, 7, 0), (.iconst 1, 1, 0, 0, 0), (.iadd, 1, 0, 0, 0), (.putfield 193, 3, 10, 7, 0), (.goto (-49), 3, 0, 0, 0)]
set_option maxRecDepth 20000 in
theorem hX10_token_0 : zChk false 10 cX10_token 0 bX10_token_0 = true := by decide +kernel
def bX10_token_39 : List zI := [(.aload_n 0, 1, 0, 0, 0), (.dup, 1, 0, 0, 0), (.getfield 193, 3, 10, 7, 0), (.iconst 1, 1, 0, 0, 0), (.iadd, 1, 0, 0, 0), (.putfield 193, 3, 10, 7, 0), (.goto (-49), 3, 0, 0, 0)]
set_option maxRecDepth 20000 in
theorem hX10_token_39 : zChk false 10 cX10_token 39 bX10_token_39 = true := by decide +kernel
def bX10_token_52 : List zI := [(.aload_n 0, 1, 0, 0, 0), (.aload_n 0, 1, 0, 0, 0), (.getfield 193, 3, 10, 7, 0), (.putfield 187, 3, 10, 10, 0), (.aload_n 0, 1, 0, 0, 0), (.getfield 193, 3, 10, 7, 0), (.aload_n 0, 1, 0, 0, 0), (.getfield 190, 3, 10, 6, 0), (.if_icmp .ne 11, 3, 79, 0, 0), (.aload_n 0, 1, 0, 0, 0), (.iconst 0, 1, 0, 0, 0), (.putfield 196, 3, 10, 8, 0), (.goto 205, 3, 281, 0, 0)]
set_option maxRecDepth 20000 in
theorem hX10_token_52 : zChk false 10 cX10_token 52 bX10_token_52 = true := by decide +kernel
def bX10_token_79 : List zI := [(.aload_n 0, 1, 0, 0, 0), (.aload_n 0, 1, 0, 0, 0), (.getfield 193, 3, 10, 7, 0)]
set_option maxRecDepth 20000 in
theorem hX10_token_79 : zChk false 10 cX10_token 79 bX10_token_79 = true := by decide +kernel
def bX10_token_87 : List zI := [(.ifCond .eq 105, 3, 192, 0, 0)]
set_option maxRecDepth 20000 in
theorem hX10_token_87 : zChk false 10 cX10_token 87 bX10_token_87 = true := by decide +kernel
def bX10_token_90 : List zI := [(.aload_n 0, 1, 0, 0, 0), (.aload_n 0, 1, 0, 0, 0), (.getfield 193, 3, 10, 7, 0)]
set_option maxRecDepth 20000 in
theorem hX10_token_90 : zChk false 10 cX10_token 90 bX10_token_90 = true := by decide +kernel
def bX10_token_98 : List zI := [(.ifCond .eq 16, 3, 114, 0, 0), (.aload_n 0, 1, 0, 0, 0), (.dup, 1, 0, 0, 0), (.getfield 193, 3, 10, 7, 0), (.iconst 1, 1, 0, 0, 0), (.iadd, 1, 0, 0, 0), (.putfield 193, 3, 10, 7, 0), (.goto (-21), 3, 90, 0, 0)]
set_option maxRecDepth 20000 in
theorem hX10_token_98 : zChk false 10 cX10_token 98 bX10_token_98 = true := by decide +kernel
def bX10_token_114 : List zI := [(.aload_n 0, 1, 0, 0, 0), (.aload_n 0, 1, 0, 0, 0), (.aload_n 0, 1, 0, 0, 0), (.getfield 187, 3, 10, 10, 0), (.aload_n 0, 1, 0, 0, 0), (.getfield 193, 3, 10, 7, 0)]
set_option maxRecDepth 20000 in
theorem hX10_token_114 : zChk false 10 cX10_token 114 bX10_token_114 = true := by decide +kernel
def bX10_token_127 : List zI := [(.putfield 207, 3, 10, 9, 0), (.aload_n 0, 1, 0, 0, 0), (.aload_n 0, 1, 0, 0, 0), (.getfield 207, 3, 10, 9, 0), (.ifCond .lt 7, 3, 142, 0, 0), (.iconst 1, 1, 0, 0, 0), (.goto 23, 3, 162, 0, 0)]
set_option maxRecDepth 20000 in
theorem hX10_token_127 : zChk false 10 cX10_token 127 bX10_token_127 = true := by decide +kernel
def bX10_token_142 : List zI := [(.aload_n 0, 1, 0, 0, 0), (.getfield 193, 3, 10, 7, 0), (.aload_n 0, 1, 0, 0, 0), (.getfield 187, 3, 10, 10, 0), (.isub, 1, 0, 0, 0), (.bipush 6, 2, 0, 0, 0), (.if_icmp .le 8, 3, 161, 0, 0), (.bipush 6, 2, 0, 0, 0), (.goto 4, 3, 162, 0, 0)]
set_option maxRecDepth 20000 in
theorem hX10_token_142 : zChk false 10 cX10_token 142 bX10_token_142 = true := by decide +kernel
def bX10_token_161 : List zI := [(.iconst 2, 1, 0, 0, 0), (.putfield 196, 3, 10, 8, 0), (.aload_n 0, 1, 0, 0, 0), (.getfield 196, 3, 10, 8, 0), (.iconst 2, 1, 0, 0, 0), (.if_icmp .ne 111, 3, 281, 0, 0), (.aload_n 0, 1, 0, 0, 0), (.aload_n 0, 1, 0, 0, 0), (.aload_n 0, 1, 0, 0, 0), (.getfield 187, 3, 10, 10, 0), (.aload_n 0, 1, 0, 0, 0), (.getfield 193, 3, 10, 7, 0)]
set_option maxRecDepth 20000 in
theorem hX10_token_161 : zChk false 10 cX10_token 161 bX10_token_161 = true := by decide +kernel
def bX10_token_162 : List zI := [(.putfield 196, 3, 10, 8, 0), (.aload_n 0, 1, 0, 0, 0), (.getfield 196, 3, 10, 8, 0), (.iconst 2, 1, 0, 0, 0), (.if_icmp .ne 111, 3, 281, 0, 0), (.aload_n 0, 1, 0, 0, 0), (.aload_n 0, 1, 0, 0, 0), (.aload_n 0, 1, 0, 0, 0), (.getfield 187, 3, 10, 10, 0), (.aload_n 0, 1, 0, 0, 0), (.getfield 193, 3, 10, 7, 0)]
set_option maxRecDepth 20000 in
theorem hX10_token_162 : zChk false 10 cX10_token 162 bX10_token_162 = true := by decide +kernel
def bX10_token_186 : List zI := [(.putfield 207, 3, 10, 9, 0), (.goto 92, 3, 281, 0, 0)]
set_option maxRecDepth 20000 in
theorem hX10_token_186 : zChk false 10 cX10_token 186 bX10_token_186 = true := by decide +kernel
def bX10_token_192 : List zI := [(.aload_n 0, 1, 0, 0, 0), (.aload_n 0, 1, 0, 0, 0), (.getfield 193, 3, 10, 7, 0)]
set_option maxRecDepth 20000 in
theorem hX10_token_192 : zChk false 10 cX10_token 192 bX10_token_192 = true := by decide +kernel
def bX10_token_200 : List zI := [(.ifCond .eq 77, 3, 277, 0, 0), (.aload_n 0, 1, 0, 0, 0), (.iconst 3, 1, 0, 0, 0), (.putfield 196, 3, 10, 8, 0), (.aload_n 0, 1, 0, 0, 0), (.iconst 0, 1, 0, 0, 0), (.putfield 207, 3, 10, 9, 0)]
set_option maxRecDepth 20000 in
theorem hX10_token_200 : zChk false 10 cX10_token 200 bX10_token_200 = true := by decide +kernel
def bX10_token_213 : List zI := [(.aload_n 0, 1, 0, 0, 0), (.aload_n 0, 1, 0, 0, 0), (.getfield 193, 3, 10, 7, 0)]
set_option maxRecDepth 20000 in
theorem hX10_token_213 : zChk false 10 cX10_token 213 bX10_token_213 = true := by decide +kernel
def bX10_token_221 : List zI := [(.ifCond .eq 60, 3, 281, 0, 0), (.aload_n 0, 1, 0, 0, 0), (.aload_n 0, 1, 0, 0, 0), (.getfield 207, 3, 10, 9, 0), (.ldc 216, 2, 0, 0, 99999), (.if_icmp .le 10, 3, 241, 0, 0), (.aload_n 0, 1, 0, 0, 0), (.getfield 207, 3, 10, 9, 0), (.goto 23, 3, 261, 0, 0)]
set_option maxRecDepth 20000 in
theorem hX10_token_221 : zChk false 10 cX10_token 221 bX10_token_221 = true := by decide +kernel
def bX10_token_241 : List zI := [(.bipush 10, 2, 0, 0, 0), (.aload_n 0, 1, 0, 0, 0), (.getfield 207, 3, 10, 9, 0), (.imul, 1, 0, 0, 0), (.aload_n 0, 1, 0, 0, 0), (.getfield 7, 3, 10, 0, 0), (.aload_n 0, 1, 0, 0, 0), (.getfield 193, 3, 10, 7, 0), (.iaload, 1, 0, 0, 0), (.iadd, 1, 0, 0, 0), (.bipush 48, 2, 0, 0, 0), (.isub, 1, 0, 0, 0), (.putfield 207, 3, 10, 9, 0), (.aload_n 0, 1, 0, 0, 0), (.dup, 1, 0, 0, 0), (.getfield 193, 3, 10, 7, 0), (.iconst 1, 1, 0, 0, 0), (.iadd, 1, 0, 0, 0), (.putfield 193, 3, 10, 7, 0), (.goto (-61), 3, 213, 0, 0)]
set_option maxRecDepth 20000 in
theorem hX10_token_241 : zChk false 10 cX10_token 241 bX10_token_241 = true := by decide +kernel
def bX10_token_261 : List zI := [(.putfield 207, 3, 10, 9, 0), (.aload_n 0, 1, 0, 0, 0), (.dup, 1, 0, 0, 0), (.getfield 193, 3, 10, 7, 0), (.iconst 1, 1, 0, 0, 0), (.iadd, 1, 0, 0, 0), (.putfield 193, 3, 10, 7, 0), (.goto (-61), 3, 213, 0, 0)]
set_option maxRecDepth 20000 in
theorem hX10_token_261 : zChk false 10 cX10_token 261 bX10_token_261 = true := by decide +kernel
def bX10_token_277 : List zI := [(.aload_n 0, 1, 0, 0, 0)]
set_option maxRecDepth 20000 in
theorem hX10_token_277 : zChk false 10 cX10_token 277 bX10_token_277 = true := by decide +kernel
def bX10_token_281 : List zI := [(.return_, 1, 0, 0, 0)]
set_option maxRecDepth 20000 in
theorem hX10_token_281 : zChk false 10 cX10_token 281 bX10_token_281 = true := by decide +kernel
def bX10_signToken_0 : List zI := [(.aload_n 0, 1, 0, 0, 0), (.aload_n 0, 1, 0, 0, 0), (.getfield 7, 3, 10, 0, 0), (.aload_n 0, 1, 0, 0, 0), (.getfield 193, 3, 10, 7, 0), (.iaload, 1, 0, 0, 0), (.putfield 207, 3, 10, 9, 0), (.aload_n 0, 1, 0, 0, 0), (.dup, 1, 0, 0, 0), (.getfield 193, 3, 10, 7, 0), (.iconst 1, 1, 0, 0, 0), (.iadd, 1, 0, 0, 0), (.putfield 193, 3, 10, 7, 0), (.aload_n 0, 1, 0, 0, 0), (.getfield 207, 3, 10, 9, 0), (.bipush 60, 2, 0, 0, 0), (.if_icmp .eq 21, 3, 50, 0, 0), (.aload_n 0, 1, 0, 0, 0), (.getfield 207, 3, 10, 9, 0), (.bipush 62, 2, 0, 0, 0), (.if_icmp .eq 12, 3, 50, 0, 0), (.aload_n 0, 1, 0, 0, 0), (.getfield 207, 3, 10, 9, 0), (.bipush 61, 2, 0, 0, 0), (.if_icmp .ne 151, 3, 198, 0, 0), (.aload_n 0, 1, 0, 0, 0), (.getfield 193, 3, 10, 7, 0), (.aload_n 0, 1, 0, 0, 0), (.getfield 190, 3, 10, 6, 0), (.if_icmp .ge 15, 3, 73, 0, 0), (.aload_n 0, 1, 0, 0, 0), (.getfield 7, 3, 10, 0, 0), (.aload_n 0, 1, 0, 0, 0), (.getfield 193, 3, 10, 7, 0), (.iaload, 1, 0, 0, 0), (.goto 4, 3, 74, 0, 0)]
set_option maxRecDepth 20000 in
theorem hX10_signToken_0 : zChk false 10 cX10_signToken 0 bX10_signToken_0 = true := by decide +kernel
def bX10_signToken_50 : List zI := [(.aload_n 0, 1, 0, 0, 0), (.getfield 193, 3, 10, 7, 0), (.aload_n 0, 1, 0, 0, 0), (.getfield 190, 3, 10, 6, 0), (.if_icmp .ge 15, 3, 73, 0, 0), (.aload_n 0, 1, 0, 0, 0), (.getfield 7, 3, 10, 0, 0), (.aload_n 0, 1, 0, 0, 0), (.getfield 193, 3, 10, 7, 0), (.iaload, 1, 0, 0, 0), (.goto 4, 3, 74, 0, 0)]
set_option maxRecDepth 20000 in
theorem hX10_signToken_50 : zChk false 10 cX10_signToken 50 bX10_signToken_50 = true := by decide +kernel
def bX10_signToken_73 : List zI := [(.iconst 0, 1, 0, 0, 0), (.istore_n 1, 1, 0, 0, 0), (.aload_n 0, 1, 0, 0, 0), (.getfield 207, 3, 10, 9, 0), (.bipush 61, 2, 0, 0, 0), (.if_icmp .eq 13, 3, 94, 0, 0), (.iload_n 1, 1, 0, 0, 0), (.bipush 61, 2, 0, 0, 0), (.if_icmp .ne 7, 3, 94, 0, 0), (.iconst 1, 1, 0, 0, 0), (.goto 4, 3, 95, 0, 0)]
set_option maxRecDepth 20000 in
theorem hX10_signToken_73 : zChk false 10 cX10_signToken 73 bX10_signToken_73 = true := by decide +kernel
def bX10_signToken_74 : List zI := [(.istore_n 1, 1, 0, 0, 0), (.aload_n 0, 1, 0, 0, 0), (.getfield 207, 3, 10, 9, 0), (.bipush 61, 2, 0, 0, 0), (.if_icmp .eq 13, 3, 94, 0, 0), (.iload_n 1, 1, 0, 0, 0), (.bipush 61, 2, 0, 0, 0), (.if_icmp .ne 7, 3, 94, 0, 0), (.iconst 1, 1, 0, 0, 0), (.goto 4, 3, 95, 0, 0)]
set_option maxRecDepth 20000 in
theorem hX10_signToken_74 : zChk false 10 cX10_signToken 74 bX10_signToken_74 = true := by decide +kernel
def bX10_signToken_94 : List zI := [(.iconst 0, 1, 0, 0, 0), (.istore_n 2, 1, 0, 0, 0), (.aload_n 0, 1, 0, 0, 0), (.getfield 207, 3, 10, 9, 0), (.bipush 60, 2, 0, 0, 0), (.if_icmp .ne 13, 3, 115, 0, 0), (.iload_n 1, 1, 0, 0, 0), (.bipush 62, 2, 0, 0, 0), (.if_icmp .ne 7, 3, 115, 0, 0), (.iconst 1, 1, 0, 0, 0), (.goto 4, 3, 116, 0, 0)]
set_option maxRecDepth 20000 in
theorem hX10_signToken_94 : zChk false 10 cX10_signToken 94 bX10_signToken_94 = true := by decide +kernel
def bX10_signToken_95 : List zI := [(.istore_n 2, 1, 0, 0, 0), (.aload_n 0, 1, 0, 0, 0), (.getfield 207, 3, 10, 9, 0), (.bipush 60, 2, 0, 0, 0), (.if_icmp .ne 13, 3, 115, 0, 0), (.iload_n 1, 1, 0, 0, 0), (.bipush 62, 2, 0, 0, 0), (.if_icmp .ne 7, 3, 115, 0, 0), (.iconst 1, 1, 0, 0, 0), (.goto 4, 3, 116, 0, 0)]
set_option maxRecDepth 20000 in
theorem hX10_signToken_95 : zChk false 10 cX10_signToken 95 bX10_signToken_95 = true := by decide +kernel
def bX10_signToken_115 : List zI := [(.iconst 0, 1, 0, 0, 0), (.istore_n 3, 1, 0, 0, 0), (.iload_n 2, 1, 0, 0, 0), (.ifCond .ne 7, 3, 125, 0, 0), (.iload_n 3, 1, 0, 0, 0), (.ifCond .eq 13, 3, 135, 0, 0), (.aload_n 0, 1, 0, 0, 0), (.dup, 1, 0, 0, 0), (.getfield 193, 3, 10, 7, 0), (.iconst 1, 1, 0, 0, 0), (.iadd, 1, 0, 0, 0), (.putfield 193, 3, 10, 7, 0), (.aload_n 0, 1, 0, 0, 0), (.iconst 5, 1, 0, 0, 0), (.putfield 196, 3, 10, 8, 0), (.aload_n 0, 1, 0, 0, 0), (.aload_n 0, 1, 0, 0, 0), (.getfield 207, 3, 10, 9, 0), (.bipush 61, 2, 0, 0, 0), (.if_icmp .ne 7, 3, 154, 0, 0), (.iconst 2, 1, 0, 0, 0), (.goto 41, 3, 192, 0, 0)]
set_option maxRecDepth 20000 in
theorem hX10_signToken_115 : zChk false 10 cX10_signToken 115 bX10_signToken_115 = true := by decide +kernel
def bX10_signToken_116 : List zI := [(.istore_n 3, 1, 0, 0, 0), (.iload_n 2, 1, 0, 0, 0), (.ifCond .ne 7, 3, 125, 0, 0), (.iload_n 3, 1, 0, 0, 0), (.ifCond .eq 13, 3, 135, 0, 0), (.aload_n 0, 1, 0, 0, 0), (.dup, 1, 0, 0, 0), (.getfield 193, 3, 10, 7, 0), (.iconst 1, 1, 0, 0, 0), (.iadd, 1, 0, 0, 0), (.putfield 193, 3, 10, 7, 0), (.aload_n 0, 1, 0, 0, 0), (.iconst 5, 1, 0, 0, 0), (.putfield 196, 3, 10, 8, 0), (.aload_n 0, 1, 0, 0, 0), (.aload_n 0, 1, 0, 0, 0), (.getfield 207, 3, 10, 9, 0), (.bipush 61, 2, 0, 0, 0), (.if_icmp .ne 7, 3, 154, 0, 0), (.iconst 2, 1, 0, 0, 0), (.goto 41, 3, 192, 0, 0)]
set_option maxRecDepth 20000 in
theorem hX10_signToken_116 : zChk false 10 cX10_signToken 116 bX10_signToken_116 = true := by decide +kernel
def bX10_signToken_125 : List zI := [(.aload_n 0, 1, 0, 0, 0), (.dup, 1, 0, 0, 0), (.getfield 193, 3, 10, 7, 0), (.iconst 1, 1, 0, 0, 0), (.iadd, 1, 0, 0, 0), (.putfield 193, 3, 10, 7, 0), (.aload_n 0, 1, 0, 0, 0), (.iconst 5, 1, 0, 0, 0), (.putfield 196, 3, 10, 8, 0), (.aload_n 0, 1, 0, 0, 0), (.aload_n 0, 1, 0, 0, 0), (.getfield 207, 3, 10, 9, 0), (.bipush 61, 2, 0, 0, 0), (.if_icmp .ne 7, 3, 154, 0, 0), (.iconst 2, 1, 0, 0, 0), (.goto 41, 3, 192, 0, 0)]
set_option maxRecDepth 20000 in
theorem hX10_signToken_125 : zChk false 10 cX10_signToken 125 bX10_signToken_125 = true := by decide +kernel
def bX10_signToken_135 : List zI := [(.aload_n 0, 1, 0, 0, 0), (.iconst 5, 1, 0, 0, 0), (.putfield 196, 3, 10, 8, 0), (.aload_n 0, 1, 0, 0, 0), (.aload_n 0, 1, 0, 0, 0), (.getfield 207, 3, 10, 9, 0), (.bipush 61, 2, 0, 0, 0), (.if_icmp .ne 7, 3, 154, 0, 0), (.iconst 2, 1, 0, 0, 0), (.goto 41, 3, 192, 0, 0)]
set_option maxRecDepth 20000 in
theorem hX10_signToken_135 : zChk false 10 cX10_signToken 135 bX10_signToken_135 = true := by decide +kernel
def bX10_signToken_154 : List zI := [(.aload_n 0, 1, 0, 0, 0), (.getfield 207, 3, 10, 9, 0), (.bipush 60, 2, 0, 0, 0), (.if_icmp .ne 23, 3, 183, 0, 0), (.iload_n 2, 1, 0, 0, 0), (.ifCond .eq 7, 3, 171, 0, 0), (.iconst 1, 1, 0, 0, 0), (.goto 24, 3, 192, 0, 0)]
set_option maxRecDepth 20000 in
theorem hX10_signToken_154 : zChk false 10 cX10_signToken 154 bX10_signToken_154 = true := by decide +kernel
def bX10_signToken_171 : List zI := [(.iload_n 3, 1, 0, 0, 0), (.ifCond .eq 7, 3, 179, 0, 0), (.iconst 3, 1, 0, 0, 0), (.goto 16, 3, 192, 0, 0)]
set_option maxRecDepth 20000 in
theorem hX10_signToken_171 : zChk false 10 cX10_signToken 171 bX10_signToken_171 = true := by decide +kernel
def bX10_signToken_179 : List zI := [(.iconst 0, 1, 0, 0, 0), (.goto 12, 3, 192, 0, 0)]
set_option maxRecDepth 20000 in
theorem hX10_signToken_179 : zChk false 10 cX10_signToken 179 bX10_signToken_179 = true := by decide +kernel
def bX10_signToken_183 : List zI := [(.iload_n 2, 1, 0, 0, 0), (.ifCond .eq 7, 3, 191, 0, 0), (.iconst 4, 1, 0, 0, 0), (.goto 4, 3, 192, 0, 0)]
set_option maxRecDepth 20000 in
theorem hX10_signToken_183 : zChk false 10 cX10_signToken 183 bX10_signToken_183 = true := by decide +kernel
def bX10_signToken_191 : List zI := [(.iconst 5, 1, 0, 0, 0), (.putfield 207, 3, 10, 9, 0), (.goto 95, 3, 290, 0, 0)]
set_option maxRecDepth 20000 in
theorem hX10_signToken_191 : zChk false 10 cX10_signToken 191 bX10_signToken_191 = true := by decide +kernel
def bX10_signToken_192 : List zI := [(.putfield 207, 3, 10, 9, 0), (.goto 95, 3, 290, 0, 0)]
set_option maxRecDepth 20000 in
theorem hX10_signToken_192 : zChk false 10 cX10_signToken 192 bX10_signToken_192 = true := by decide +kernel
def bX10_signToken_198 : List zI := [(.aload_n 0, 1, 0, 0, 0), (.getfield 207, 3, 10, 9, 0), (.bipush 59, 2, 0, 0, 0), (.if_icmp .eq 66, 3, 270, 0, 0), (.aload_n 0, 1, 0, 0, 0), (.getfield 207, 3, 10, 9, 0), (.bipush 40, 2, 0, 0, 0), (.if_icmp .eq 57, 3, 270, 0, 0), (.aload_n 0, 1, 0, 0, 0), (.getfield 207, 3, 10, 9, 0), (.bipush 41, 2, 0, 0, 0), (.if_icmp .eq 48, 3, 270, 0, 0), (.aload_n 0, 1, 0, 0, 0), (.getfield 207, 3, 10, 9, 0), (.bipush 43, 2, 0, 0, 0), (.if_icmp .eq 39, 3, 270, 0, 0), (.aload_n 0, 1, 0, 0, 0), (.getfield 207, 3, 10, 9, 0), (.bipush 45, 2, 0, 0, 0), (.if_icmp .eq 30, 3, 270, 0, 0), (.aload_n 0, 1, 0, 0, 0), (.getfield 207, 3, 10, 9, 0), (.bipush 42, 2, 0, 0, 0), (.if_icmp .eq 21, 3, 270, 0, 0), (.aload_n 0, 1, 0, 0, 0), (.getfield 207, 3, 10, 9, 0), (.bipush 47, 2, 0, 0, 0), (.if_icmp .eq 12, 3, 270, 0, 0), (.aload_n 0, 1, 0, 0, 0), (.getfield 207, 3, 10, 9, 0), (.bipush 37, 2, 0, 0, 0), (.if_icmp .ne 7, 3, 274, 0, 0), (.iconst 1, 1, 0, 0, 0), (.goto 4, 3, 275, 0, 0)]
set_option maxRecDepth 20000 in
theorem hX10_signToken_198 : zChk false 10 cX10_signToken 198 bX10_signToken_198 = true := by decide +kernel
def bX10_signToken_270 : List zI := [(.iconst 1, 1, 0, 0, 0), (.goto 4, 3, 275, 0, 0)]
set_option maxRecDepth 20000 in
theorem hX10_signToken_270 : zChk false 10 cX10_signToken 270 bX10_signToken_270 = true := by decide +kernel
def bX10_signToken_274 : List zI := [(.iconst 0, 1, 0, 0, 0), (.istore_n 1, 1, 0, 0, 0), (.aload_n 0, 1, 0, 0, 0), (.iload_n 1, 1, 0, 0, 0), (.ifCond .eq 7, 3, 285, 0, 0), (.iconst 4, 1, 0, 0, 0), (.goto 5, 3, 287, 0, 0)]
set_option maxRecDepth 20000 in
theorem hX10_signToken_274 : zChk false 10 cX10_signToken 274 bX10_signToken_274 = true := by decide +kernel
def bX10_signToken_275 : List zI := [(.istore_n 1, 1, 0, 0, 0), (.aload_n 0, 1, 0, 0, 0), (.iload_n 1, 1, 0, 0, 0), (.ifCond .eq 7, 3, 285, 0, 0), (.iconst 4, 1, 0, 0, 0), (.goto 5, 3, 287, 0, 0)]
set_option maxRecDepth 20000 in
theorem hX10_signToken_275 : zChk false 10 cX10_signToken 275 bX10_signToken_275 = true := by decide +kernel
def bX10_signToken_285 : List zI := [(.bipush 6, 2, 0, 0, 0), (.putfield 196, 3, 10, 8, 0), (.return_, 1, 0, 0, 0)]
set_option maxRecDepth 20000 in
theorem hX10_signToken_285 : zChk false 10 cX10_signToken 285 bX10_signToken_285 = true := by decide +kernel
def bX10_signToken_287 : List zI := [(.putfield 196, 3, 10, 8, 0), (.return_, 1, 0, 0, 0)]
set_option maxRecDepth 20000 in
theorem hX10_signToken_287 : zChk false 10 cX10_signToken 287 bX10_signToken_287 = true := by decide +kernel
def bX10_signToken_290 : List zI := [(.return_, 1, 0, 0, 0)]
set_option maxRecDepth 20000 in
theorem hX10_signToken_290 : zChk false 10 cX10_signToken 290 bX10_signToken_290 = true := by decide +kernel
def bX10_packed_0 : List zI := [(.iconst 0, 1, 0, 0, 0), (.istore_n 3, 1, 0, 0, 0), (.iload_n 1, 1, 0, 0, 0), (.istore 4, 2, 0, 0, 0)]
set_option maxRecDepth 20000 in
theorem hX10_packed_0 : zChk false 10 cX10_packed 0 bX10_packed_0 = true := by decide +kernel
def bX10_packed_5 : List zI := [(.iload 4, 2, 0, 0, 0), (.iload_n 1, 1, 0, 0, 0), (.bipush 6, 2, 0, 0, 0), (.iadd, 1, 0, 0, 0), (.if_icmp .ge 34, 3, 45, 0, 0), (.iload_n 3, 1, 0, 0, 0), (.iconst 5, 1, 0, 0, 0), (.ishl, 1, 0, 0, 0), (.iload 4, 2, 0, 0, 0), (.iload_n 2, 1, 0, 0, 0), (.if_icmp .ge 16, 3, 36, 0, 0), (.aload_n 0, 1, 0, 0, 0), (.getfield 7, 3, 10, 0, 0), (.iload 4, 2, 0, 0, 0), (.iaload, 1, 0, 0, 0), (.bipush 96, 2, 0, 0, 0), (.isub, 1, 0, 0, 0), (.goto 4, 3, 37, 0, 0)]
set_option maxRecDepth 20000 in
theorem hX10_packed_5 : zChk false 10 cX10_packed 5 bX10_packed_5 = true := by decide +kernel
def bX10_packed_36 : List zI := [(.iconst 0, 1, 0, 0, 0), (.ior, 1, 0, 0, 0), (.istore_n 3, 1, 0, 0, 0), (.iinc 4 1, 3, 0, 0, 0), (.goto (-37), 3, 5, 0, 0)]
set_option maxRecDepth 20000 in
theorem hX10_packed_36 : zChk false 10 cX10_packed 36 bX10_packed_36 = true := by decide +kernel
def bX10_packed_37 : List zI := [(.ior, 1, 0, 0, 0), (.istore_n 3, 1, 0, 0, 0), (.iinc 4 1, 3, 0, 0, 0), (.goto (-37), 3, 5, 0, 0)]
set_option maxRecDepth 20000 in
theorem hX10_packed_37 : zChk false 10 cX10_packed 37 bX10_packed_37 = true := by decide +kernel
def bX10_packed_45 : List zI := [(.iload_n 3, 1, 0, 0, 0), (.ireturn, 1, 0, 0, 0)]
set_option maxRecDepth 20000 in
theorem hX10_packed_45 : zChk false 10 cX10_packed 45 bX10_packed_45 = true := by decide +kernel
def bX10_number_0 : List zI := [(.aload_n 0, 1, 0, 0, 0), (.getfield 196, 3, 10, 8, 0), (.iconst 3, 1, 0, 0, 0), (.if_icmp .eq 9, 3, 14, 0, 0), (.aload_n 0, 1, 0, 0, 0), (.iconst 1, 1, 0, 0, 0)]
set_option maxRecDepth 20000 in
theorem hX10_number_0 : zChk false 10 cX10_number 0 bX10_number_0 = true := by decide +kernel
def bX10_number_13 : List zI := [(.ireturn, 1, 0, 0, 0)]
set_option maxRecDepth 20000 in
theorem hX10_number_13 : zChk false 10 cX10_number 13 bX10_number_13 = true := by decide +kernel
def bX10_number_14 : List zI := [(.aload_n 0, 1, 0, 0, 0), (.getfield 207, 3, 10, 9, 0), (.iload_n 1, 1, 0, 0, 0), (.iload_n 2, 1, 0, 0, 0)]
set_option maxRecDepth 20000 in
theorem hX10_number_14 : zChk false 10 cX10_number 14 bX10_number_14 = true := by decide +kernel
def bX10_number_23 : List zI := [(.ifCond .ne 9, 3, 32, 0, 0), (.aload_n 0, 1, 0, 0, 0), (.iconst 2, 1, 0, 0, 0)]
set_option maxRecDepth 20000 in
theorem hX10_number_23 : zChk false 10 cX10_number 23 bX10_number_23 = true := by decide +kernel
def bX10_number_31 : List zI := [(.ireturn, 1, 0, 0, 0)]
set_option maxRecDepth 20000 in
theorem hX10_number_31 : zChk false 10 cX10_number 31 bX10_number_31 = true := by decide +kernel
def bX10_number_32 : List zI := [(.aload_n 0, 1, 0, 0, 0), (.aload_n 0, 1, 0, 0, 0), (.getfield 207, 3, 10, 9, 0), (.putfield 227, 3, 10, 11, 0), (.aload_n 0, 1, 0, 0, 0)]
set_option maxRecDepth 20000 in
theorem hX10_number_32 : zChk false 10 cX10_number 32 bX10_number_32 = true := by decide +kernel
def bX10_number_44 : List zI := [(.iconst 1, 1, 0, 0, 0), (.ireturn, 1, 0, 0, 0)]
set_option maxRecDepth 20000 in
theorem hX10_number_44 : zChk false 10 cX10_number 44 bX10_number_44 = true := by decide +kernel
def bX10_plain_0 : List zI := [(.aload_n 0, 1, 0, 0, 0), (.iconst 0, 1, 0, 0, 0), (.putfield 240, 3, 10, 18, 0), (.aload_n 0, 1, 0, 0, 0), (.iconst 0, 1, 0, 0, 0), (.putfield 243, 3, 10, 19, 0), (.aload_n 0, 1, 0, 0, 0), (.iconst 0, 1, 0, 0, 0), (.putfield 246, 3, 10, 20, 0), (.aload_n 0, 1, 0, 0, 0), (.iconst 0, 1, 0, 0, 0), (.putfield 249, 3, 10, 21, 0), (.aload_n 0, 1, 0, 0, 0), (.iconst 0, 1, 0, 0, 0), (.putfield 252, 3, 10, 22, 0), (.aload_n 0, 1, 0, 0, 0), (.iconst 0, 1, 0, 0, 0), (.putfield 255, 3, 10, 23, 0), (.aload_n 0, 1, 0, 0, 0), (.iconst 0, 1, 0, 0, 0), (.putfield 258, 3, 10, 49, 0), (.iconst 0, 1, 0, 0, 0), (.istore_n 1, 1, 0, 0, 0)]
set_option maxRecDepth 20000 in
theorem hX10_plain_0 : zChk false 10 cX10_plain 0 bX10_plain_0 = true := by decide +kernel
def bX10_plain_37 : List zI := [(.iload_n 1, 1, 0, 0, 0), (.bipush 16, 2, 0, 0, 0), (.if_icmp .ge 26, 3, 66, 0, 0), (.aload_n 0, 1, 0, 0, 0), (.getfield 56, 3, 10, 36, 0), (.bipush 16, 2, 0, 0, 0), (.iload_n 1, 1, 0, 0, 0), (.iadd, 1, 0, 0, 0), (.iconst 0, 1, 0, 0, 0), (.iastore, 1, 0, 0, 0), (.aload_n 0, 1, 0, 0, 0), (.getfield 59, 3, 10, 37, 0), (.iload_n 1, 1, 0, 0, 0), (.iconst 0, 1, 0, 0, 0), (.bastore, 1, 0, 0, 0), (.iinc 1 1, 3, 0, 0, 0), (.goto (-26), 3, 37, 0, 0)]
set_option maxRecDepth 20000 in
theorem hX10_plain_37 : zChk false 10 cX10_plain 37 bX10_plain_37 = true := by decide +kernel
def bX10_plain_66 : List zI := [(.aload_n 0, 1, 0, 0, 0), (.getfield 56, 3, 10, 36, 0), (.bipush 21, 2, 0, 0, 0), (.iconst 2, 1, 0, 0, 0), (.iastore, 1, 0, 0, 0), (.aload_n 0, 1, 0, 0, 0), (.getfield 56, 3, 10, 36, 0), (.bipush 23, 2, 0, 0, 0), (.bipush 10, 2, 0, 0, 0), (.iastore, 1, 0, 0, 0), (.aload_n 0, 1, 0, 0, 0), (.getfield 56, 3, 10, 36, 0), (.bipush 24, 2, 0, 0, 0), (.iconst 3, 1, 0, 0, 0), (.iastore, 1, 0, 0, 0), (.aload_n 0, 1, 0, 0, 0), (.getfield 56, 3, 10, 36, 0), (.bipush 25, 2, 0, 0, 0), (.iconst 5, 1, 0, 0, 0), (.iastore, 1, 0, 0, 0), (.iconst 3, 1, 0, 0, 0), (.istore_n 1, 1, 0, 0, 0)]
set_option maxRecDepth 20000 in
theorem hX10_plain_66 : zChk false 10 cX10_plain 66 bX10_plain_66 = true := by decide +kernel
def bX10_plain_101 : List zI := [(.iload_n 1, 1, 0, 0, 0), (.bipush 6, 2, 0, 0, 0), (.if_icmp .ge 16, 3, 120, 0, 0), (.aload_n 0, 1, 0, 0, 0), (.getfield 63, 3, 10, 38, 0), (.iload_n 1, 1, 0, 0, 0), (.iconst 0, 1, 0, 0, 0), (.bastore, 1, 0, 0, 0), (.iinc 1 1, 3, 0, 0, 0), (.goto (-16), 3, 101, 0, 0)]
set_option maxRecDepth 20000 in
theorem hX10_plain_101 : zChk false 10 cX10_plain 101 bX10_plain_101 = true := by decide +kernel
def bX10_plain_120 : List zI := [(.return_, 1, 0, 0, 0)]
set_option maxRecDepth 20000 in
theorem hX10_plain_120 : zChk false 10 cX10_plain 120 bX10_plain_120 = true := by decide +kernel
def bX10_newName_0 : List zI := [(.aload_n 0, 1, 0, 0, 0), (.getfield 196, 3, 10, 8, 0), (.iconst 2, 1, 0, 0, 0), (.if_icmp .eq 9, 3, 14, 0, 0), (.aload_n 0, 1, 0, 0, 0), (.iconst 1, 1, 0, 0, 0)]
set_option maxRecDepth 20000 in
theorem hX10_newName_0 : zChk false 10 cX10_newName 0 bX10_newName_0 = true := by decide +kernel
def bX10_newName_13 : List zI := [(.ireturn, 1, 0, 0, 0)]
set_option maxRecDepth 20000 in
theorem hX10_newName_13 : zChk false 10 cX10_newName 13 bX10_newName_13 = true := by decide +kernel
def bX10_newName_14 : List zI := [(.aload_n 1, 1, 0, 0, 0), (.iload_n 2, 1, 0, 0, 0), (.iload_n 3, 1, 0, 0, 0), (.aload_n 0, 1, 0, 0, 0), (.getfield 207, 3, 10, 9, 0)]
set_option maxRecDepth 20000 in
theorem hX10_newName_14 : zChk false 10 cX10_newName 14 bX10_newName_14 = true := by decide +kernel
def bX10_newName_24 : List zI := [(.ifCond .lt 9, 3, 33, 0, 0), (.aload_n 0, 1, 0, 0, 0), (.iconst 3, 1, 0, 0, 0)]
set_option maxRecDepth 20000 in
theorem hX10_newName_24 : zChk false 10 cX10_newName 24 bX10_newName_24 = true := by decide +kernel
def bX10_newName_32 : List zI := [(.ireturn, 1, 0, 0, 0)]
set_option maxRecDepth 20000 in
theorem hX10_newName_32 : zChk false 10 cX10_newName 32 bX10_newName_32 = true := by decide +kernel
def bX10_newName_33 : List zI := [(.aload_n 1, 1, 0, 0, 0), (.iload_n 2, 1, 0, 0, 0), (.iload_n 3, 1, 0, 0, 0), (.iadd, 1, 0, 0, 0), (.aload_n 0, 1, 0, 0, 0), (.getfield 207, 3, 10, 9, 0), (.iastore, 1, 0, 0, 0), (.aload_n 0, 1, 0, 0, 0)]
set_option maxRecDepth 20000 in
theorem hX10_newName_33 : zChk false 10 cX10_newName 33 bX10_newName_33 = true := by decide +kernel
def bX10_newName_46 : List zI := [(.iconst 1, 1, 0, 0, 0), (.ireturn, 1, 0, 0, 0)]
set_option maxRecDepth 20000 in
theorem hX10_newName_46 : zChk false 10 cX10_newName 46 bX10_newName_46 = true := by decide +kernel
def bX10_placeLine_0 : List zI := [(.aload_n 0, 1, 0, 0, 0), (.getfield 240, 3, 10, 18, 0), (.iconst 5, 1, 0, 0, 0), (.if_icmp .ne 9, 3, 14, 0, 0), (.aload_n 0, 1, 0, 0, 0), (.iconst 2, 1, 0, 0, 0)]
set_option maxRecDepth 20000 in
theorem hX10_placeLine_0 : zChk false 10 cX10_placeLine 0 bX10_placeLine_0 = true := by decide +kernel
def bX10_placeLine_13 : List zI := [(.ireturn, 1, 0, 0, 0)]
set_option maxRecDepth 20000 in
theorem hX10_placeLine_13 : zChk false 10 cX10_placeLine 13 bX10_placeLine_13 = true := by decide +kernel
def bX10_placeLine_14 : List zI := [(.aload_n 0, 1, 0, 0, 0)]
set_option maxRecDepth 20000 in
theorem hX10_placeLine_14 : zChk false 10 cX10_placeLine 14 bX10_placeLine_14 = true := by decide +kernel
def bX10_placeLine_18 : List zI := [(.iconst 5, 1, 0, 0, 0), (.aload_n 0, 1, 0, 0, 0), (.getfield 240, 3, 10, 18, 0), (.iadd, 1, 0, 0, 0), (.istore_n 1, 1, 0, 0, 0), (.aload_n 0, 1, 0, 0, 0), (.aload_n 0, 1, 0, 0, 0), (.getfield 20, 3, 10, 24, 0), (.iconst 5, 1, 0, 0, 0), (.aload_n 0, 1, 0, 0, 0), (.getfield 240, 3, 10, 18, 0)]
set_option maxRecDepth 20000 in
theorem hX10_placeLine_18 : zChk false 10 cX10_placeLine 18 bX10_placeLine_18 = true := by decide +kernel
def bX10_placeLine_38 : List zI := [(.ifCond .eq 13, 3, 51, 0, 0), (.aload_n 0, 1, 0, 0, 0), (.iconst 0, 1, 0, 0, 0), (.bipush 99, 2, 0, 0, 0)]
set_option maxRecDepth 20000 in
theorem hX10_placeLine_38 : zChk false 10 cX10_placeLine 38 bX10_placeLine_38 = true := by decide +kernel
def bX10_placeLine_48 : List zI := [(.ifCond .ne 5, 3, 53, 0, 0), (.iconst 0, 1, 0, 0, 0), (.ireturn, 1, 0, 0, 0)]
set_option maxRecDepth 20000 in
theorem hX10_placeLine_48 : zChk false 10 cX10_placeLine 48 bX10_placeLine_48 = true := by decide +kernel
def bX10_placeLine_51 : List zI := [(.iconst 0, 1, 0, 0, 0), (.ireturn, 1, 0, 0, 0)]
set_option maxRecDepth 20000 in
theorem hX10_placeLine_51 : zChk false 10 cX10_placeLine 51 bX10_placeLine_51 = true := by decide +kernel
def bX10_placeLine_53 : List zI := [(.aload_n 0, 1, 0, 0, 0), (.getfield 23, 3, 10, 25, 0), (.iload_n 1, 1, 0, 0, 0), (.aload_n 0, 1, 0, 0, 0), (.getfield 227, 3, 10, 11, 0), (.iastore, 1, 0, 0, 0), (.aload_n 0, 1, 0, 0, 0), (.iconst 0, 1, 0, 0, 0), (.bipush 99, 2, 0, 0, 0)]
set_option maxRecDepth 20000 in
theorem hX10_placeLine_53 : zChk false 10 cX10_placeLine 53 bX10_placeLine_53 = true := by decide +kernel
def bX10_placeLine_70 : List zI := [(.ifCond .ne 5, 3, 75, 0, 0), (.iconst 0, 1, 0, 0, 0), (.ireturn, 1, 0, 0, 0)]
set_option maxRecDepth 20000 in
theorem hX10_placeLine_70 : zChk false 10 cX10_placeLine 70 bX10_placeLine_70 = true := by decide +kernel
def bX10_placeLine_75 : List zI := [(.aload_n 0, 1, 0, 0, 0), (.getfield 26, 3, 10, 26, 0), (.iload_n 1, 1, 0, 0, 0), (.aload_n 0, 1, 0, 0, 0), (.getfield 227, 3, 10, 11, 0), (.iastore, 1, 0, 0, 0), (.aload_n 0, 1, 0, 0, 0), (.getfield 29, 3, 10, 27, 0), (.iload_n 1, 1, 0, 0, 0), (.iconst (-1), 1, 0, 0, 0), (.iastore, 1, 0, 0, 0), (.aload_n 0, 1, 0, 0, 0), (.bipush 13, 2, 0, 0, 0)]
set_option maxRecDepth 20000 in
theorem hX10_placeLine_75 : zChk false 10 cX10_placeLine 75 bX10_placeLine_75 = true := by decide +kernel
def bX10_placeLine_98 : List zI := [(.ifCond .eq 29, 3, 127, 0, 0), (.aload_n 0, 1, 0, 0, 0)]
set_option maxRecDepth 20000 in
theorem hX10_placeLine_98 : zChk false 10 cX10_placeLine 98 bX10_placeLine_98 = true := by decide +kernel
def bX10_placeLine_105 : List zI := [(.aload_n 0, 1, 0, 0, 0), (.iconst 0, 1, 0, 0, 0), (.bipush 95, 2, 0, 0, 0)]
set_option maxRecDepth 20000 in
theorem hX10_placeLine_105 : zChk false 10 cX10_placeLine 105 bX10_placeLine_105 = true := by decide +kernel
def bX10_placeLine_112 : List zI := [(.ifCond .ne 5, 3, 117, 0, 0), (.iconst 0, 1, 0, 0, 0), (.ireturn, 1, 0, 0, 0)]
set_option maxRecDepth 20000 in
theorem hX10_placeLine_112 : zChk false 10 cX10_placeLine 112 bX10_placeLine_112 = true := by decide +kernel
def bX10_placeLine_117 : List zI := [(.aload_n 0, 1, 0, 0, 0), (.getfield 29, 3, 10, 27, 0), (.iload_n 1, 1, 0, 0, 0), (.aload_n 0, 1, 0, 0, 0), (.getfield 227, 3, 10, 11, 0), (.iastore, 1, 0, 0, 0), (.aload_n 0, 1, 0, 0, 0), (.dup, 1, 0, 0, 0), (.getfield 240, 3, 10, 18, 0), (.iconst 1, 1, 0, 0, 0), (.iadd, 1, 0, 0, 0), (.putfield 240, 3, 10, 18, 0), (.iconst 1, 1, 0, 0, 0), (.ireturn, 1, 0, 0, 0)]
set_option maxRecDepth 20000 in
theorem hX10_placeLine_117 : zChk false 10 cX10_placeLine 117 bX10_placeLine_117 = true := by decide +kernel
def bX10_placeLine_127 : List zI := [(.aload_n 0, 1, 0, 0, 0), (.dup, 1, 0, 0, 0), (.getfield 240, 3, 10, 18, 0), (.iconst 1, 1, 0, 0, 0), (.iadd, 1, 0, 0, 0), (.putfield 240, 3, 10, 18, 0), (.iconst 1, 1, 0, 0, 0), (.ireturn, 1, 0, 0, 0)]
set_option maxRecDepth 20000 in
theorem hX10_placeLine_127 : zChk false 10 cX10_placeLine 127 bX10_placeLine_127 = true := by decide +kernel
def bX10_skyLine_0 : List zI := [(.aload_n 0, 1, 0, 0, 0), (.getfield 246, 3, 10, 20, 0), (.bipush 12, 2, 0, 0, 0), (.if_icmp .ne 9, 3, 15, 0, 0), (.aload_n 0, 1, 0, 0, 0), (.iconst 2, 1, 0, 0, 0)]
set_option maxRecDepth 20000 in
theorem hX10_skyLine_0 : zChk false 10 cX10_skyLine 0 bX10_skyLine_0 = true := by decide +kernel
def bX10_skyLine_14 : List zI := [(.ireturn, 1, 0, 0, 0)]
set_option maxRecDepth 20000 in
theorem hX10_skyLine_14 : zChk false 10 cX10_skyLine 14 bX10_skyLine_14 = true := by decide +kernel
def bX10_skyLine_15 : List zI := [(.aload_n 0, 1, 0, 0, 0)]
set_option maxRecDepth 20000 in
theorem hX10_skyLine_15 : zChk false 10 cX10_skyLine 15 bX10_skyLine_15 = true := by decide +kernel
def bX10_skyLine_19 : List zI := [(.aload_n 0, 1, 0, 0, 0), (.getfield 187, 3, 10, 10, 0), (.istore_n 1, 1, 0, 0, 0), (.aload_n 0, 1, 0, 0, 0), (.iconst 0, 1, 0, 0, 0), (.bipush 95, 2, 0, 0, 0)]
set_option maxRecDepth 20000 in
theorem hX10_skyLine_19 : zChk false 10 cX10_skyLine 19 bX10_skyLine_19 = true := by decide +kernel
def bX10_skyLine_31 : List zI := [(.ifCond .ne 5, 3, 36, 0, 0), (.iconst 0, 1, 0, 0, 0), (.ireturn, 1, 0, 0, 0)]
set_option maxRecDepth 20000 in
theorem hX10_skyLine_31 : zChk false 10 cX10_skyLine 31 bX10_skyLine_31 = true := by decide +kernel
def bX10_skyLine_36 : List zI := [(.bipush 12, 2, 0, 0, 0), (.istore_n 2, 1, 0, 0, 0)]
set_option maxRecDepth 20000 in
theorem hX10_skyLine_36 : zChk false 10 cX10_skyLine 36 bX10_skyLine_36 = true := by decide +kernel
def bX10_skyLine_39 : List zI := [(.iload_n 2, 1, 0, 0, 0), (.bipush 12, 2, 0, 0, 0), (.aload_n 0, 1, 0, 0, 0), (.getfield 246, 3, 10, 20, 0), (.iadd, 1, 0, 0, 0), (.if_icmp .ge 36, 3, 83, 0, 0), (.aload_n 0, 1, 0, 0, 0), (.getfield 38, 3, 10, 30, 0), (.iload_n 2, 1, 0, 0, 0), (.iaload, 1, 0, 0, 0), (.aload_n 0, 1, 0, 0, 0), (.getfield 227, 3, 10, 11, 0), (.if_icmp .eq 6, 3, 66, 0, 0), (.goto 14, 3, 77, 0, 0)]
set_option maxRecDepth 20000 in
theorem hX10_skyLine_39 : zChk false 10 cX10_skyLine 39 bX10_skyLine_39 = true := by decide +kernel
def bX10_skyLine_66 : List zI := [(.aload_n 0, 1, 0, 0, 0), (.iload_n 1, 1, 0, 0, 0), (.putfield 187, 3, 10, 10, 0), (.aload_n 0, 1, 0, 0, 0), (.iconst 3, 1, 0, 0, 0)]
set_option maxRecDepth 20000 in
theorem hX10_skyLine_66 : zChk false 10 cX10_skyLine 66 bX10_skyLine_66 = true := by decide +kernel
def bX10_skyLine_76 : List zI := [(.ireturn, 1, 0, 0, 0)]
set_option maxRecDepth 20000 in
theorem hX10_skyLine_76 : zChk false 10 cX10_skyLine 76 bX10_skyLine_76 = true := by decide +kernel
def bX10_skyLine_77 : List zI := [(.iinc 2 1, 3, 0, 0, 0), (.goto (-41), 3, 39, 0, 0)]
set_option maxRecDepth 20000 in
theorem hX10_skyLine_77 : zChk false 10 cX10_skyLine 77 bX10_skyLine_77 = true := by decide +kernel
def bX10_skyLine_83 : List zI := [(.aload_n 0, 1, 0, 0, 0), (.getfield 38, 3, 10, 30, 0), (.bipush 12, 2, 0, 0, 0), (.aload_n 0, 1, 0, 0, 0), (.getfield 246, 3, 10, 20, 0), (.iadd, 1, 0, 0, 0), (.aload_n 0, 1, 0, 0, 0), (.getfield 227, 3, 10, 11, 0), (.iastore, 1, 0, 0, 0), (.aload_n 0, 1, 0, 0, 0), (.iconst 0, 1, 0, 0, 0), (.iconst 2, 1, 0, 0, 0)]
set_option maxRecDepth 20000 in
theorem hX10_skyLine_83 : zChk false 10 cX10_skyLine 83 bX10_skyLine_83 = true := by decide +kernel
def bX10_skyLine_105 : List zI := [(.ifCond .ne 5, 3, 110, 0, 0), (.iconst 0, 1, 0, 0, 0), (.ireturn, 1, 0, 0, 0)]
set_option maxRecDepth 20000 in
theorem hX10_skyLine_105 : zChk false 10 cX10_skyLine 105 bX10_skyLine_105 = true := by decide +kernel
def bX10_skyLine_110 : List zI := [(.aload_n 0, 1, 0, 0, 0), (.getfield 41, 3, 10, 31, 0), (.bipush 12, 2, 0, 0, 0), (.aload_n 0, 1, 0, 0, 0), (.getfield 246, 3, 10, 20, 0), (.iadd, 1, 0, 0, 0), (.aload_n 0, 1, 0, 0, 0), (.getfield 227, 3, 10, 11, 0), (.iastore, 1, 0, 0, 0), (.aload_n 0, 1, 0, 0, 0), (.dup, 1, 0, 0, 0), (.getfield 246, 3, 10, 20, 0), (.iconst 1, 1, 0, 0, 0), (.iadd, 1, 0, 0, 0), (.putfield 246, 3, 10, 20, 0), (.iconst 1, 1, 0, 0, 0), (.ireturn, 1, 0, 0, 0)]
set_option maxRecDepth 20000 in
theorem hX10_skyLine_110 : zChk false 10 cX10_skyLine 110 bX10_skyLine_110 = true := by decide +kernel
def bX10_onceLine_0 : List zI := [(.aload_n 0, 1, 0, 0, 0), (.getfield 59, 3, 10, 37, 0), (.iload_n 1, 1, 0, 0, 0), (.baload, 1, 0, 0, 0), (.ifCond .eq 9, 3, 15, 0, 0), (.aload_n 0, 1, 0, 0, 0), (.iconst 3, 1, 0, 0, 0)]
set_option maxRecDepth 20000 in
theorem hX10_onceLine_0 : zChk false 10 cX10_onceLine 0 bX10_onceLine_0 = true := by decide +kernel
def bX10_onceLine_14 : List zI := [(.ireturn, 1, 0, 0, 0)]
set_option maxRecDepth 20000 in
theorem hX10_onceLine_14 : zChk false 10 cX10_onceLine 14 bX10_onceLine_14 = true := by decide +kernel
def bX10_onceLine_15 : List zI := [(.aload_n 0, 1, 0, 0, 0), (.getfield 59, 3, 10, 37, 0), (.iload_n 1, 1, 0, 0, 0), (.iconst 1, 1, 0, 0, 0), (.bastore, 1, 0, 0, 0), (.aload_n 0, 1, 0, 0, 0)]
set_option maxRecDepth 20000 in
theorem hX10_onceLine_15 : zChk false 10 cX10_onceLine 15 bX10_onceLine_15 = true := by decide +kernel
def bX10_onceLine_26 : List zI := [(.iload_n 1, 1, 0, 0, 0), (.bipush 7, 2, 0, 0, 0), (.if_icmp .eq 9, 3, 38, 0, 0), (.iload_n 1, 1, 0, 0, 0), (.bipush 8, 2, 0, 0, 0), (.if_icmp .ne 7, 3, 42, 0, 0), (.iconst 1, 1, 0, 0, 0), (.goto 4, 3, 43, 0, 0)]
set_option maxRecDepth 20000 in
theorem hX10_onceLine_26 : zChk false 10 cX10_onceLine 26 bX10_onceLine_26 = true := by decide +kernel
def bX10_onceLine_38 : List zI := [(.iconst 1, 1, 0, 0, 0), (.goto 4, 3, 43, 0, 0)]
set_option maxRecDepth 20000 in
theorem hX10_onceLine_38 : zChk false 10 cX10_onceLine 38 bX10_onceLine_38 = true := by decide +kernel
def bX10_onceLine_42 : List zI := [(.iconst 0, 1, 0, 0, 0), (.istore_n 2, 1, 0, 0, 0), (.iload_n 1, 1, 0, 0, 0), (.iconst 1, 1, 0, 0, 0), (.if_icmp .eq 9, 3, 55, 0, 0), (.iload_n 1, 1, 0, 0, 0), (.bipush 7, 2, 0, 0, 0), (.if_icmp .ne 8, 3, 60, 0, 0), (.bipush 40, 2, 0, 0, 0), (.goto 27, 3, 84, 0, 0)]
set_option maxRecDepth 20000 in
theorem hX10_onceLine_42 : zChk false 10 cX10_onceLine 42 bX10_onceLine_42 = true := by decide +kernel
def bX10_onceLine_43 : List zI := [(.istore_n 2, 1, 0, 0, 0), (.iload_n 1, 1, 0, 0, 0), (.iconst 1, 1, 0, 0, 0), (.if_icmp .eq 9, 3, 55, 0, 0), (.iload_n 1, 1, 0, 0, 0), (.bipush 7, 2, 0, 0, 0), (.if_icmp .ne 8, 3, 60, 0, 0), (.bipush 40, 2, 0, 0, 0), (.goto 27, 3, 84, 0, 0)]
set_option maxRecDepth 20000 in
theorem hX10_onceLine_43 : zChk false 10 cX10_onceLine 43 bX10_onceLine_43 = true := by decide +kernel
def bX10_onceLine_55 : List zI := [(.bipush 40, 2, 0, 0, 0), (.goto 27, 3, 84, 0, 0)]
set_option maxRecDepth 20000 in
theorem hX10_onceLine_55 : zChk false 10 cX10_onceLine 55 bX10_onceLine_55 = true := by decide +kernel
def bX10_onceLine_60 : List zI := [(.iload_n 1, 1, 0, 0, 0), (.bipush 8, 2, 0, 0, 0), (.if_icmp .ne 8, 3, 71, 0, 0), (.bipush 9, 2, 0, 0, 0), (.goto 16, 3, 84, 0, 0)]
set_option maxRecDepth 20000 in
theorem hX10_onceLine_60 : zChk false 10 cX10_onceLine 60 bX10_onceLine_60 = true := by decide +kernel
def bX10_onceLine_71 : List zI := [(.iload_n 1, 1, 0, 0, 0), (.bipush 10, 2, 0, 0, 0), (.if_icmp .ne 8, 3, 82, 0, 0), (.ldc 216, 2, 0, 0, 99999), (.goto 5, 3, 84, 0, 0)]
set_option maxRecDepth 20000 in
theorem hX10_onceLine_71 : zChk false 10 cX10_onceLine 71 bX10_onceLine_71 = true := by decide +kernel
def bX10_onceLine_82 : List zI := [(.bipush 99, 2, 0, 0, 0), (.istore_n 3, 1, 0, 0, 0), (.aload_n 0, 1, 0, 0, 0), (.iload_n 2, 1, 0, 0, 0), (.iload_n 3, 1, 0, 0, 0)]
set_option maxRecDepth 20000 in
theorem hX10_onceLine_82 : zChk false 10 cX10_onceLine 82 bX10_onceLine_82 = true := by decide +kernel
def bX10_onceLine_84 : List zI := [(.istore_n 3, 1, 0, 0, 0), (.aload_n 0, 1, 0, 0, 0), (.iload_n 2, 1, 0, 0, 0), (.iload_n 3, 1, 0, 0, 0)]
set_option maxRecDepth 20000 in
theorem hX10_onceLine_84 : zChk false 10 cX10_onceLine 84 bX10_onceLine_84 = true := by decide +kernel
def bX10_onceLine_91 : List zI := [(.ifCond .ne 5, 3, 96, 0, 0), (.iconst 0, 1, 0, 0, 0), (.ireturn, 1, 0, 0, 0)]
set_option maxRecDepth 20000 in
theorem hX10_onceLine_91 : zChk false 10 cX10_onceLine 91 bX10_onceLine_91 = true := by decide +kernel
def bX10_onceLine_96 : List zI := [(.aload_n 0, 1, 0, 0, 0), (.getfield 56, 3, 10, 36, 0), (.bipush 16, 2, 0, 0, 0), (.iload_n 1, 1, 0, 0, 0), (.iadd, 1, 0, 0, 0), (.aload_n 0, 1, 0, 0, 0), (.getfield 227, 3, 10, 11, 0), (.iastore, 1, 0, 0, 0), (.iconst 1, 1, 0, 0, 0), (.ireturn, 1, 0, 0, 0)]
set_option maxRecDepth 20000 in
theorem hX10_onceLine_96 : zChk false 10 cX10_onceLine 96 bX10_onceLine_96 = true := by decide +kernel
def bX10_text_0 : List zI := [(.aload_n 0, 1, 0, 0, 0), (.iconst 0, 1, 0, 0, 0), (.putfield 178, 3, 10, 2, 0), (.iload_n 1, 1, 0, 0, 0), (.ifCond .lt 11, 3, 17, 0, 0), (.iload_n 1, 1, 0, 0, 0), (.aload_n 0, 1, 0, 0, 0), (.getfield 181, 3, 10, 1, 0), (.if_icmp .le 6, 3, 20, 0, 0), (.bipush (-2), 2, 0, 0, 0), (.ireturn, 1, 0, 0, 0)]
set_option maxRecDepth 20000 in
theorem hX10_text_0 : zChk false 10 cX10_text 0 bX10_text_0 = true := by decide +kernel
def bX10_text_17 : List zI := [(.bipush (-2), 2, 0, 0, 0), (.ireturn, 1, 0, 0, 0)]
set_option maxRecDepth 20000 in
theorem hX10_text_17 : zChk false 10 cX10_text 17 bX10_text_17 = true := by decide +kernel
def bX10_text_20 : List zI := [(.aload_n 0, 1, 0, 0, 0), (.iload_n 1, 1, 0, 0, 0), (.putfield 190, 3, 10, 6, 0), (.aload_n 0, 1, 0, 0, 0), (.iconst 0, 1, 0, 0, 0), (.putfield 181, 3, 10, 1, 0), (.aload_n 0, 1, 0, 0, 0), (.iconst 0, 1, 0, 0, 0), (.putfield 184, 3, 10, 4, 0), (.aload_n 0, 1, 0, 0, 0), (.iconst (-1), 1, 0, 0, 0), (.putfield 16, 3, 10, 5, 0), (.aload_n 0, 1, 0, 0, 0), (.iconst 0, 1, 0, 0, 0), (.putfield 193, 3, 10, 7, 0), (.aload_n 0, 1, 0, 0, 0)]
set_option maxRecDepth 20000 in
theorem hX10_text_20 : zChk false 10 cX10_text 20 bX10_text_20 = true := by decide +kernel
def bX10_text_49 : List zI := [(.aload_n 0, 1, 0, 0, 0)]
set_option maxRecDepth 20000 in
theorem hX10_text_49 : zChk false 10 cX10_text 49 bX10_text_49 = true := by decide +kernel
def bX10_text_53 : List zI := [(.iconst 0, 1, 0, 0, 0), (.istore_n 2, 1, 0, 0, 0)]
set_option maxRecDepth 20000 in
theorem hX10_text_53 : zChk false 10 cX10_text 53 bX10_text_53 = true := by decide +kernel
def bX10_text_55 : List zI := [(.aload_n 0, 1, 0, 0, 0), (.getfield 196, 3, 10, 8, 0), (.ifCond .eq 18, 3, 77, 0, 0), (.aload_n 0, 1, 0, 0, 0)]
set_option maxRecDepth 20000 in
theorem hX10_text_55 : zChk false 10 cX10_text 55 bX10_text_55 = true := by decide +kernel
def bX10_text_66 : List zI := [(.ifCond .ne 5, 3, 71, 0, 0), (.iconst (-1), 1, 0, 0, 0), (.ireturn, 1, 0, 0, 0)]
set_option maxRecDepth 20000 in
theorem hX10_text_66 : zChk false 10 cX10_text 66 bX10_text_66 = true := by decide +kernel
def bX10_text_71 : List zI := [(.iinc 2 1, 3, 0, 0, 0), (.goto (-19), 3, 55, 0, 0)]
set_option maxRecDepth 20000 in
theorem hX10_text_71 : zChk false 10 cX10_text 71 bX10_text_71 = true := by decide +kernel
def bX10_text_77 : List zI := [(.aload_n 0, 1, 0, 0, 0)]
set_option maxRecDepth 20000 in
theorem hX10_text_77 : zChk false 10 cX10_text 77 bX10_text_77 = true := by decide +kernel
def bX10_text_81 : List zI := [(.iload_n 2, 1, 0, 0, 0), (.ireturn, 1, 0, 0, 0)]
set_option maxRecDepth 20000 in
theorem hX10_text_81 : zChk false 10 cX10_text 81 bX10_text_81 = true := by decide +kernel
def bX10_named_0 : List zI := [(.aload_n 0, 1, 0, 0, 0), (.iconst 0, 1, 0, 0, 0), (.putfield 178, 3, 10, 2, 0), (.iload_n 1, 1, 0, 0, 0), (.ifCond .ne 19, 3, 25, 0, 0), (.aload_n 0, 1, 0, 0, 0), (.getfield 20, 3, 10, 24, 0), (.iconst 0, 1, 0, 0, 0), (.aload_n 0, 1, 0, 0, 0), (.getfield 261, 3, 10, 12, 0), (.iload_n 2, 1, 0, 0, 0)]
set_option maxRecDepth 20000 in
theorem hX10_named_0 : zChk false 10 cX10_named 0 bX10_named_0 = true := by decide +kernel
def bX10_named_22 : List zI := [(.goto 25, 3, 47, 0, 0)]
set_option maxRecDepth 20000 in
theorem hX10_named_22 : zChk false 10 cX10_named 22 bX10_named_22 = true := by decide +kernel
def bX10_named_25 : List zI := [(.iload_n 1, 1, 0, 0, 0), (.iconst 1, 1, 0, 0, 0), (.if_icmp .ne 19, 3, 46, 0, 0), (.aload_n 0, 1, 0, 0, 0), (.getfield 53, 3, 10, 35, 0), (.iconst 0, 1, 0, 0, 0), (.aload_n 0, 1, 0, 0, 0), (.getfield 273, 3, 10, 16, 0), (.iload_n 2, 1, 0, 0, 0)]
set_option maxRecDepth 20000 in
theorem hX10_named_25 : zChk false 10 cX10_named 25 bX10_named_25 = true := by decide +kernel
def bX10_named_43 : List zI := [(.goto 4, 3, 47, 0, 0)]
set_option maxRecDepth 20000 in
theorem hX10_named_43 : zChk false 10 cX10_named 43 bX10_named_43 = true := by decide +kernel
def bX10_named_46 : List zI := [(.iconst (-1), 1, 0, 0, 0), (.ireturn, 1, 0, 0, 0)]
set_option maxRecDepth 20000 in
theorem hX10_named_46 : zChk false 10 cX10_named 46 bX10_named_46 = true := by decide +kernel
def bX10_named_47 : List zI := [(.ireturn, 1, 0, 0, 0)]
set_option maxRecDepth 20000 in
theorem hX10_named_47 : zChk false 10 cX10_named 47 bX10_named_47 = true := by decide +kernel
def bX10_rank_0 : List zI := [(.iload_n 0, 1, 0, 0, 0), (.bipush 13, 2, 0, 0, 0), (.if_icmp .lt 8, 3, 11, 0, 0), (.bipush 6, 2, 0, 0, 0), (.goto 50, 3, 58, 0, 0)]
set_option maxRecDepth 20000 in
theorem hX10_rank_0 : zChk false 10 cX10_rank 0 bX10_rank_0 = true := by decide +kernel
def bX10_rank_11 : List zI := [(.iload_n 0, 1, 0, 0, 0), (.bipush 11, 2, 0, 0, 0), (.if_icmp .lt 7, 3, 21, 0, 0), (.iconst 5, 1, 0, 0, 0), (.goto 40, 3, 58, 0, 0)]
set_option maxRecDepth 20000 in
theorem hX10_rank_11 : zChk false 10 cX10_rank 11 bX10_rank_11 = true := by decide +kernel
def bX10_rank_21 : List zI := [(.iload_n 0, 1, 0, 0, 0), (.iconst 5, 1, 0, 0, 0), (.if_icmp .lt 7, 3, 30, 0, 0), (.iconst 4, 1, 0, 0, 0), (.goto 31, 3, 58, 0, 0)]
set_option maxRecDepth 20000 in
theorem hX10_rank_21 : zChk false 10 cX10_rank 21 bX10_rank_21 = true := by decide +kernel
def bX10_rank_30 : List zI := [(.iload_n 0, 1, 0, 0, 0), (.iconst 2, 1, 0, 0, 0), (.if_icmp .ne 7, 3, 39, 0, 0), (.iconst 3, 1, 0, 0, 0), (.goto 22, 3, 58, 0, 0)]
set_option maxRecDepth 20000 in
theorem hX10_rank_30 : zChk false 10 cX10_rank 30 bX10_rank_30 = true := by decide +kernel
def bX10_rank_39 : List zI := [(.iload_n 0, 1, 0, 0, 0), (.iconst 3, 1, 0, 0, 0), (.if_icmp .ne 7, 3, 48, 0, 0), (.iconst 2, 1, 0, 0, 0), (.goto 13, 3, 58, 0, 0)]
set_option maxRecDepth 20000 in
theorem hX10_rank_39 : zChk false 10 cX10_rank 39 bX10_rank_39 = true := by decide +kernel
def bX10_rank_48 : List zI := [(.iload_n 0, 1, 0, 0, 0), (.iconst 4, 1, 0, 0, 0), (.if_icmp .ne 7, 3, 57, 0, 0), (.iconst 1, 1, 0, 0, 0), (.goto 4, 3, 58, 0, 0)]
set_option maxRecDepth 20000 in
theorem hX10_rank_48 : zChk false 10 cX10_rank 48 bX10_rank_48 = true := by decide +kernel
def bX10_rank_57 : List zI := [(.iconst 0, 1, 0, 0, 0), (.ireturn, 1, 0, 0, 0)]
set_option maxRecDepth 20000 in
theorem hX10_rank_57 : zChk false 10 cX10_rank 57 bX10_rank_57 = true := by decide +kernel
def bX10_rank_58 : List zI := [(.ireturn, 1, 0, 0, 0)]
set_option maxRecDepth 20000 in
theorem hX10_rank_58 : zChk false 10 cX10_rank 58 bX10_rank_58 = true := by decide +kernel
def bX10_waitsFor_0 : List zI := [(.aload_n 0, 1, 0, 0, 0), (.getfield 81, 3, 10, 44, 0), (.aload_n 0, 1, 0, 0, 0), (.getfield 325, 3, 10, 46, 0), (.iload_n 1, 1, 0, 0, 0), (.iastore, 1, 0, 0, 0), (.aload_n 0, 1, 0, 0, 0), (.dup, 1, 0, 0, 0), (.getfield 325, 3, 10, 46, 0), (.iconst 1, 1, 0, 0, 0), (.iadd, 1, 0, 0, 0), (.putfield 325, 3, 10, 46, 0), (.return_, 1, 0, 0, 0)]
set_option maxRecDepth 20000 in
theorem hX10_waitsFor_0 : zChk false 10 cX10_waitsFor 0 bX10_waitsFor_0 = true := by decide +kernel
def bX10_nameMet_0 : List zI := [(.aload_n 0, 1, 0, 0, 0), (.getfield 196, 3, 10, 8, 0), (.iconst 1, 1, 0, 0, 0), (.if_icmp .eq 5, 3, 10, 0, 0), (.iconst (-1), 1, 0, 0, 0), (.ireturn, 1, 0, 0, 0)]
set_option maxRecDepth 20000 in
theorem hX10_nameMet_0 : zChk false 10 cX10_nameMet 0 bX10_nameMet_0 = true := by decide +kernel
def bX10_nameMet_10 : List zI := [(.aload_n 0, 1, 0, 0, 0), (.getfield 207, 3, 10, 9, 0), (.iconst 5, 1, 0, 0, 0), (.if_icmp .ne 8, 3, 23, 0, 0), (.bipush 6, 2, 0, 0, 0), (.goto 37, 3, 57, 0, 0)]
set_option maxRecDepth 20000 in
theorem hX10_nameMet_10 : zChk false 10 cX10_nameMet 10 bX10_nameMet_10 = true := by decide +kernel
def bX10_nameMet_23 : List zI := [(.aload_n 0, 1, 0, 0, 0), (.getfield 207, 3, 10, 9, 0), (.bipush 26, 2, 0, 0, 0), (.if_icmp .ne 8, 3, 37, 0, 0), (.bipush 7, 2, 0, 0, 0), (.goto 23, 3, 57, 0, 0)]
set_option maxRecDepth 20000 in
theorem hX10_nameMet_23 : zChk false 10 cX10_nameMet 23 bX10_nameMet_23 = true := by decide +kernel
def bX10_nameMet_37 : List zI := [(.aload_n 0, 1, 0, 0, 0), (.getfield 207, 3, 10, 9, 0), (.bipush 20, 2, 0, 0, 0), (.if_icmp .lt 13, 3, 56, 0, 0), (.aload_n 0, 1, 0, 0, 0), (.getfield 207, 3, 10, 9, 0), (.bipush 20, 2, 0, 0, 0), (.isub, 1, 0, 0, 0), (.goto 4, 3, 57, 0, 0)]
set_option maxRecDepth 20000 in
theorem hX10_nameMet_37 : zChk false 10 cX10_nameMet 37 bX10_nameMet_37 = true := by decide +kernel
def bX10_nameMet_56 : List zI := [(.iconst (-1), 1, 0, 0, 0), (.ireturn, 1, 0, 0, 0)]
set_option maxRecDepth 20000 in
theorem hX10_nameMet_56 : zChk false 10 cX10_nameMet 56 bX10_nameMet_56 = true := by decide +kernel
def bX10_nameMet_57 : List zI := [(.ireturn, 1, 0, 0, 0)]
set_option maxRecDepth 20000 in
theorem hX10_nameMet_57 : zChk false 10 cX10_nameMet 57 bX10_nameMet_57 = true := by decide +kernel
def bX10_signs_0 : List zI := [(.aload_n 0, 1, 0, 0, 0), (.bipush 41, 2, 0, 0, 0)]
set_option maxRecDepth 20000 in
theorem hX10_signs_0 : zChk false 10 cX10_signs 0 bX10_signs_0 = true := by decide +kernel
def bX10_signs_6 : List zI := [(.ifCond .eq 41, 3, 47, 0, 0), (.aload_n 0, 1, 0, 0, 0), (.getfield 340, 3, 10, 48, 0), (.ifCond .le 34, 3, 47, 0, 0), (.aload_n 0, 1, 0, 0, 0), (.iconst 1, 1, 0, 0, 0)]
set_option maxRecDepth 20000 in
theorem hX10_signs_6 : zChk false 10 cX10_signs 6 bX10_signs_6 = true := by decide +kernel
def bX10_signs_21 : List zI := [(.aload_n 0, 1, 0, 0, 0), (.dup, 1, 0, 0, 0), (.getfield 325, 3, 10, 46, 0), (.iconst 1, 1, 0, 0, 0), (.isub, 1, 0, 0, 0), (.putfield 325, 3, 10, 46, 0), (.aload_n 0, 1, 0, 0, 0), (.dup, 1, 0, 0, 0), (.getfield 340, 3, 10, 48, 0), (.iconst 1, 1, 0, 0, 0), (.isub, 1, 0, 0, 0), (.putfield 340, 3, 10, 48, 0), (.aload_n 0, 1, 0, 0, 0)]
set_option maxRecDepth 20000 in
theorem hX10_signs_21 : zChk false 10 cX10_signs 21 bX10_signs_21 = true := by decide +kernel
def bX10_signs_45 : List zI := [(.iconst 1, 1, 0, 0, 0), (.ireturn, 1, 0, 0, 0)]
set_option maxRecDepth 20000 in
theorem hX10_signs_45 : zChk false 10 cX10_signs 45 bX10_signs_45 = true := by decide +kernel
def bX10_signs_47 : List zI := [(.aload_n 0, 1, 0, 0, 0), (.bipush 17, 2, 0, 0, 0)]
set_option maxRecDepth 20000 in
theorem hX10_signs_47 : zChk false 10 cX10_signs 47 bX10_signs_47 = true := by decide +kernel
def bX10_signs_53 : List zI := [(.ifCond .eq 7, 3, 60, 0, 0), (.iconst 3, 1, 0, 0, 0), (.goto 90, 3, 147, 0, 0)]
set_option maxRecDepth 20000 in
theorem hX10_signs_53 : zChk false 10 cX10_signs 53 bX10_signs_53 = true := by decide +kernel
def bX10_signs_60 : List zI := [(.aload_n 0, 1, 0, 0, 0), (.bipush 18, 2, 0, 0, 0)]
set_option maxRecDepth 20000 in
theorem hX10_signs_60 : zChk false 10 cX10_signs 60 bX10_signs_60 = true := by decide +kernel
def bX10_signs_66 : List zI := [(.ifCond .eq 7, 3, 73, 0, 0), (.iconst 4, 1, 0, 0, 0), (.goto 77, 3, 147, 0, 0)]
set_option maxRecDepth 20000 in
theorem hX10_signs_66 : zChk false 10 cX10_signs 66 bX10_signs_66 = true := by decide +kernel
def bX10_signs_73 : List zI := [(.aload_n 0, 1, 0, 0, 0), (.getfield 196, 3, 10, 8, 0), (.iconst 5, 1, 0, 0, 0), (.if_icmp .ne 12, 3, 90, 0, 0), (.iconst 5, 1, 0, 0, 0), (.aload_n 0, 1, 0, 0, 0), (.getfield 207, 3, 10, 9, 0), (.iadd, 1, 0, 0, 0), (.goto 60, 3, 147, 0, 0)]
set_option maxRecDepth 20000 in
theorem hX10_signs_73 : zChk false 10 cX10_signs 73 bX10_signs_73 = true := by decide +kernel
def bX10_signs_90 : List zI := [(.aload_n 0, 1, 0, 0, 0), (.bipush 43, 2, 0, 0, 0)]
set_option maxRecDepth 20000 in
theorem hX10_signs_90 : zChk false 10 cX10_signs 90 bX10_signs_90 = true := by decide +kernel
def bX10_signs_96 : List zI := [(.ifCond .eq 8, 3, 104, 0, 0), (.bipush 11, 2, 0, 0, 0), (.goto 46, 3, 147, 0, 0)]
set_option maxRecDepth 20000 in
theorem hX10_signs_96 : zChk false 10 cX10_signs 96 bX10_signs_96 = true := by decide +kernel
def bX10_signs_104 : List zI := [(.aload_n 0, 1, 0, 0, 0), (.bipush 45, 2, 0, 0, 0)]
set_option maxRecDepth 20000 in
theorem hX10_signs_104 : zChk false 10 cX10_signs 104 bX10_signs_104 = true := by decide +kernel
def bX10_signs_110 : List zI := [(.ifCond .eq 8, 3, 118, 0, 0), (.bipush 12, 2, 0, 0, 0), (.goto 32, 3, 147, 0, 0)]
set_option maxRecDepth 20000 in
theorem hX10_signs_110 : zChk false 10 cX10_signs 110 bX10_signs_110 = true := by decide +kernel
def bX10_signs_118 : List zI := [(.aload_n 0, 1, 0, 0, 0), (.bipush 42, 2, 0, 0, 0)]
set_option maxRecDepth 20000 in
theorem hX10_signs_118 : zChk false 10 cX10_signs 118 bX10_signs_118 = true := by decide +kernel
def bX10_signs_124 : List zI := [(.ifCond .eq 8, 3, 132, 0, 0), (.bipush 13, 2, 0, 0, 0), (.goto 18, 3, 147, 0, 0)]
set_option maxRecDepth 20000 in
theorem hX10_signs_124 : zChk false 10 cX10_signs 124 bX10_signs_124 = true := by decide +kernel
def bX10_signs_132 : List zI := [(.aload_n 0, 1, 0, 0, 0), (.bipush 47, 2, 0, 0, 0)]
set_option maxRecDepth 20000 in
theorem hX10_signs_132 : zChk false 10 cX10_signs 132 bX10_signs_132 = true := by decide +kernel
def bX10_signs_138 : List zI := [(.ifCond .eq 8, 3, 146, 0, 0), (.bipush 14, 2, 0, 0, 0), (.goto 4, 3, 147, 0, 0)]
set_option maxRecDepth 20000 in
theorem hX10_signs_138 : zChk false 10 cX10_signs 138 bX10_signs_138 = true := by decide +kernel
def bX10_signs_146 : List zI := [(.iconst 0, 1, 0, 0, 0), (.istore_n 1, 1, 0, 0, 0), (.iload_n 1, 1, 0, 0, 0), (.ifCond .ne 9, 3, 158, 0, 0), (.aload_n 0, 1, 0, 0, 0), (.iconst 1, 1, 0, 0, 0)]
set_option maxRecDepth 20000 in
theorem hX10_signs_146 : zChk false 10 cX10_signs 146 bX10_signs_146 = true := by decide +kernel
def bX10_signs_147 : List zI := [(.istore_n 1, 1, 0, 0, 0), (.iload_n 1, 1, 0, 0, 0), (.ifCond .ne 9, 3, 158, 0, 0), (.aload_n 0, 1, 0, 0, 0), (.iconst 1, 1, 0, 0, 0)]
set_option maxRecDepth 20000 in
theorem hX10_signs_147 : zChk false 10 cX10_signs 147 bX10_signs_147 = true := by decide +kernel
def bX10_signs_157 : List zI := [(.ireturn, 1, 0, 0, 0)]
set_option maxRecDepth 20000 in
theorem hX10_signs_157 : zChk false 10 cX10_signs 157 bX10_signs_157 = true := by decide +kernel
def bX10_signs_158 : List zI := [(.aload_n 0, 1, 0, 0, 0), (.iload_n 1, 1, 0, 0, 0)]
set_option maxRecDepth 20000 in
theorem hX10_signs_158 : zChk false 10 cX10_signs 158 bX10_signs_158 = true := by decide +kernel
def bX10_signs_163 : List zI := [(.iconst 4, 1, 0, 0, 0), (.if_icmp .ne 7, 3, 171, 0, 0), (.iconst 5, 1, 0, 0, 0), (.goto 7, 3, 175, 0, 0)]
set_option maxRecDepth 20000 in
theorem hX10_signs_163 : zChk false 10 cX10_signs 163 bX10_signs_163 = true := by decide +kernel
def bX10_signs_171 : List zI := [(.iload_n 1, 1, 0, 0, 0)]
set_option maxRecDepth 20000 in
theorem hX10_signs_171 : zChk false 10 cX10_signs 171 bX10_signs_171 = true := by decide +kernel
def bX10_signs_178 : List zI := [(.iload_n 1, 1, 0, 0, 0)]
set_option maxRecDepth 20000 in
theorem hX10_signs_178 : zChk false 10 cX10_signs 178 bX10_signs_178 = true := by decide +kernel
def bX10_signs_182 : List zI := [(.iconst 4, 1, 0, 0, 0), (.if_icmp .ne 34, 3, 217, 0, 0), (.aload_n 0, 1, 0, 0, 0), (.getfield 325, 3, 10, 46, 0), (.ifCond .le 27, 3, 217, 0, 0), (.aload_n 0, 1, 0, 0, 0), (.getfield 81, 3, 10, 44, 0), (.aload_n 0, 1, 0, 0, 0), (.getfield 325, 3, 10, 46, 0), (.iconst 1, 1, 0, 0, 0), (.isub, 1, 0, 0, 0), (.iaload, 1, 0, 0, 0)]
set_option maxRecDepth 20000 in
theorem hX10_signs_182 : zChk false 10 cX10_signs 182 bX10_signs_182 = true := by decide +kernel
def bX10_signs_207 : List zI := [(.iconst 4, 1, 0, 0, 0), (.if_icmp .ne 9, 3, 217, 0, 0), (.aload_n 0, 1, 0, 0, 0), (.iconst 1, 1, 0, 0, 0)]
set_option maxRecDepth 20000 in
theorem hX10_signs_207 : zChk false 10 cX10_signs 207 bX10_signs_207 = true := by decide +kernel
def bX10_signs_216 : List zI := [(.ireturn, 1, 0, 0, 0)]
set_option maxRecDepth 20000 in
theorem hX10_signs_216 : zChk false 10 cX10_signs 216 bX10_signs_216 = true := by decide +kernel
def bX10_signs_217 : List zI := [(.aload_n 0, 1, 0, 0, 0)]
set_option maxRecDepth 20000 in
theorem hX10_signs_217 : zChk false 10 cX10_signs 217 bX10_signs_217 = true := by decide +kernel
def bX10_signs_221 : List zI := [(.ifCond .ne 5, 3, 226, 0, 0), (.iconst 0, 1, 0, 0, 0), (.ireturn, 1, 0, 0, 0)]
set_option maxRecDepth 20000 in
theorem hX10_signs_221 : zChk false 10 cX10_signs 221 bX10_signs_221 = true := by decide +kernel
def bX10_signs_226 : List zI := [(.aload_n 0, 1, 0, 0, 0), (.iload_n 1, 1, 0, 0, 0)]
set_option maxRecDepth 20000 in
theorem hX10_signs_226 : zChk false 10 cX10_signs 226 bX10_signs_226 = true := by decide +kernel
def bX10_signs_231 : List zI := [(.aload_n 0, 1, 0, 0, 0), (.iconst 1, 1, 0, 0, 0), (.putfield 357, 3, 10, 50, 0), (.aload_n 0, 1, 0, 0, 0), (.iload_n 1, 1, 0, 0, 0)]
set_option maxRecDepth 20000 in
theorem hX10_signs_231 : zChk false 10 cX10_signs 231 bX10_signs_231 = true := by decide +kernel
def bX10_signs_241 : List zI := [(.iconst 3, 1, 0, 0, 0), (.if_icmp .ge 7, 3, 249, 0, 0), (.iconst 1, 1, 0, 0, 0), (.goto 4, 3, 250, 0, 0)]
set_option maxRecDepth 20000 in
theorem hX10_signs_241 : zChk false 10 cX10_signs 241 bX10_signs_241 = true := by decide +kernel
def bX10_signs_249 : List zI := [(.iconst 0, 1, 0, 0, 0), (.putfield 347, 3, 10, 51, 0), (.aload_n 0, 1, 0, 0, 0)]
set_option maxRecDepth 20000 in
theorem hX10_signs_249 : zChk false 10 cX10_signs 249 bX10_signs_249 = true := by decide +kernel
def bX10_signs_250 : List zI := [(.putfield 347, 3, 10, 51, 0), (.aload_n 0, 1, 0, 0, 0)]
set_option maxRecDepth 20000 in
theorem hX10_signs_250 : zChk false 10 cX10_signs 250 bX10_signs_250 = true := by decide +kernel
def bX10_signs_257 : List zI := [(.iconst 1, 1, 0, 0, 0), (.ireturn, 1, 0, 0, 0)]
set_option maxRecDepth 20000 in
theorem hX10_signs_257 : zChk false 10 cX10_signs 257 bX10_signs_257 = true := by decide +kernel
def bX10_sumRead_0 : List zI := [(.aload_n 0, 1, 0, 0, 0), (.iconst 0, 1, 0, 0, 0), (.putfield 325, 3, 10, 46, 0), (.aload_n 0, 1, 0, 0, 0), (.iconst 0, 1, 0, 0, 0), (.putfield 322, 3, 10, 47, 0), (.aload_n 0, 1, 0, 0, 0), (.iconst 0, 1, 0, 0, 0), (.putfield 340, 3, 10, 48, 0), (.aload_n 0, 1, 0, 0, 0), (.iconst 1, 1, 0, 0, 0), (.putfield 357, 3, 10, 50, 0), (.aload_n 0, 1, 0, 0, 0), (.iconst 1, 1, 0, 0, 0), (.putfield 347, 3, 10, 51, 0)]
set_option maxRecDepth 20000 in
theorem hX10_sumRead_0 : zChk false 10 cX10_sumRead 0 bX10_sumRead_0 = true := by decide +kernel
def bX10_sumRead_25 : List zI := [(.aload_n 0, 1, 0, 0, 0), (.bipush 59, 2, 0, 0, 0)]
set_option maxRecDepth 20000 in
theorem hX10_sumRead_25 : zChk false 10 cX10_sumRead 25 bX10_sumRead_25 = true := by decide +kernel
def bX10_sumRead_31 : List zI := [(.ifCond .eq 17, 3, 48, 0, 0), (.aload_n 0, 1, 0, 0, 0), (.getfield 357, 3, 10, 50, 0), (.ifCond .ne 10, 3, 48, 0, 0), (.aload_n 0, 1, 0, 0, 0), (.getfield 340, 3, 10, 48, 0), (.ifCond .le 29, 3, 74, 0, 0), (.aload_n 0, 1, 0, 0, 0), (.getfield 357, 3, 10, 50, 0), (.ifCond .eq 13, 3, 65, 0, 0), (.aload_n 0, 1, 0, 0, 0)]
set_option maxRecDepth 20000 in
theorem hX10_sumRead_31 : zChk false 10 cX10_sumRead 31 bX10_sumRead_31 = true := by decide +kernel
def bX10_sumRead_48 : List zI := [(.aload_n 0, 1, 0, 0, 0), (.getfield 357, 3, 10, 50, 0), (.ifCond .eq 13, 3, 65, 0, 0), (.aload_n 0, 1, 0, 0, 0)]
set_option maxRecDepth 20000 in
theorem hX10_sumRead_48 : zChk false 10 cX10_sumRead 48 bX10_sumRead_48 = true := by decide +kernel
def bX10_sumRead_59 : List zI := [(.ifCond .eq 13, 3, 72, 0, 0), (.goto (-37), 3, 25, 0, 0)]
set_option maxRecDepth 20000 in
theorem hX10_sumRead_59 : zChk false 10 cX10_sumRead 59 bX10_sumRead_59 = true := by decide +kernel
def bX10_sumRead_65 : List zI := [(.aload_n 0, 1, 0, 0, 0)]
set_option maxRecDepth 20000 in
theorem hX10_sumRead_65 : zChk false 10 cX10_sumRead 65 bX10_sumRead_65 = true := by decide +kernel
def bX10_sumRead_69 : List zI := [(.ifCond .ne (-44), 3, 25, 0, 0), (.iconst 0, 1, 0, 0, 0), (.ireturn, 1, 0, 0, 0)]
set_option maxRecDepth 20000 in
theorem hX10_sumRead_69 : zChk false 10 cX10_sumRead 69 bX10_sumRead_69 = true := by decide +kernel
def bX10_sumRead_72 : List zI := [(.iconst 0, 1, 0, 0, 0), (.ireturn, 1, 0, 0, 0)]
set_option maxRecDepth 20000 in
theorem hX10_sumRead_72 : zChk false 10 cX10_sumRead 72 bX10_sumRead_72 = true := by decide +kernel
def bX10_sumRead_74 : List zI := [(.aload_n 0, 1, 0, 0, 0), (.iconst 1, 1, 0, 0, 0)]
set_option maxRecDepth 20000 in
theorem hX10_sumRead_74 : zChk false 10 cX10_sumRead 74 bX10_sumRead_74 = true := by decide +kernel
def bX10_sumRead_79 : List zI := [(.iconst 1, 1, 0, 0, 0), (.ireturn, 1, 0, 0, 0)]
set_option maxRecDepth 20000 in
theorem hX10_sumRead_79 : zChk false 10 cX10_sumRead 79 bX10_sumRead_79 = true := by decide +kernel
def bX10_times_0 : List zI := [(.lload_n 1, 1, 0, 0, 0), (.lconst 0, 1, 0, 0, 0), (.lcmp, 1, 0, 0, 0), (.ifCond .eq 45, 3, 48, 0, 0), (.lload_n 3, 1, 0, 0, 0), (.lconst 0, 1, 0, 0, 0), (.lcmp, 1, 0, 0, 0), (.ifCond .eq 39, 3, 48, 0, 0), (.lload_n 3, 1, 0, 0, 0), (.lconst 0, 1, 0, 0, 0), (.lcmp, 1, 0, 0, 0), (.ifCond .ge 8, 3, 23, 0, 0), (.lload_n 3, 1, 0, 0, 0), (.lneg, 1, 0, 0, 0), (.goto 4, 3, 24, 0, 0)]
set_option maxRecDepth 20000 in
theorem hX10_times_0 : zChk false 10 cX10_times 0 bX10_times_0 = true := by decide +kernel
def bX10_times_23 : List zI := [(.lload_n 3, 1, 0, 0, 0), (.ldc2_w 371, 3, 0, 0, 1000000000000), (.lload_n 1, 1, 0, 0, 0), (.lconst 0, 1, 0, 0, 0), (.lcmp, 1, 0, 0, 0), (.ifCond .ge 8, 3, 38, 0, 0), (.lload_n 1, 1, 0, 0, 0), (.lneg, 1, 0, 0, 0), (.goto 4, 3, 39, 0, 0)]
set_option maxRecDepth 20000 in
theorem hX10_times_23 : zChk false 10 cX10_times 23 bX10_times_23 = true := by decide +kernel
def bX10_times_24 : List zI := [(.ldc2_w 371, 3, 0, 0, 1000000000000), (.lload_n 1, 1, 0, 0, 0), (.lconst 0, 1, 0, 0, 0), (.lcmp, 1, 0, 0, 0), (.ifCond .ge 8, 3, 38, 0, 0), (.lload_n 1, 1, 0, 0, 0), (.lneg, 1, 0, 0, 0), (.goto 4, 3, 39, 0, 0)]
set_option maxRecDepth 20000 in
theorem hX10_times_24 : zChk false 10 cX10_times 24 bX10_times_24 = true := by decide +kernel
def bX10_times_38 : List zI := [(.lload_n 1, 1, 0, 0, 0), (.ldiv, 1, 0, 0, 0), (.lcmp, 1, 0, 0, 0), (.ifCond .le 7, 3, 48, 0, 0), (.iconst 1, 1, 0, 0, 0), (.goto 4, 3, 49, 0, 0)]
set_option maxRecDepth 20000 in
theorem hX10_times_38 : zChk false 10 cX10_times 38 bX10_times_38 = true := by decide +kernel
def bX10_times_39 : List zI := [(.ldiv, 1, 0, 0, 0), (.lcmp, 1, 0, 0, 0), (.ifCond .le 7, 3, 48, 0, 0), (.iconst 1, 1, 0, 0, 0), (.goto 4, 3, 49, 0, 0)]
set_option maxRecDepth 20000 in
theorem hX10_times_39 : zChk false 10 cX10_times 39 bX10_times_39 = true := by decide +kernel
def bX10_times_48 : List zI := [(.iconst 0, 1, 0, 0, 0), (.istore 5, 2, 0, 0, 0), (.aload_n 0, 1, 0, 0, 0), (.aload_n 0, 1, 0, 0, 0), (.getfield 368, 3, 10, 54, 0), (.ifCond .ne 8, 3, 64, 0, 0), (.iload 5, 2, 0, 0, 0), (.ifCond .eq 7, 3, 68, 0, 0), (.iconst 1, 1, 0, 0, 0), (.goto 4, 3, 69, 0, 0)]
set_option maxRecDepth 20000 in
theorem hX10_times_48 : zChk false 10 cX10_times 48 bX10_times_48 = true := by decide +kernel
def bX10_times_49 : List zI := [(.istore 5, 2, 0, 0, 0), (.aload_n 0, 1, 0, 0, 0), (.aload_n 0, 1, 0, 0, 0), (.getfield 368, 3, 10, 54, 0), (.ifCond .ne 8, 3, 64, 0, 0), (.iload 5, 2, 0, 0, 0), (.ifCond .eq 7, 3, 68, 0, 0), (.iconst 1, 1, 0, 0, 0), (.goto 4, 3, 69, 0, 0)]
set_option maxRecDepth 20000 in
theorem hX10_times_49 : zChk false 10 cX10_times 49 bX10_times_49 = true := by decide +kernel
def bX10_times_64 : List zI := [(.iconst 1, 1, 0, 0, 0), (.goto 4, 3, 69, 0, 0)]
set_option maxRecDepth 20000 in
theorem hX10_times_64 : zChk false 10 cX10_times 64 bX10_times_64 = true := by decide +kernel
def bX10_times_68 : List zI := [(.iconst 0, 1, 0, 0, 0), (.putfield 368, 3, 10, 54, 0), (.aload_n 0, 1, 0, 0, 0), (.getfield 368, 3, 10, 54, 0), (.ifCond .eq 7, 3, 83, 0, 0), (.lconst 0, 1, 0, 0, 0), (.goto 6, 3, 86, 0, 0)]
set_option maxRecDepth 20000 in
theorem hX10_times_68 : zChk false 10 cX10_times 68 bX10_times_68 = true := by decide +kernel
def bX10_times_69 : List zI := [(.putfield 368, 3, 10, 54, 0), (.aload_n 0, 1, 0, 0, 0), (.getfield 368, 3, 10, 54, 0), (.ifCond .eq 7, 3, 83, 0, 0), (.lconst 0, 1, 0, 0, 0), (.goto 6, 3, 86, 0, 0)]
set_option maxRecDepth 20000 in
theorem hX10_times_69 : zChk false 10 cX10_times 69 bX10_times_69 = true := by decide +kernel
def bX10_times_83 : List zI := [(.lload_n 1, 1, 0, 0, 0), (.lload_n 3, 1, 0, 0, 0), (.lmul, 1, 0, 0, 0), (.lreturn, 1, 0, 0, 0)]
set_option maxRecDepth 20000 in
theorem hX10_times_83 : zChk false 10 cX10_times 83 bX10_times_83 = true := by decide +kernel
def bX10_times_86 : List zI := [(.lreturn, 1, 0, 0, 0)]
set_option maxRecDepth 20000 in
theorem hX10_times_86 : zChk false 10 cX10_times 86 bX10_times_86 = true := by decide +kernel
def bX10_valueOf_0 : List zI := [(.aload_n 0, 1, 0, 0, 0), (.getfield 72, 3, 10, 41, 0), (.iload_n 1, 1, 0, 0, 0), (.iaload, 1, 0, 0, 0), (.ifCond .ne 11, 3, 17, 0, 0), (.aload_n 0, 1, 0, 0, 0), (.getfield 75, 3, 10, 42, 0), (.iload_n 1, 1, 0, 0, 0), (.iaload, 1, 0, 0, 0), (.i2l, 1, 0, 0, 0), (.lreturn, 1, 0, 0, 0)]
set_option maxRecDepth 20000 in
theorem hX10_valueOf_0 : zChk false 10 cX10_valueOf 0 bX10_valueOf_0 = true := by decide +kernel
def bX10_valueOf_17 : List zI := [(.aload_n 0, 1, 0, 0, 0), (.getfield 72, 3, 10, 41, 0), (.iload_n 1, 1, 0, 0, 0), (.iaload, 1, 0, 0, 0), (.iconst 1, 1, 0, 0, 0), (.if_icmp .ne 15, 3, 39, 0, 0), (.aload_n 0, 1, 0, 0, 0), (.getfield 87, 3, 10, 52, 0), (.aload_n 0, 1, 0, 0, 0), (.getfield 75, 3, 10, 42, 0), (.iload_n 1, 1, 0, 0, 0), (.iaload, 1, 0, 0, 0), (.laload, 1, 0, 0, 0), (.lreturn, 1, 0, 0, 0)]
set_option maxRecDepth 20000 in
theorem hX10_valueOf_17 : zChk false 10 cX10_valueOf 17 bX10_valueOf_17 = true := by decide +kernel
def bX10_valueOf_39 : List zI := [(.aload_n 0, 1, 0, 0, 0), (.getfield 91, 3, 10, 53, 0), (.aload_n 0, 1, 0, 0, 0), (.getfield 75, 3, 10, 42, 0), (.iload_n 1, 1, 0, 0, 0), (.iaload, 1, 0, 0, 0), (.laload, 1, 0, 0, 0), (.lstore_n 2, 1, 0, 0, 0), (.aload_n 0, 1, 0, 0, 0), (.getfield 72, 3, 10, 41, 0), (.iload_n 1, 1, 0, 0, 0), (.iaload, 1, 0, 0, 0), (.iconst 2, 1, 0, 0, 0), (.if_icmp .ne 15, 3, 73, 0, 0), (.lload_n 2, 1, 0, 0, 0), (.lconst 0, 1, 0, 0, 0), (.lcmp, 1, 0, 0, 0), (.ifCond .ne 7, 3, 71, 0, 0), (.lconst 1, 1, 0, 0, 0), (.goto 4, 3, 72, 0, 0)]
set_option maxRecDepth 20000 in
theorem hX10_valueOf_39 : zChk false 10 cX10_valueOf 39 bX10_valueOf_39 = true := by decide +kernel
def bX10_valueOf_71 : List zI := [(.lconst 0, 1, 0, 0, 0), (.lreturn, 1, 0, 0, 0)]
set_option maxRecDepth 20000 in
theorem hX10_valueOf_71 : zChk false 10 cX10_valueOf 71 bX10_valueOf_71 = true := by decide +kernel
def bX10_valueOf_72 : List zI := [(.lreturn, 1, 0, 0, 0)]
set_option maxRecDepth 20000 in
theorem hX10_valueOf_72 : zChk false 10 cX10_valueOf 72 bX10_valueOf_72 = true := by decide +kernel
def bX10_valueOf_73 : List zI := [(.aload_n 0, 1, 0, 0, 0), (.getfield 91, 3, 10, 53, 0), (.aload_n 0, 1, 0, 0, 0), (.getfield 78, 3, 10, 43, 0), (.iload_n 1, 1, 0, 0, 0), (.iaload, 1, 0, 0, 0), (.laload, 1, 0, 0, 0), (.lstore 4, 2, 0, 0, 0), (.aload_n 0, 1, 0, 0, 0), (.getfield 72, 3, 10, 41, 0), (.iload_n 1, 1, 0, 0, 0), (.iaload, 1, 0, 0, 0)]
set_option maxRecDepth 20000 in
theorem hX10_valueOf_73 : zChk false 10 cX10_valueOf 73 bX10_valueOf_73 = true := by decide +kernel
def bX10_valueOf_156 : List zI := [(.lload_n 2, 1, 0, 0, 0), (.lconst 0, 1, 0, 0, 0), (.lcmp, 1, 0, 0, 0), (.ifCond .eq 14, 3, 173, 0, 0), (.lload 4, 2, 0, 0, 0), (.lconst 0, 1, 0, 0, 0), (.lcmp, 1, 0, 0, 0), (.ifCond .eq 7, 3, 173, 0, 0), (.lconst 1, 1, 0, 0, 0), (.goto 4, 3, 174, 0, 0)]
set_option maxRecDepth 20000 in
theorem hX10_valueOf_156 : zChk false 10 cX10_valueOf 156 bX10_valueOf_156 = true := by decide +kernel
def bX10_valueOf_173 : List zI := [(.lconst 0, 1, 0, 0, 0), (.lreturn, 1, 0, 0, 0)]
set_option maxRecDepth 20000 in
theorem hX10_valueOf_173 : zChk false 10 cX10_valueOf 173 bX10_valueOf_173 = true := by decide +kernel
def bX10_valueOf_174 : List zI := [(.lreturn, 1, 0, 0, 0)]
set_option maxRecDepth 20000 in
theorem hX10_valueOf_174 : zChk false 10 cX10_valueOf 174 bX10_valueOf_174 = true := by decide +kernel
def bX10_valueOf_175 : List zI := [(.lload_n 2, 1, 0, 0, 0), (.lconst 0, 1, 0, 0, 0), (.lcmp, 1, 0, 0, 0), (.ifCond .ne 10, 3, 188, 0, 0), (.lload 4, 2, 0, 0, 0), (.lconst 0, 1, 0, 0, 0), (.lcmp, 1, 0, 0, 0), (.ifCond .eq 7, 3, 192, 0, 0), (.lconst 1, 1, 0, 0, 0), (.goto 4, 3, 193, 0, 0)]
set_option maxRecDepth 20000 in
theorem hX10_valueOf_175 : zChk false 10 cX10_valueOf 175 bX10_valueOf_175 = true := by decide +kernel
def bX10_valueOf_188 : List zI := [(.lconst 1, 1, 0, 0, 0), (.goto 4, 3, 193, 0, 0)]
set_option maxRecDepth 20000 in
theorem hX10_valueOf_188 : zChk false 10 cX10_valueOf 188 bX10_valueOf_188 = true := by decide +kernel
def bX10_valueOf_192 : List zI := [(.lconst 0, 1, 0, 0, 0), (.lreturn, 1, 0, 0, 0)]
set_option maxRecDepth 20000 in
theorem hX10_valueOf_192 : zChk false 10 cX10_valueOf 192 bX10_valueOf_192 = true := by decide +kernel
def bX10_valueOf_193 : List zI := [(.lreturn, 1, 0, 0, 0)]
set_option maxRecDepth 20000 in
theorem hX10_valueOf_193 : zChk false 10 cX10_valueOf 193 bX10_valueOf_193 = true := by decide +kernel
def bX10_valueOf_194 : List zI := [(.aload_n 0, 1, 0, 0, 0), (.lload_n 2, 1, 0, 0, 0), (.lload 4, 2, 0, 0, 0), (.ladd, 1, 0, 0, 0)]
set_option maxRecDepth 20000 in
theorem hX10_valueOf_194 : zChk false 10 cX10_valueOf 194 bX10_valueOf_194 = true := by decide +kernel
def bX10_valueOf_202 : List zI := [(.lreturn, 1, 0, 0, 0)]
set_option maxRecDepth 20000 in
theorem hX10_valueOf_202 : zChk false 10 cX10_valueOf 202 bX10_valueOf_202 = true := by decide +kernel
def bX10_valueOf_203 : List zI := [(.aload_n 0, 1, 0, 0, 0), (.lload_n 2, 1, 0, 0, 0), (.lload 4, 2, 0, 0, 0), (.lsub, 1, 0, 0, 0)]
set_option maxRecDepth 20000 in
theorem hX10_valueOf_203 : zChk false 10 cX10_valueOf 203 bX10_valueOf_203 = true := by decide +kernel
def bX10_valueOf_211 : List zI := [(.lreturn, 1, 0, 0, 0)]
set_option maxRecDepth 20000 in
theorem hX10_valueOf_211 : zChk false 10 cX10_valueOf 211 bX10_valueOf_211 = true := by decide +kernel
def bX10_valueOf_212 : List zI := [(.aload_n 0, 1, 0, 0, 0), (.lload_n 2, 1, 0, 0, 0), (.lload 4, 2, 0, 0, 0)]
set_option maxRecDepth 20000 in
theorem hX10_valueOf_212 : zChk false 10 cX10_valueOf 212 bX10_valueOf_212 = true := by decide +kernel
def bX10_valueOf_219 : List zI := [(.lreturn, 1, 0, 0, 0)]
set_option maxRecDepth 20000 in
theorem hX10_valueOf_219 : zChk false 10 cX10_valueOf 219 bX10_valueOf_219 = true := by decide +kernel
def bX10_valueOf_220 : List zI := [(.aload_n 0, 1, 0, 0, 0), (.aload_n 0, 1, 0, 0, 0), (.getfield 368, 3, 10, 54, 0), (.ifCond .ne 10, 3, 235, 0, 0), (.lload 4, 2, 0, 0, 0), (.lconst 0, 1, 0, 0, 0), (.lcmp, 1, 0, 0, 0), (.ifCond .ne 7, 3, 239, 0, 0), (.iconst 1, 1, 0, 0, 0), (.goto 4, 3, 240, 0, 0)]
set_option maxRecDepth 20000 in
theorem hX10_valueOf_220 : zChk false 10 cX10_valueOf 220 bX10_valueOf_220 = true := by decide +kernel
def bX10_valueOf_235 : List zI := [(.iconst 1, 1, 0, 0, 0), (.goto 4, 3, 240, 0, 0)]
set_option maxRecDepth 20000 in
theorem hX10_valueOf_235 : zChk false 10 cX10_valueOf 235 bX10_valueOf_235 = true := by decide +kernel
def bX10_valueOf_239 : List zI := [(.iconst 0, 1, 0, 0, 0), (.putfield 368, 3, 10, 54, 0), (.aload_n 0, 1, 0, 0, 0), (.getfield 368, 3, 10, 54, 0), (.ifCond .eq 7, 3, 254, 0, 0), (.lconst 0, 1, 0, 0, 0), (.goto 7, 3, 258, 0, 0)]
set_option maxRecDepth 20000 in
theorem hX10_valueOf_239 : zChk false 10 cX10_valueOf 239 bX10_valueOf_239 = true := by decide +kernel
def bX10_valueOf_240 : List zI := [(.putfield 368, 3, 10, 54, 0), (.aload_n 0, 1, 0, 0, 0), (.getfield 368, 3, 10, 54, 0), (.ifCond .eq 7, 3, 254, 0, 0), (.lconst 0, 1, 0, 0, 0), (.goto 7, 3, 258, 0, 0)]
set_option maxRecDepth 20000 in
theorem hX10_valueOf_240 : zChk false 10 cX10_valueOf 240 bX10_valueOf_240 = true := by decide +kernel
def bX10_valueOf_254 : List zI := [(.lload_n 2, 1, 0, 0, 0), (.lload 4, 2, 0, 0, 0), (.ldiv, 1, 0, 0, 0), (.lreturn, 1, 0, 0, 0)]
set_option maxRecDepth 20000 in
theorem hX10_valueOf_254 : zChk false 10 cX10_valueOf 254 bX10_valueOf_254 = true := by decide +kernel
def bX10_valueOf_258 : List zI := [(.lreturn, 1, 0, 0, 0)]
set_option maxRecDepth 20000 in
theorem hX10_valueOf_258 : zChk false 10 cX10_valueOf 258 bX10_valueOf_258 = true := by decide +kernel
def bX10_valueOf_259 : List zI := [(.aload_n 0, 1, 0, 0, 0), (.getfield 72, 3, 10, 41, 0), (.iload_n 1, 1, 0, 0, 0), (.iaload, 1, 0, 0, 0), (.lload_n 2, 1, 0, 0, 0), (.lload 4, 2, 0, 0, 0)]
set_option maxRecDepth 20000 in
theorem hX10_valueOf_259 : zChk false 10 cX10_valueOf 259 bX10_valueOf_259 = true := by decide +kernel
def bX10_valueOf_271 : List zI := [(.ifCond .eq 7, 3, 278, 0, 0), (.lconst 1, 1, 0, 0, 0), (.goto 4, 3, 279, 0, 0)]
set_option maxRecDepth 20000 in
theorem hX10_valueOf_271 : zChk false 10 cX10_valueOf 271 bX10_valueOf_271 = true := by decide +kernel
def bX10_valueOf_278 : List zI := [(.lconst 0, 1, 0, 0, 0), (.lreturn, 1, 0, 0, 0)]
set_option maxRecDepth 20000 in
theorem hX10_valueOf_278 : zChk false 10 cX10_valueOf 278 bX10_valueOf_278 = true := by decide +kernel
def bX10_valueOf_279 : List zI := [(.lreturn, 1, 0, 0, 0)]
set_option maxRecDepth 20000 in
theorem hX10_valueOf_279 : zChk false 10 cX10_valueOf 279 bX10_valueOf_279 = true := by decide +kernel
def bX10_plainRun_0 : List zI := [(.aload_n 0, 1, 0, 0, 0), (.aload_n 0, 1, 0, 0, 0), (.getfield 56, 3, 10, 36, 0), (.iconst 5, 1, 0, 0, 0), (.iaload, 1, 0, 0, 0), (.putfield 408, 3, 10, 67, 0), (.aload_n 0, 1, 0, 0, 0), (.iconst 0, 1, 0, 0, 0), (.putfield 411, 3, 10, 68, 0), (.aload_n 0, 1, 0, 0, 0), (.iconst 0, 1, 0, 0, 0), (.putfield 414, 3, 10, 69, 0), (.aload_n 0, 1, 0, 0, 0), (.iconst 0, 1, 0, 0, 0), (.putfield 417, 3, 10, 70, 0), (.aload_n 0, 1, 0, 0, 0), (.iconst 0, 1, 0, 0, 0), (.putfield 420, 3, 10, 71, 0), (.aload_n 0, 1, 0, 0, 0), (.iconst (-1), 1, 0, 0, 0), (.putfield 423, 3, 10, 72, 0), (.aload_n 0, 1, 0, 0, 0), (.iconst (-1), 1, 0, 0, 0), (.putfield 426, 3, 10, 73, 0), (.aload_n 0, 1, 0, 0, 0), (.iconst 0, 1, 0, 0, 0), (.putfield 429, 3, 10, 74, 0), (.aload_n 0, 1, 0, 0, 0), (.aload_n 0, 1, 0, 0, 0), (.getfield 393, 3, 10, 64, 0), (.putfield 432, 3, 10, 75, 0), (.aload_n 0, 1, 0, 0, 0), (.aload_n 0, 1, 0, 0, 0), (.getfield 396, 3, 10, 65, 0), (.putfield 435, 3, 10, 76, 0), (.iconst 0, 1, 0, 0, 0), (.istore_n 1, 1, 0, 0, 0)]
set_option maxRecDepth 20000 in
theorem hX10_plainRun_0 : zChk false 10 cX10_plainRun 0 bX10_plainRun_0 = true := by decide +kernel
def bX10_plainRun_63 : List zI := [(.iload_n 1, 1, 0, 0, 0), (.bipush 8, 2, 0, 0, 0), (.if_icmp .ge 21, 3, 87, 0, 0), (.aload_n 0, 1, 0, 0, 0), (.getfield 118, 3, 10, 77, 0), (.iload_n 1, 1, 0, 0, 0), (.aload_n 0, 1, 0, 0, 0), (.getfield 115, 3, 10, 66, 0), (.iload_n 1, 1, 0, 0, 0), (.iaload, 1, 0, 0, 0), (.iastore, 1, 0, 0, 0), (.iinc 1 1, 3, 0, 0, 0), (.goto (-21), 3, 63, 0, 0)]
set_option maxRecDepth 20000 in
theorem hX10_plainRun_63 : zChk false 10 cX10_plainRun 63 bX10_plainRun_63 = true := by decide +kernel
def bX10_plainRun_87 : List zI := [(.return_, 1, 0, 0, 0)]
set_option maxRecDepth 20000 in
theorem hX10_plainRun_87 : zChk false 10 cX10_plainRun 87 bX10_plainRun_87 = true := by decide +kernel
def bX10_skyOn_0 : List zI := [(.iconst (-1), 1, 0, 0, 0), (.istore_n 2, 1, 0, 0, 0), (.iconst 0, 1, 0, 0, 0), (.istore_n 3, 1, 0, 0, 0), (.iconst 0, 1, 0, 0, 0), (.istore 4, 2, 0, 0, 0)]
set_option maxRecDepth 20000 in
theorem hX10_skyOn_0 : zChk false 10 cX10_skyOn 0 bX10_skyOn_0 = true := by decide +kernel
def bX10_skyOn_7 : List zI := [(.iload 4, 2, 0, 0, 0), (.aload_n 0, 1, 0, 0, 0), (.getfield 267, 3, 10, 14, 0), (.if_icmp .ge 50, 3, 63, 0, 0), (.aload_n 0, 1, 0, 0, 0), (.getfield 38, 3, 10, 30, 0), (.iload 4, 2, 0, 0, 0), (.iaload, 1, 0, 0, 0), (.iload_n 1, 1, 0, 0, 0), (.if_icmp .gt 33, 3, 57, 0, 0), (.aload_n 0, 1, 0, 0, 0), (.getfield 38, 3, 10, 30, 0), (.iload 4, 2, 0, 0, 0), (.iaload, 1, 0, 0, 0), (.iload_n 2, 1, 0, 0, 0), (.if_icmp .ge 6, 3, 41, 0, 0), (.goto 19, 3, 57, 0, 0)]
set_option maxRecDepth 20000 in
theorem hX10_skyOn_7 : zChk false 10 cX10_skyOn 7 bX10_skyOn_7 = true := by decide +kernel
def bX10_skyOn_41 : List zI := [(.aload_n 0, 1, 0, 0, 0), (.getfield 38, 3, 10, 30, 0), (.iload 4, 2, 0, 0, 0), (.iaload, 1, 0, 0, 0), (.istore_n 2, 1, 0, 0, 0), (.aload_n 0, 1, 0, 0, 0), (.getfield 41, 3, 10, 31, 0), (.iload 4, 2, 0, 0, 0), (.iaload, 1, 0, 0, 0), (.istore_n 3, 1, 0, 0, 0), (.iinc 4 1, 3, 0, 0, 0), (.goto (-53), 3, 7, 0, 0)]
set_option maxRecDepth 20000 in
theorem hX10_skyOn_41 : zChk false 10 cX10_skyOn 41 bX10_skyOn_41 = true := by decide +kernel
def bX10_skyOn_57 : List zI := [(.iinc 4 1, 3, 0, 0, 0), (.goto (-53), 3, 7, 0, 0)]
set_option maxRecDepth 20000 in
theorem hX10_skyOn_57 : zChk false 10 cX10_skyOn 57 bX10_skyOn_57 = true := by decide +kernel
def bX10_skyOn_63 : List zI := [(.aload_n 0, 1, 0, 0, 0), (.getfield 411, 3, 10, 68, 0), (.ifCond .eq 12, 3, 79, 0, 0), (.iload_n 3, 1, 0, 0, 0), (.iconst 2, 1, 0, 0, 0), (.if_icmp .ne 7, 3, 79, 0, 0), (.iconst 1, 1, 0, 0, 0), (.goto 4, 3, 80, 0, 0)]
set_option maxRecDepth 20000 in
theorem hX10_skyOn_63 : zChk false 10 cX10_skyOn 63 bX10_skyOn_63 = true := by decide +kernel
def bX10_skyOn_79 : List zI := [(.iload_n 3, 1, 0, 0, 0), (.ireturn, 1, 0, 0, 0)]
set_option maxRecDepth 20000 in
theorem hX10_skyOn_79 : zChk false 10 cX10_skyOn 79 bX10_skyOn_79 = true := by decide +kernel
def bX10_skyOn_80 : List zI := [(.ireturn, 1, 0, 0, 0)]
set_option maxRecDepth 20000 in
theorem hX10_skyOn_80 : zChk false 10 cX10_skyOn 80 bX10_skyOn_80 = true := by decide +kernel
def bX10_manyAt_0 : List zI := [(.iconst 0, 1, 0, 0, 0), (.istore 4, 2, 0, 0, 0), (.iconst 0, 1, 0, 0, 0), (.istore 5, 2, 0, 0, 0)]
set_option maxRecDepth 20000 in
theorem hX10_manyAt_0 : zChk false 10 cX10_manyAt 0 bX10_manyAt_0 = true := by decide +kernel
def bX10_manyAt_6 : List zI := [(.iload 5, 2, 0, 0, 0), (.aload_n 0, 1, 0, 0, 0), (.getfield 56, 3, 10, 36, 0), (.iconst 1, 1, 0, 0, 0), (.iaload, 1, 0, 0, 0), (.if_icmp .ge 55, 3, 69, 0, 0), (.iload 4, 2, 0, 0, 0), (.aload_n 0, 1, 0, 0, 0), (.getfield 94, 3, 10, 57, 0), (.bipush 40, 2, 0, 0, 0), (.iload_n 1, 1, 0, 0, 0), (.imul, 1, 0, 0, 0), (.iload 5, 2, 0, 0, 0), (.iadd, 1, 0, 0, 0), (.iaload, 1, 0, 0, 0), (.iload_n 3, 1, 0, 0, 0), (.if_icmp .ne 27, 3, 59, 0, 0), (.iload_n 2, 1, 0, 0, 0), (.ifCond .lt 19, 3, 55, 0, 0), (.aload_n 0, 1, 0, 0, 0), (.getfield 97, 3, 10, 58, 0), (.bipush 40, 2, 0, 0, 0), (.iload_n 1, 1, 0, 0, 0), (.imul, 1, 0, 0, 0), (.iload 5, 2, 0, 0, 0), (.iadd, 1, 0, 0, 0), (.iaload, 1, 0, 0, 0), (.iload_n 2, 1, 0, 0, 0), (.if_icmp .ne 7, 3, 59, 0, 0), (.iconst 1, 1, 0, 0, 0), (.goto 4, 3, 60, 0, 0)]
set_option maxRecDepth 20000 in
theorem hX10_manyAt_6 : zChk false 10 cX10_manyAt 6 bX10_manyAt_6 = true := by decide +kernel
def bX10_manyAt_55 : List zI := [(.iconst 1, 1, 0, 0, 0), (.goto 4, 3, 60, 0, 0)]
set_option maxRecDepth 20000 in
theorem hX10_manyAt_55 : zChk false 10 cX10_manyAt 55 bX10_manyAt_55 = true := by decide +kernel
def bX10_manyAt_59 : List zI := [(.iconst 0, 1, 0, 0, 0), (.iadd, 1, 0, 0, 0), (.istore 4, 2, 0, 0, 0), (.iinc 5 1, 3, 0, 0, 0), (.goto (-60), 3, 6, 0, 0)]
set_option maxRecDepth 20000 in
theorem hX10_manyAt_59 : zChk false 10 cX10_manyAt 59 bX10_manyAt_59 = true := by decide +kernel
def bX10_manyAt_60 : List zI := [(.iadd, 1, 0, 0, 0), (.istore 4, 2, 0, 0, 0), (.iinc 5 1, 3, 0, 0, 0), (.goto (-60), 3, 6, 0, 0)]
set_option maxRecDepth 20000 in
theorem hX10_manyAt_60 : zChk false 10 cX10_manyAt 60 bX10_manyAt_60 = true := by decide +kernel
def bX10_manyAt_69 : List zI := [(.iload 4, 2, 0, 0, 0), (.ireturn, 1, 0, 0, 0)]
set_option maxRecDepth 20000 in
theorem hX10_manyAt_69 : zChk false 10 cX10_manyAt 69 bX10_manyAt_69 = true := by decide +kernel
def bX10_tideOn_0 : List zI := [(.iconst 0, 1, 0, 0, 0), (.istore_n 3, 1, 0, 0, 0)]
set_option maxRecDepth 20000 in
theorem hX10_tideOn_0 : zChk false 10 cX10_tideOn 0 bX10_tideOn_0 = true := by decide +kernel
def bX10_tideOn_2 : List zI := [(.iload_n 3, 1, 0, 0, 0), (.aload_n 0, 1, 0, 0, 0), (.getfield 56, 3, 10, 36, 0), (.iconst 1, 1, 0, 0, 0), (.iaload, 1, 0, 0, 0), (.if_icmp .ge 61, 3, 70, 0, 0), (.aload_n 0, 1, 0, 0, 0), (.iload_n 1, 1, 0, 0, 0), (.iload_n 3, 1, 0, 0, 0)]
set_option maxRecDepth 20000 in
theorem hX10_tideOn_2 : zChk false 10 cX10_tideOn 2 bX10_tideOn_2 = true := by decide +kernel
def bX10_tideOn_18 : List zI := [(.ifCond .ne 6, 3, 24, 0, 0), (.goto 43, 3, 64, 0, 0)]
set_option maxRecDepth 20000 in
theorem hX10_tideOn_18 : zChk false 10 cX10_tideOn 18 bX10_tideOn_18 = true := by decide +kernel
def bX10_tideOn_24 : List zI := [(.aload_n 0, 1, 0, 0, 0), (.getfield 97, 3, 10, 58, 0), (.bipush 40, 2, 0, 0, 0), (.iload_n 1, 1, 0, 0, 0), (.imul, 1, 0, 0, 0), (.iload_n 3, 1, 0, 0, 0), (.iadd, 1, 0, 0, 0), (.iaload, 1, 0, 0, 0), (.istore 4, 2, 0, 0, 0), (.aload_n 0, 1, 0, 0, 0), (.getfield 29, 3, 10, 27, 0), (.iload 4, 2, 0, 0, 0), (.iaload, 1, 0, 0, 0), (.ifCond .lt 20, 3, 64, 0, 0), (.iload_n 2, 1, 0, 0, 0), (.aload_n 0, 1, 0, 0, 0), (.getfield 29, 3, 10, 27, 0), (.iload 4, 2, 0, 0, 0), (.iaload, 1, 0, 0, 0), (.if_icmp .lt 9, 3, 64, 0, 0), (.aload_n 0, 1, 0, 0, 0), (.iload_n 1, 1, 0, 0, 0), (.iload_n 3, 1, 0, 0, 0)]
set_option maxRecDepth 20000 in
theorem hX10_tideOn_24 : zChk false 10 cX10_tideOn 24 bX10_tideOn_24 = true := by decide +kernel
def bX10_tideOn_64 : List zI := [(.iinc 3 1, 3, 0, 0, 0), (.goto (-65), 3, 2, 0, 0)]
set_option maxRecDepth 20000 in
theorem hX10_tideOn_64 : zChk false 10 cX10_tideOn 64 bX10_tideOn_64 = true := by decide +kernel
def bX10_tideOn_70 : List zI := [(.return_, 1, 0, 0, 0)]
set_option maxRecDepth 20000 in
theorem hX10_tideOn_70 : zChk false 10 cX10_tideOn 70 bX10_tideOn_70 = true := by decide +kernel
def bX10_rainOn_0 : List zI := [(.iconst 0, 1, 0, 0, 0), (.istore_n 2, 1, 0, 0, 0)]
set_option maxRecDepth 20000 in
theorem hX10_rainOn_0 : zChk false 10 cX10_rainOn 0 bX10_rainOn_0 = true := by decide +kernel
def bX10_rainOn_2 : List zI := [(.iload_n 2, 1, 0, 0, 0), (.aload_n 0, 1, 0, 0, 0), (.getfield 56, 3, 10, 36, 0), (.iconst 1, 1, 0, 0, 0), (.iaload, 1, 0, 0, 0), (.if_icmp .ge 103, 3, 112, 0, 0), (.aload_n 0, 1, 0, 0, 0), (.iload_n 1, 1, 0, 0, 0), (.iload_n 2, 1, 0, 0, 0)]
set_option maxRecDepth 20000 in
theorem hX10_rainOn_2 : zChk false 10 cX10_rainOn 2 bX10_rainOn_2 = true := by decide +kernel
def bX10_rainOn_18 : List zI := [(.ifCond .ne 6, 3, 24, 0, 0), (.goto 85, 3, 106, 0, 0)]
set_option maxRecDepth 20000 in
theorem hX10_rainOn_18 : zChk false 10 cX10_rainOn 18 bX10_rainOn_18 = true := by decide +kernel
def bX10_rainOn_24 : List zI := [(.bipush 40, 2, 0, 0, 0), (.iload_n 1, 1, 0, 0, 0), (.imul, 1, 0, 0, 0), (.iload_n 2, 1, 0, 0, 0), (.iadd, 1, 0, 0, 0), (.istore_n 3, 1, 0, 0, 0), (.aload_n 0, 1, 0, 0, 0), (.getfield 100, 3, 10, 59, 0), (.iload_n 3, 1, 0, 0, 0), (.dup2, 1, 0, 0, 0), (.iaload, 1, 0, 0, 0), (.aload_n 0, 1, 0, 0, 0), (.getfield 420, 3, 10, 71, 0), (.ifCond .eq 7, 3, 49, 0, 0), (.iconst 0, 1, 0, 0, 0), (.goto 4, 3, 50, 0, 0)]
set_option maxRecDepth 20000 in
theorem hX10_rainOn_24 : zChk false 10 cX10_rainOn 24 bX10_rainOn_24 = true := by decide +kernel
def bX10_rainOn_49 : List zI := [(.iconst 1, 1, 0, 0, 0), (.iadd, 1, 0, 0, 0), (.iastore, 1, 0, 0, 0), (.aload_n 0, 1, 0, 0, 0), (.getfield 100, 3, 10, 59, 0), (.iload_n 3, 1, 0, 0, 0), (.iaload, 1, 0, 0, 0), (.aload_n 0, 1, 0, 0, 0), (.getfield 56, 3, 10, 36, 0), (.bipush 8, 2, 0, 0, 0), (.iaload, 1, 0, 0, 0), (.if_icmp .lt 28, 3, 93, 0, 0), (.aload_n 0, 1, 0, 0, 0), (.iload_n 1, 1, 0, 0, 0), (.iload_n 2, 1, 0, 0, 0)]
set_option maxRecDepth 20000 in
theorem hX10_rainOn_49 : zChk false 10 cX10_rainOn 49 bX10_rainOn_49 = true := by decide +kernel
def bX10_rainOn_50 : List zI := [(.iadd, 1, 0, 0, 0), (.iastore, 1, 0, 0, 0), (.aload_n 0, 1, 0, 0, 0), (.getfield 100, 3, 10, 59, 0), (.iload_n 3, 1, 0, 0, 0), (.iaload, 1, 0, 0, 0), (.aload_n 0, 1, 0, 0, 0), (.getfield 56, 3, 10, 36, 0), (.bipush 8, 2, 0, 0, 0), (.iaload, 1, 0, 0, 0), (.if_icmp .lt 28, 3, 93, 0, 0), (.aload_n 0, 1, 0, 0, 0), (.iload_n 1, 1, 0, 0, 0), (.iload_n 2, 1, 0, 0, 0)]
set_option maxRecDepth 20000 in
theorem hX10_rainOn_50 : zChk false 10 cX10_rainOn 50 bX10_rainOn_50 = true := by decide +kernel
def bX10_rainOn_74 : List zI := [(.aload_n 0, 1, 0, 0, 0), (.getfield 109, 3, 10, 62, 0), (.bipush 7, 2, 0, 0, 0), (.iload_n 1, 1, 0, 0, 0), (.imul, 1, 0, 0, 0), (.bipush 6, 2, 0, 0, 0), (.iadd, 1, 0, 0, 0), (.dup2, 1, 0, 0, 0), (.iaload, 1, 0, 0, 0), (.iconst 1, 1, 0, 0, 0), (.iadd, 1, 0, 0, 0), (.iastore, 1, 0, 0, 0), (.goto 16, 3, 106, 0, 0)]
set_option maxRecDepth 20000 in
theorem hX10_rainOn_74 : zChk false 10 cX10_rainOn 74 bX10_rainOn_74 = true := by decide +kernel
def bX10_rainOn_93 : List zI := [(.aload_n 0, 1, 0, 0, 0), (.iload_n 1, 1, 0, 0, 0), (.iload_n 2, 1, 0, 0, 0)]
set_option maxRecDepth 20000 in
theorem hX10_rainOn_93 : zChk false 10 cX10_rainOn 93 bX10_rainOn_93 = true := by decide +kernel
def bX10_rainOn_99 : List zI := [(.aload_n 0, 1, 0, 0, 0), (.getfield 94, 3, 10, 57, 0), (.iload_n 3, 1, 0, 0, 0), (.iconst 1, 1, 0, 0, 0), (.iastore, 1, 0, 0, 0), (.iinc 2 1, 3, 0, 0, 0), (.goto (-107), 3, 2, 0, 0)]
set_option maxRecDepth 20000 in
theorem hX10_rainOn_99 : zChk false 10 cX10_rainOn 99 bX10_rainOn_99 = true := by decide +kernel
def bX10_rainOn_106 : List zI := [(.iinc 2 1, 3, 0, 0, 0), (.goto (-107), 3, 2, 0, 0)]
set_option maxRecDepth 20000 in
theorem hX10_rainOn_106 : zChk false 10 cX10_rainOn 106 bX10_rainOn_106 = true := by decide +kernel
def bX10_rainOn_112 : List zI := [(.return_, 1, 0, 0, 0)]
set_option maxRecDepth 20000 in
theorem hX10_rainOn_112 : zChk false 10 cX10_rainOn 112 bX10_rainOn_112 = true := by decide +kernel
def bX10_roundOn_0 : List zI := [(.aload_n 0, 1, 0, 0, 0), (.getfield 417, 3, 10, 70, 0), (.ifCond .eq 7, 3, 11, 0, 0), (.iconst 0, 1, 0, 0, 0), (.goto 15, 3, 23, 0, 0)]
set_option maxRecDepth 20000 in
theorem hX10_roundOn_0 : zChk false 10 cX10_roundOn 0 bX10_roundOn_0 = true := by decide +kernel
def bX10_roundOn_11 : List zI := [(.aload_n 0, 1, 0, 0, 0), (.iconst 2, 1, 0, 0, 0), (.iload_n 1, 1, 0, 0, 0), (.iload_n 2, 1, 0, 0, 0), (.iload_n 3, 1, 0, 0, 0), (.iconst 0, 1, 0, 0, 0), (.iconst 0, 1, 0, 0, 0), (.bipush 100, 2, 0, 0, 0)]
set_option maxRecDepth 20000 in
theorem hX10_roundOn_11 : zChk false 10 cX10_roundOn 11 bX10_roundOn_11 = true := by decide +kernel
def bX10_roundOn_23 : List zI := [(.istore 4, 2, 0, 0, 0), (.iconst 0, 1, 0, 0, 0), (.istore 5, 2, 0, 0, 0)]
set_option maxRecDepth 20000 in
theorem hX10_roundOn_23 : zChk false 10 cX10_roundOn 23 bX10_roundOn_23 = true := by decide +kernel
def bX10_roundOn_28 : List zI := [(.iload 5, 2, 0, 0, 0), (.aload_n 0, 1, 0, 0, 0), (.getfield 56, 3, 10, 36, 0), (.iconst 1, 1, 0, 0, 0), (.iaload, 1, 0, 0, 0), (.if_icmp .ge 155, 3, 191, 0, 0), (.bipush 40, 2, 0, 0, 0), (.iload_n 1, 1, 0, 0, 0), (.imul, 1, 0, 0, 0), (.iload 5, 2, 0, 0, 0), (.iadd, 1, 0, 0, 0), (.istore 6, 2, 0, 0, 0), (.aload_n 0, 1, 0, 0, 0), (.getfield 94, 3, 10, 57, 0), (.iload 6, 2, 0, 0, 0), (.iaload, 1, 0, 0, 0), (.iconst 2, 1, 0, 0, 0), (.if_icmp .ne 129, 3, 185, 0, 0), (.aload_n 0, 1, 0, 0, 0), (.getfield 97, 3, 10, 58, 0), (.iload 6, 2, 0, 0, 0), (.iaload, 1, 0, 0, 0), (.iload_n 2, 1, 0, 0, 0), (.if_icmp .ne 118, 3, 185, 0, 0), (.aload_n 0, 1, 0, 0, 0), (.getfield 106, 3, 10, 61, 0), (.iload 6, 2, 0, 0, 0), (.baload, 1, 0, 0, 0), (.ifCond .eq 6, 3, 83, 0, 0), (.goto 105, 3, 185, 0, 0)]
set_option maxRecDepth 20000 in
theorem hX10_roundOn_28 : zChk false 10 cX10_roundOn 28 bX10_roundOn_28 = true := by decide +kernel
def bX10_roundOn_83 : List zI := [(.aload_n 0, 1, 0, 0, 0), (.getfield 112, 3, 10, 63, 0), (.iload_n 1, 1, 0, 0, 0), (.aload_n 0, 1, 0, 0, 0), (.getfield 112, 3, 10, 63, 0), (.iload_n 1, 1, 0, 0, 0), (.laload, 1, 0, 0, 0), (.ldc2_w 473, 3, 0, 0, 1103515245), (.lmul, 1, 0, 0, 0), (.ldc2_w 475, 3, 0, 0, 12345), (.ladd, 1, 0, 0, 0), (.ldc2_w 477, 3, 0, 0, 2147483647), (.land, 1, 0, 0, 0), (.lastore, 1, 0, 0, 0), (.aload_n 0, 1, 0, 0, 0), (.getfield 112, 3, 10, 63, 0), (.iload_n 1, 1, 0, 0, 0), (.laload, 1, 0, 0, 0), (.ldc2_w 479, 3, 0, 0, 65536), (.ldiv, 1, 0, 0, 0), (.ldc2_w 481, 3, 0, 0, 100), (.lrem, 1, 0, 0, 0), (.iload 4, 2, 0, 0, 0), (.i2l, 1, 0, 0, 0), (.lcmp, 1, 0, 0, 0), (.ifCond .ge 21, 3, 146, 0, 0), (.aload_n 0, 1, 0, 0, 0), (.getfield 109, 3, 10, 62, 0), (.bipush 7, 2, 0, 0, 0), (.iload_n 1, 1, 0, 0, 0), (.imul, 1, 0, 0, 0), (.iconst 2, 1, 0, 0, 0), (.iadd, 1, 0, 0, 0), (.dup2, 1, 0, 0, 0), (.iaload, 1, 0, 0, 0), (.iconst 1, 1, 0, 0, 0), (.iadd, 1, 0, 0, 0), (.iastore, 1, 0, 0, 0), (.goto 42, 3, 185, 0, 0)]
set_option maxRecDepth 20000 in
theorem hX10_roundOn_83 : zChk false 10 cX10_roundOn 83 bX10_roundOn_83 = true := by decide +kernel
def bX10_roundOn_146 : List zI := [(.aload_n 0, 1, 0, 0, 0), (.getfield 106, 3, 10, 61, 0), (.iload 6, 2, 0, 0, 0), (.iconst 1, 1, 0, 0, 0), (.bastore, 1, 0, 0, 0), (.aload_n 0, 1, 0, 0, 0), (.getfield 109, 3, 10, 62, 0), (.bipush 7, 2, 0, 0, 0), (.iload_n 1, 1, 0, 0, 0), (.imul, 1, 0, 0, 0), (.iconst 1, 1, 0, 0, 0), (.iadd, 1, 0, 0, 0), (.dup2, 1, 0, 0, 0), (.iaload, 1, 0, 0, 0), (.iconst 1, 1, 0, 0, 0), (.iadd, 1, 0, 0, 0), (.iastore, 1, 0, 0, 0), (.aload_n 0, 1, 0, 0, 0), (.getfield 109, 3, 10, 62, 0), (.bipush 7, 2, 0, 0, 0), (.iload_n 1, 1, 0, 0, 0), (.imul, 1, 0, 0, 0), (.dup2, 1, 0, 0, 0), (.iaload, 1, 0, 0, 0), (.aload_n 0, 1, 0, 0, 0), (.getfield 408, 3, 10, 67, 0), (.iadd, 1, 0, 0, 0), (.iastore, 1, 0, 0, 0), (.iinc 5 1, 3, 0, 0, 0), (.goto (-160), 3, 28, 0, 0)]
set_option maxRecDepth 20000 in
theorem hX10_roundOn_146 : zChk false 10 cX10_roundOn 146 bX10_roundOn_146 = true := by decide +kernel
def bX10_roundOn_185 : List zI := [(.iinc 5 1, 3, 0, 0, 0), (.goto (-160), 3, 28, 0, 0)]
set_option maxRecDepth 20000 in
theorem hX10_roundOn_185 : zChk false 10 cX10_roundOn 185 bX10_roundOn_185 = true := by decide +kernel
def bX10_roundOn_191 : List zI := [(.return_, 1, 0, 0, 0)]
set_option maxRecDepth 20000 in
theorem hX10_roundOn_191 : zChk false 10 cX10_roundOn 191 bX10_roundOn_191 = true := by decide +kernel
def bX10_step_0 : List zI := [(.aload_n 0, 1, 0, 0, 0), (.iload_n 1, 1, 0, 0, 0), (.iload_n 2, 1, 0, 0, 0)]
set_option maxRecDepth 20000 in
theorem hX10_step_0 : zChk false 10 cX10_step 0 bX10_step_0 = true := by decide +kernel
def bX10_step_6 : List zI := [(.aload_n 0, 1, 0, 0, 0), (.iload_n 2, 1, 0, 0, 0)]
set_option maxRecDepth 20000 in
theorem hX10_step_6 : zChk false 10 cX10_step 6 bX10_step_6 = true := by decide +kernel
def bX10_step_11 : List zI := [(.iconst 2, 1, 0, 0, 0), (.if_icmp .ne 7, 3, 19, 0, 0), (.iconst 1, 1, 0, 0, 0), (.goto 4, 3, 20, 0, 0)]
set_option maxRecDepth 20000 in
theorem hX10_step_11 : zChk false 10 cX10_step 11 bX10_step_11 = true := by decide +kernel
def bX10_step_19 : List zI := [(.iconst 0, 1, 0, 0, 0), (.istore_n 3, 1, 0, 0, 0), (.iload_n 3, 1, 0, 0, 0), (.ifCond .eq 8, 3, 30, 0, 0), (.aload_n 0, 1, 0, 0, 0), (.iload_n 1, 1, 0, 0, 0)]
set_option maxRecDepth 20000 in
theorem hX10_step_19 : zChk false 10 cX10_step 19 bX10_step_19 = true := by decide +kernel
def bX10_step_20 : List zI := [(.istore_n 3, 1, 0, 0, 0), (.iload_n 3, 1, 0, 0, 0), (.ifCond .eq 8, 3, 30, 0, 0), (.aload_n 0, 1, 0, 0, 0), (.iload_n 1, 1, 0, 0, 0)]
set_option maxRecDepth 20000 in
theorem hX10_step_20 : zChk false 10 cX10_step 20 bX10_step_20 = true := by decide +kernel
def bX10_step_30 : List zI := [(.aload_n 0, 1, 0, 0, 0), (.iload_n 1, 1, 0, 0, 0), (.iload_n 2, 1, 0, 0, 0)]
set_option maxRecDepth 20000 in
theorem hX10_step_30 : zChk false 10 cX10_step 30 bX10_step_30 = true := by decide +kernel
def bX10_step_36 : List zI := [(.iconst 0, 1, 0, 0, 0), (.istore 4, 2, 0, 0, 0)]
set_option maxRecDepth 20000 in
theorem hX10_step_36 : zChk false 10 cX10_step 36 bX10_step_36 = true := by decide +kernel
def bX10_step_39 : List zI := [(.iload 4, 2, 0, 0, 0), (.aload_n 0, 1, 0, 0, 0), (.getfield 264, 3, 10, 13, 0), (.if_icmp .ge 60, 3, 105, 0, 0), (.iload_n 3, 1, 0, 0, 0), (.ifCond .ne 56, 3, 105, 0, 0), (.iconst 0, 1, 0, 0, 0), (.istore 5, 2, 0, 0, 0)]
set_option maxRecDepth 20000 in
theorem hX10_step_39 : zChk false 10 cX10_step 39 bX10_step_39 = true := by decide +kernel
def bX10_step_55 : List zI := [(.iload 5, 2, 0, 0, 0), (.aload_n 0, 1, 0, 0, 0), (.getfield 35, 3, 10, 29, 0), (.iload 4, 2, 0, 0, 0), (.iaload, 1, 0, 0, 0), (.if_icmp .ge 35, 3, 99, 0, 0), (.aload_n 0, 1, 0, 0, 0), (.getfield 32, 3, 10, 28, 0), (.iload 4, 2, 0, 0, 0), (.iaload, 1, 0, 0, 0), (.iload_n 2, 1, 0, 0, 0), (.if_icmp .ne 24, 3, 99, 0, 0), (.iload 4, 2, 0, 0, 0), (.aload_n 0, 1, 0, 0, 0), (.getfield 426, 3, 10, 73, 0), (.if_icmp .eq 15, 3, 99, 0, 0), (.aload_n 0, 1, 0, 0, 0), (.iload_n 1, 1, 0, 0, 0), (.iload_n 2, 1, 0, 0, 0)]
set_option maxRecDepth 20000 in
theorem hX10_step_55 : zChk false 10 cX10_step 55 bX10_step_55 = true := by decide +kernel
def bX10_step_93 : List zI := [(.iinc 5 1, 3, 0, 0, 0), (.goto (-41), 3, 55, 0, 0)]
set_option maxRecDepth 20000 in
theorem hX10_step_93 : zChk false 10 cX10_step 93 bX10_step_93 = true := by decide +kernel
def bX10_step_99 : List zI := [(.iinc 4 1, 3, 0, 0, 0), (.goto (-63), 3, 39, 0, 0)]
set_option maxRecDepth 20000 in
theorem hX10_step_99 : zChk false 10 cX10_step 99 bX10_step_99 = true := by decide +kernel
def bX10_step_105 : List zI := [(.aload_n 0, 1, 0, 0, 0), (.getfield 432, 3, 10, 75, 0), (.ifCond .ne 4, 3, 113, 0, 0), (.return_, 1, 0, 0, 0)]
set_option maxRecDepth 20000 in
theorem hX10_step_105 : zChk false 10 cX10_step 105 bX10_step_105 = true := by decide +kernel
def bX10_step_113 : List zI := [(.iload_n 2, 1, 0, 0, 0), (.aload_n 0, 1, 0, 0, 0), (.getfield 435, 3, 10, 76, 0), (.isub, 1, 0, 0, 0), (.aload_n 0, 1, 0, 0, 0), (.getfield 432, 3, 10, 75, 0), (.irem, 1, 0, 0, 0), (.istore 4, 2, 0, 0, 0), (.aload_n 0, 1, 0, 0, 0), (.iload_n 1, 1, 0, 0, 0), (.aload_n 0, 1, 0, 0, 0), (.getfield 118, 3, 10, 77, 0), (.iload 4, 2, 0, 0, 0), (.iaload, 1, 0, 0, 0), (.iload_n 2, 1, 0, 0, 0)]
set_option maxRecDepth 20000 in
theorem hX10_step_113 : zChk false 10 cX10_step 113 bX10_step_113 = true := by decide +kernel
def bX10_step_139 : List zI := [(.aload_n 0, 1, 0, 0, 0), (.getfield 429, 3, 10, 74, 0), (.ifCond .eq 23, 3, 166, 0, 0), (.aload_n 0, 1, 0, 0, 0), (.iload_n 1, 1, 0, 0, 0), (.aload_n 0, 1, 0, 0, 0), (.getfield 118, 3, 10, 77, 0), (.aload_n 0, 1, 0, 0, 0), (.getfield 432, 3, 10, 75, 0), (.iconst 1, 1, 0, 0, 0), (.isub, 1, 0, 0, 0), (.iload 4, 2, 0, 0, 0), (.isub, 1, 0, 0, 0), (.iaload, 1, 0, 0, 0), (.iload_n 2, 1, 0, 0, 0)]
set_option maxRecDepth 20000 in
theorem hX10_step_139 : zChk false 10 cX10_step 139 bX10_step_139 = true := by decide +kernel
def bX10_step_166 : List zI := [(.return_, 1, 0, 0, 0)]
set_option maxRecDepth 20000 in
theorem hX10_step_166 : zChk false 10 cX10_step 166 bX10_step_166 = true := by decide +kernel
def bX10_runs_0 : List zI := [(.aload_n 0, 1, 0, 0, 0), (.getfield 387, 3, 10, 55, 0), (.istore_n 2, 1, 0, 0, 0)]
set_option maxRecDepth 20000 in
theorem hX10_runs_0 : zChk false 10 cX10_runs 0 bX10_runs_0 = true := by decide +kernel
def bX10_runs_5 : List zI := [(.iload_n 2, 1, 0, 0, 0), (.aload_n 0, 1, 0, 0, 0), (.getfield 387, 3, 10, 55, 0), (.iload_n 1, 1, 0, 0, 0), (.iadd, 1, 0, 0, 0), (.if_icmp .ge 15, 3, 27, 0, 0), (.aload_n 0, 1, 0, 0, 0), (.iconst 1, 1, 0, 0, 0), (.iload_n 2, 1, 0, 0, 0)]
set_option maxRecDepth 20000 in
theorem hX10_runs_5 : zChk false 10 cX10_runs 5 bX10_runs_5 = true := by decide +kernel
def bX10_runs_21 : List zI := [(.iinc 2 1, 3, 0, 0, 0), (.goto (-19), 3, 5, 0, 0)]
set_option maxRecDepth 20000 in
theorem hX10_runs_21 : zChk false 10 cX10_runs 21 bX10_runs_21 = true := by decide +kernel
def bX10_runs_27 : List zI := [(.aload_n 0, 1, 0, 0, 0), (.iconst 1, 1, 0, 0, 0)]
set_option maxRecDepth 20000 in
theorem hX10_runs_27 : zChk false 10 cX10_runs 27 bX10_runs_27 = true := by decide +kernel
def bX10_runs_32 : List zI := [(.ireturn, 1, 0, 0, 0)]
set_option maxRecDepth 20000 in
theorem hX10_runs_32 : zChk false 10 cX10_runs 32 bX10_runs_32 = true := by decide +kernel
def bX10_place_0 : List zI := [(.aload_n 0, 1, 0, 0, 0), (.iconst 0, 1, 0, 0, 0), (.putfield 178, 3, 10, 2, 0), (.aload_n 0, 1, 0, 0, 0), (.iload_n 1, 1, 0, 0, 0)]
set_option maxRecDepth 20000 in
theorem hX10_place_0 : zChk false 10 cX10_place 0 bX10_place_0 = true := by decide +kernel
def bX10_place_10 : List zI := [(.ifCond .ne 5, 3, 15, 0, 0), (.iconst (-1), 1, 0, 0, 0), (.ireturn, 1, 0, 0, 0)]
set_option maxRecDepth 20000 in
theorem hX10_place_10 : zChk false 10 cX10_place 10 bX10_place_10 = true := by decide +kernel
def bX10_place_15 : List zI := [(.iload_n 2, 1, 0, 0, 0)]
set_option maxRecDepth 20000 in
theorem hX10_place_15 : zChk false 10 cX10_place 15 bX10_place_15 = true := by decide +kernel
def bX10_place_52 : List zI := [(.aload_n 0, 1, 0, 0, 0), (.getfield 23, 3, 10, 25, 0), (.iload_n 1, 1, 0, 0, 0), (.iaload, 1, 0, 0, 0), (.ireturn, 1, 0, 0, 0)]
set_option maxRecDepth 20000 in
theorem hX10_place_52 : zChk false 10 cX10_place 52 bX10_place_52 = true := by decide +kernel
def bX10_place_59 : List zI := [(.aload_n 0, 1, 0, 0, 0), (.getfield 26, 3, 10, 26, 0), (.iload_n 1, 1, 0, 0, 0), (.iaload, 1, 0, 0, 0), (.ireturn, 1, 0, 0, 0)]
set_option maxRecDepth 20000 in
theorem hX10_place_59 : zChk false 10 cX10_place 59 bX10_place_59 = true := by decide +kernel
def bX10_place_66 : List zI := [(.aload_n 0, 1, 0, 0, 0), (.getfield 29, 3, 10, 27, 0), (.iload_n 1, 1, 0, 0, 0), (.iaload, 1, 0, 0, 0), (.ireturn, 1, 0, 0, 0)]
set_option maxRecDepth 20000 in
theorem hX10_place_66 : zChk false 10 cX10_place 66 bX10_place_66 = true := by decide +kernel
def bX10_place_73 : List zI := [(.aload_n 0, 1, 0, 0, 0), (.iconst 0, 1, 0, 0, 0), (.iload_n 1, 1, 0, 0, 0), (.iconst 1, 1, 0, 0, 0)]
set_option maxRecDepth 20000 in
theorem hX10_place_73 : zChk false 10 cX10_place 73 bX10_place_73 = true := by decide +kernel
def bX10_place_80 : List zI := [(.ireturn, 1, 0, 0, 0)]
set_option maxRecDepth 20000 in
theorem hX10_place_80 : zChk false 10 cX10_place 80 bX10_place_80 = true := by decide +kernel
def bX10_place_81 : List zI := [(.aload_n 0, 1, 0, 0, 0), (.iconst 0, 1, 0, 0, 0), (.iload_n 1, 1, 0, 0, 0), (.iconst 2, 1, 0, 0, 0)]
set_option maxRecDepth 20000 in
theorem hX10_place_81 : zChk false 10 cX10_place 81 bX10_place_81 = true := by decide +kernel
def bX10_place_88 : List zI := [(.ireturn, 1, 0, 0, 0)]
set_option maxRecDepth 20000 in
theorem hX10_place_88 : zChk false 10 cX10_place 88 bX10_place_88 = true := by decide +kernel
def bX10_place_89 : List zI := [(.iconst (-1), 1, 0, 0, 0), (.ireturn, 1, 0, 0, 0)]
set_option maxRecDepth 20000 in
theorem hX10_place_89 : zChk false 10 cX10_place 89 bX10_place_89 = true := by decide +kernel
def bX10_sky_0 : List zI := [(.aload_n 0, 1, 0, 0, 0), (.iconst 0, 1, 0, 0, 0), (.putfield 178, 3, 10, 2, 0), (.aload_n 0, 1, 0, 0, 0)]
set_option maxRecDepth 20000 in
theorem hX10_sky_0 : zChk false 10 cX10_sky 0 bX10_sky_0 = true := by decide +kernel
def bX10_sky_9 : List zI := [(.iload_n 1, 1, 0, 0, 0), (.iconst 0, 1, 0, 0, 0), (.bipush 95, 2, 0, 0, 0)]
set_option maxRecDepth 20000 in
theorem hX10_sky_9 : zChk false 10 cX10_sky 9 bX10_sky_9 = true := by decide +kernel
def bX10_sky_16 : List zI := [(.ifCond .eq 11, 3, 27, 0, 0), (.aload_n 0, 1, 0, 0, 0), (.iload_n 1, 1, 0, 0, 0)]
set_option maxRecDepth 20000 in
theorem hX10_sky_16 : zChk false 10 cX10_sky 16 bX10_sky_16 = true := by decide +kernel
def bX10_sky_24 : List zI := [(.goto 4, 3, 28, 0, 0)]
set_option maxRecDepth 20000 in
theorem hX10_sky_24 : zChk false 10 cX10_sky 24 bX10_sky_24 = true := by decide +kernel
def bX10_sky_27 : List zI := [(.iconst (-1), 1, 0, 0, 0), (.ireturn, 1, 0, 0, 0)]
set_option maxRecDepth 20000 in
theorem hX10_sky_27 : zChk false 10 cX10_sky 27 bX10_sky_27 = true := by decide +kernel
def bX10_sky_28 : List zI := [(.ireturn, 1, 0, 0, 0)]
set_option maxRecDepth 20000 in
theorem hX10_sky_28 : zChk false 10 cX10_sky 28 bX10_sky_28 = true := by decide +kernel
def bX10_remember_0 : List zI := [(.aload_n 0, 1, 0, 0, 0), (.getfield 402, 3, 10, 78, 0), (.bipush 20, 2, 0, 0, 0), (.if_icmp .ne 129, 3, 135, 0, 0), (.iconst 0, 1, 0, 0, 0), (.istore_n 1, 1, 0, 0, 0)]
set_option maxRecDepth 20000 in
theorem hX10_remember_0 : zChk false 10 cX10_remember 0 bX10_remember_0 = true := by decide +kernel
def bX10_remember_11 : List zI := [(.iload_n 1, 1, 0, 0, 0), (.sipush 760, 3, 0, 0, 0), (.if_icmp .ge 24, 3, 39, 0, 0), (.aload_n 0, 1, 0, 0, 0), (.getfield 121, 3, 10, 79, 0), (.iload_n 1, 1, 0, 0, 0), (.aload_n 0, 1, 0, 0, 0), (.getfield 121, 3, 10, 79, 0), (.iload_n 1, 1, 0, 0, 0), (.bipush 40, 2, 0, 0, 0), (.iadd, 1, 0, 0, 0), (.iaload, 1, 0, 0, 0), (.iastore, 1, 0, 0, 0), (.iinc 1 1, 3, 0, 0, 0), (.goto (-25), 3, 11, 0, 0)]
set_option maxRecDepth 20000 in
theorem hX10_remember_11 : zChk false 10 cX10_remember 11 bX10_remember_11 = true := by decide +kernel
def bX10_remember_39 : List zI := [(.iconst 0, 1, 0, 0, 0), (.istore_n 1, 1, 0, 0, 0)]
set_option maxRecDepth 20000 in
theorem hX10_remember_39 : zChk false 10 cX10_remember 39 bX10_remember_39 = true := by decide +kernel
def bX10_remember_41 : List zI := [(.iload_n 1, 1, 0, 0, 0), (.sipush 152, 3, 0, 0, 0), (.if_icmp .ge 24, 3, 69, 0, 0), (.aload_n 0, 1, 0, 0, 0), (.getfield 133, 3, 10, 83, 0), (.iload_n 1, 1, 0, 0, 0), (.aload_n 0, 1, 0, 0, 0), (.getfield 133, 3, 10, 83, 0), (.iload_n 1, 1, 0, 0, 0), (.bipush 8, 2, 0, 0, 0), (.iadd, 1, 0, 0, 0), (.iaload, 1, 0, 0, 0), (.iastore, 1, 0, 0, 0), (.iinc 1 1, 3, 0, 0, 0), (.goto (-25), 3, 41, 0, 0)]
set_option maxRecDepth 20000 in
theorem hX10_remember_41 : zChk false 10 cX10_remember 41 bX10_remember_41 = true := by decide +kernel
def bX10_remember_69 : List zI := [(.iconst 0, 1, 0, 0, 0), (.istore_n 1, 1, 0, 0, 0)]
set_option maxRecDepth 20000 in
theorem hX10_remember_69 : zChk false 10 cX10_remember 69 bX10_remember_69 = true := by decide +kernel
def bX10_remember_71 : List zI := [(.iload_n 1, 1, 0, 0, 0), (.bipush 19, 2, 0, 0, 0), (.if_icmp .ge 51, 3, 125, 0, 0), (.aload_n 0, 1, 0, 0, 0), (.getfield 124, 3, 10, 80, 0), (.iload_n 1, 1, 0, 0, 0), (.aload_n 0, 1, 0, 0, 0), (.getfield 124, 3, 10, 80, 0), (.iload_n 1, 1, 0, 0, 0), (.iconst 1, 1, 0, 0, 0), (.iadd, 1, 0, 0, 0), (.iaload, 1, 0, 0, 0), (.iastore, 1, 0, 0, 0), (.aload_n 0, 1, 0, 0, 0), (.getfield 127, 3, 10, 81, 0), (.iload_n 1, 1, 0, 0, 0), (.aload_n 0, 1, 0, 0, 0), (.getfield 127, 3, 10, 81, 0), (.iload_n 1, 1, 0, 0, 0), (.iconst 1, 1, 0, 0, 0), (.iadd, 1, 0, 0, 0), (.iaload, 1, 0, 0, 0), (.iastore, 1, 0, 0, 0), (.aload_n 0, 1, 0, 0, 0), (.getfield 130, 3, 10, 82, 0), (.iload_n 1, 1, 0, 0, 0), (.aload_n 0, 1, 0, 0, 0), (.getfield 130, 3, 10, 82, 0), (.iload_n 1, 1, 0, 0, 0), (.iconst 1, 1, 0, 0, 0), (.iadd, 1, 0, 0, 0), (.iaload, 1, 0, 0, 0), (.iastore, 1, 0, 0, 0), (.iinc 1 1, 3, 0, 0, 0), (.goto (-51), 3, 71, 0, 0)]
set_option maxRecDepth 20000 in
theorem hX10_remember_71 : zChk false 10 cX10_remember 71 bX10_remember_71 = true := by decide +kernel
def bX10_remember_125 : List zI := [(.aload_n 0, 1, 0, 0, 0), (.dup, 1, 0, 0, 0), (.getfield 402, 3, 10, 78, 0), (.iconst 1, 1, 0, 0, 0), (.isub, 1, 0, 0, 0), (.putfield 402, 3, 10, 78, 0), (.iconst 0, 1, 0, 0, 0), (.istore_n 1, 1, 0, 0, 0)]
set_option maxRecDepth 20000 in
theorem hX10_remember_125 : zChk false 10 cX10_remember 125 bX10_remember_125 = true := by decide +kernel
def bX10_remember_135 : List zI := [(.iconst 0, 1, 0, 0, 0), (.istore_n 1, 1, 0, 0, 0)]
set_option maxRecDepth 20000 in
theorem hX10_remember_135 : zChk false 10 cX10_remember 135 bX10_remember_135 = true := by decide +kernel
def bX10_remember_137 : List zI := [(.iload_n 1, 1, 0, 0, 0), (.bipush 40, 2, 0, 0, 0), (.if_icmp .ge 41, 3, 181, 0, 0), (.aload_n 0, 1, 0, 0, 0), (.getfield 121, 3, 10, 79, 0), (.bipush 40, 2, 0, 0, 0), (.aload_n 0, 1, 0, 0, 0), (.getfield 402, 3, 10, 78, 0), (.imul, 1, 0, 0, 0), (.iload_n 1, 1, 0, 0, 0), (.iadd, 1, 0, 0, 0), (.bipush 8, 2, 0, 0, 0), (.aload_n 0, 1, 0, 0, 0), (.getfield 94, 3, 10, 57, 0), (.iload_n 1, 1, 0, 0, 0), (.iaload, 1, 0, 0, 0), (.imul, 1, 0, 0, 0), (.aload_n 0, 1, 0, 0, 0), (.getfield 97, 3, 10, 58, 0), (.iload_n 1, 1, 0, 0, 0), (.iaload, 1, 0, 0, 0), (.iadd, 1, 0, 0, 0), (.iconst 1, 1, 0, 0, 0), (.iadd, 1, 0, 0, 0), (.iastore, 1, 0, 0, 0), (.iinc 1 1, 3, 0, 0, 0), (.goto (-41), 3, 137, 0, 0)]
set_option maxRecDepth 20000 in
theorem hX10_remember_137 : zChk false 10 cX10_remember 137 bX10_remember_137 = true := by decide +kernel
def bX10_remember_181 : List zI := [(.iconst 0, 1, 0, 0, 0), (.istore_n 1, 1, 0, 0, 0)]
set_option maxRecDepth 20000 in
theorem hX10_remember_181 : zChk false 10 cX10_remember 181 bX10_remember_181 = true := by decide +kernel
def bX10_remember_183 : List zI := [(.iload_n 1, 1, 0, 0, 0), (.bipush 8, 2, 0, 0, 0), (.if_icmp .ge 29, 3, 215, 0, 0), (.aload_n 0, 1, 0, 0, 0), (.getfield 133, 3, 10, 83, 0), (.bipush 8, 2, 0, 0, 0), (.aload_n 0, 1, 0, 0, 0), (.getfield 402, 3, 10, 78, 0), (.imul, 1, 0, 0, 0), (.iload_n 1, 1, 0, 0, 0), (.iadd, 1, 0, 0, 0), (.aload_n 0, 1, 0, 0, 0), (.getfield 115, 3, 10, 66, 0), (.iload_n 1, 1, 0, 0, 0), (.iaload, 1, 0, 0, 0), (.iastore, 1, 0, 0, 0), (.iinc 1 1, 3, 0, 0, 0), (.goto (-29), 3, 183, 0, 0)]
set_option maxRecDepth 20000 in
theorem hX10_remember_183 : zChk false 10 cX10_remember 183 bX10_remember_183 = true := by decide +kernel
def bX10_remember_215 : List zI := [(.aload_n 0, 1, 0, 0, 0), (.getfield 124, 3, 10, 80, 0), (.aload_n 0, 1, 0, 0, 0), (.getfield 402, 3, 10, 78, 0), (.aload_n 0, 1, 0, 0, 0), (.getfield 390, 3, 10, 56, 0), (.iastore, 1, 0, 0, 0), (.aload_n 0, 1, 0, 0, 0), (.getfield 127, 3, 10, 81, 0), (.aload_n 0, 1, 0, 0, 0), (.getfield 402, 3, 10, 78, 0), (.aload_n 0, 1, 0, 0, 0), (.getfield 393, 3, 10, 64, 0), (.iastore, 1, 0, 0, 0), (.aload_n 0, 1, 0, 0, 0), (.getfield 130, 3, 10, 82, 0), (.aload_n 0, 1, 0, 0, 0), (.getfield 402, 3, 10, 78, 0), (.aload_n 0, 1, 0, 0, 0), (.getfield 396, 3, 10, 65, 0), (.iastore, 1, 0, 0, 0), (.aload_n 0, 1, 0, 0, 0), (.dup, 1, 0, 0, 0), (.getfield 402, 3, 10, 78, 0), (.iconst 1, 1, 0, 0, 0), (.iadd, 1, 0, 0, 0), (.putfield 402, 3, 10, 78, 0), (.return_, 1, 0, 0, 0)]
set_option maxRecDepth 20000 in
theorem hX10_remember_215 : zChk false 10 cX10_remember 215 bX10_remember_215 = true := by decide +kernel
def bX10_put_0 : List zI := [(.aload_n 0, 1, 0, 0, 0), (.iconst 0, 1, 0, 0, 0), (.putfield 178, 3, 10, 2, 0), (.aload_n 0, 1, 0, 0, 0), (.iload_n 1, 1, 0, 0, 0)]
set_option maxRecDepth 20000 in
theorem hX10_put_0 : zChk false 10 cX10_put 0 bX10_put_0 = true := by decide +kernel
def bX10_put_10 : List zI := [(.ifCond .eq 13, 3, 23, 0, 0), (.iload_n 2, 1, 0, 0, 0), (.iconst 0, 1, 0, 0, 0), (.bipush 40, 2, 0, 0, 0)]
set_option maxRecDepth 20000 in
theorem hX10_put_10 : zChk false 10 cX10_put 10 bX10_put_10 = true := by decide +kernel
def bX10_put_20 : List zI := [(.ifCond .ne 5, 3, 25, 0, 0), (.iconst (-1), 1, 0, 0, 0), (.ireturn, 1, 0, 0, 0)]
set_option maxRecDepth 20000 in
theorem hX10_put_20 : zChk false 10 cX10_put 20 bX10_put_20 = true := by decide +kernel
def bX10_put_23 : List zI := [(.iconst (-1), 1, 0, 0, 0), (.ireturn, 1, 0, 0, 0)]
set_option maxRecDepth 20000 in
theorem hX10_put_23 : zChk false 10 cX10_put 23 bX10_put_23 = true := by decide +kernel
def bX10_put_25 : List zI := [(.aload_n 0, 1, 0, 0, 0), (.iload_n 2, 1, 0, 0, 0), (.aload_n 0, 1, 0, 0, 0), (.iconst 0, 1, 0, 0, 0), (.iconst (-1), 1, 0, 0, 0), (.iconst 0, 1, 0, 0, 0)]
set_option maxRecDepth 20000 in
theorem hX10_put_25 : zChk false 10 cX10_put 25 bX10_put_25 = true := by decide +kernel
def bX10_put_37 : List zI := [(.istore_n 3, 1, 0, 0, 0), (.iload_n 3, 1, 0, 0, 0), (.ifCond .ne 5, 3, 44, 0, 0), (.iconst 0, 1, 0, 0, 0), (.ireturn, 1, 0, 0, 0)]
set_option maxRecDepth 20000 in
theorem hX10_put_37 : zChk false 10 cX10_put 37 bX10_put_37 = true := by decide +kernel
def bX10_put_44 : List zI := [(.aload_n 0, 1, 0, 0, 0)]
set_option maxRecDepth 20000 in
theorem hX10_put_44 : zChk false 10 cX10_put 44 bX10_put_44 = true := by decide +kernel
def bX10_put_48 : List zI := [(.aload_n 0, 1, 0, 0, 0), (.dup, 1, 0, 0, 0), (.getfield 390, 3, 10, 56, 0), (.iload_n 3, 1, 0, 0, 0), (.iadd, 1, 0, 0, 0), (.putfield 390, 3, 10, 56, 0), (.aload_n 0, 1, 0, 0, 0), (.iload_n 3, 1, 0, 0, 0), (.iconst 0, 1, 0, 0, 0), (.iconst (-1), 1, 0, 0, 0), (.iconst 1, 1, 0, 0, 0), (.iload_n 1, 1, 0, 0, 0)]
set_option maxRecDepth 20000 in
theorem hX10_put_48 : zChk false 10 cX10_put 48 bX10_put_48 = true := by decide +kernel
def bX10_put_67 : List zI := [(.ireturn, 1, 0, 0, 0)]
set_option maxRecDepth 20000 in
theorem hX10_put_67 : zChk false 10 cX10_put 67 bX10_put_67 = true := by decide +kernel
def bX10_route_0 : List zI := [(.aload_n 0, 1, 0, 0, 0), (.iconst 0, 1, 0, 0, 0), (.putfield 178, 3, 10, 2, 0), (.iload_n 1, 1, 0, 0, 0), (.iconst 0, 1, 0, 0, 0), (.bipush 8, 2, 0, 0, 0)]
set_option maxRecDepth 20000 in
theorem hX10_route_0 : zChk false 10 cX10_route 0 bX10_route_0 = true := by decide +kernel
def bX10_route_12 : List zI := [(.ifCond .ne 5, 3, 17, 0, 0), (.iconst 0, 1, 0, 0, 0), (.ireturn, 1, 0, 0, 0)]
set_option maxRecDepth 20000 in
theorem hX10_route_12 : zChk false 10 cX10_route 12 bX10_route_12 = true := by decide +kernel
def bX10_route_17 : List zI := [(.iconst 0, 1, 0, 0, 0), (.istore 4, 2, 0, 0, 0)]
set_option maxRecDepth 20000 in
theorem hX10_route_17 : zChk false 10 cX10_route 17 bX10_route_17 = true := by decide +kernel
def bX10_route_20 : List zI := [(.iload 4, 2, 0, 0, 0), (.iload_n 1, 1, 0, 0, 0), (.if_icmp .ge 29, 3, 52, 0, 0), (.aload_n 0, 1, 0, 0, 0), (.lload_n 2, 1, 0, 0, 0), (.iconst 4, 1, 0, 0, 0), (.iload 4, 2, 0, 0, 0), (.imul, 1, 0, 0, 0), (.lshr, 1, 0, 0, 0), (.ldc2_w 528, 3, 0, 0, 15), (.land, 1, 0, 0, 0), (.l2i, 1, 0, 0, 0)]
set_option maxRecDepth 20000 in
theorem hX10_route_20 : zChk false 10 cX10_route 20 bX10_route_20 = true := by decide +kernel
def bX10_route_41 : List zI := [(.ifCond .ne 5, 3, 46, 0, 0), (.iconst 0, 1, 0, 0, 0), (.ireturn, 1, 0, 0, 0)]
set_option maxRecDepth 20000 in
theorem hX10_route_41 : zChk false 10 cX10_route 41 bX10_route_41 = true := by decide +kernel
def bX10_route_46 : List zI := [(.iinc 4 1, 3, 0, 0, 0), (.goto (-29), 3, 20, 0, 0)]
set_option maxRecDepth 20000 in
theorem hX10_route_46 : zChk false 10 cX10_route 46 bX10_route_46 = true := by decide +kernel
def bX10_route_52 : List zI := [(.aload_n 0, 1, 0, 0, 0)]
set_option maxRecDepth 20000 in
theorem hX10_route_52 : zChk false 10 cX10_route 52 bX10_route_52 = true := by decide +kernel
def bX10_route_56 : List zI := [(.iconst 0, 1, 0, 0, 0), (.istore 4, 2, 0, 0, 0)]
set_option maxRecDepth 20000 in
theorem hX10_route_56 : zChk false 10 cX10_route 56 bX10_route_56 = true := by decide +kernel
def bX10_route_59 : List zI := [(.iload 4, 2, 0, 0, 0), (.iload_n 1, 1, 0, 0, 0), (.if_icmp .ge 27, 3, 89, 0, 0), (.aload_n 0, 1, 0, 0, 0), (.getfield 115, 3, 10, 66, 0), (.iload 4, 2, 0, 0, 0), (.lload_n 2, 1, 0, 0, 0), (.iconst 4, 1, 0, 0, 0), (.iload 4, 2, 0, 0, 0), (.imul, 1, 0, 0, 0), (.lshr, 1, 0, 0, 0), (.ldc2_w 528, 3, 0, 0, 15), (.land, 1, 0, 0, 0), (.l2i, 1, 0, 0, 0), (.iastore, 1, 0, 0, 0), (.iinc 4 1, 3, 0, 0, 0), (.goto (-27), 3, 59, 0, 0)]
set_option maxRecDepth 20000 in
theorem hX10_route_59 : zChk false 10 cX10_route 59 bX10_route_59 = true := by decide +kernel
def bX10_route_89 : List zI := [(.aload_n 0, 1, 0, 0, 0), (.iload_n 1, 1, 0, 0, 0), (.putfield 393, 3, 10, 64, 0), (.aload_n 0, 1, 0, 0, 0), (.aload_n 0, 1, 0, 0, 0), (.getfield 387, 3, 10, 55, 0), (.putfield 396, 3, 10, 65, 0), (.iconst 1, 1, 0, 0, 0), (.ireturn, 1, 0, 0, 0)]
set_option maxRecDepth 20000 in
theorem hX10_route_89 : zChk false 10 cX10_route 89 bX10_route_89 = true := by decide +kernel
def bX10_undo_0 : List zI := [(.aload_n 0, 1, 0, 0, 0), (.iconst 0, 1, 0, 0, 0), (.putfield 178, 3, 10, 2, 0), (.aload_n 0, 1, 0, 0, 0), (.getfield 402, 3, 10, 78, 0), (.ifCond .ne 5, 3, 14, 0, 0), (.iconst (-1), 1, 0, 0, 0), (.ireturn, 1, 0, 0, 0)]
set_option maxRecDepth 20000 in
theorem hX10_undo_0 : zChk false 10 cX10_undo 0 bX10_undo_0 = true := by decide +kernel
def bX10_undo_14 : List zI := [(.aload_n 0, 1, 0, 0, 0), (.dup, 1, 0, 0, 0), (.getfield 402, 3, 10, 78, 0), (.iconst 1, 1, 0, 0, 0), (.isub, 1, 0, 0, 0), (.putfield 402, 3, 10, 78, 0), (.iconst 0, 1, 0, 0, 0), (.istore_n 1, 1, 0, 0, 0)]
set_option maxRecDepth 20000 in
theorem hX10_undo_14 : zChk false 10 cX10_undo 14 bX10_undo_14 = true := by decide +kernel
def bX10_undo_26 : List zI := [(.iload_n 1, 1, 0, 0, 0), (.bipush 40, 2, 0, 0, 0), (.if_icmp .ge 57, 3, 86, 0, 0), (.aload_n 0, 1, 0, 0, 0), (.getfield 94, 3, 10, 57, 0), (.iload_n 1, 1, 0, 0, 0), (.aload_n 0, 1, 0, 0, 0), (.getfield 121, 3, 10, 79, 0), (.bipush 40, 2, 0, 0, 0), (.aload_n 0, 1, 0, 0, 0), (.getfield 402, 3, 10, 78, 0), (.imul, 1, 0, 0, 0), (.iload_n 1, 1, 0, 0, 0), (.iadd, 1, 0, 0, 0), (.iaload, 1, 0, 0, 0), (.bipush 8, 2, 0, 0, 0), (.idiv, 1, 0, 0, 0), (.iastore, 1, 0, 0, 0), (.aload_n 0, 1, 0, 0, 0), (.getfield 97, 3, 10, 58, 0), (.iload_n 1, 1, 0, 0, 0), (.aload_n 0, 1, 0, 0, 0), (.getfield 121, 3, 10, 79, 0), (.bipush 40, 2, 0, 0, 0), (.aload_n 0, 1, 0, 0, 0), (.getfield 402, 3, 10, 78, 0), (.imul, 1, 0, 0, 0), (.iload_n 1, 1, 0, 0, 0), (.iadd, 1, 0, 0, 0), (.iaload, 1, 0, 0, 0), (.bipush 8, 2, 0, 0, 0), (.irem, 1, 0, 0, 0), (.iconst 1, 1, 0, 0, 0), (.isub, 1, 0, 0, 0), (.iastore, 1, 0, 0, 0), (.iinc 1 1, 3, 0, 0, 0), (.goto (-57), 3, 26, 0, 0)]
set_option maxRecDepth 20000 in
theorem hX10_undo_26 : zChk false 10 cX10_undo 26 bX10_undo_26 = true := by decide +kernel
def bX10_undo_86 : List zI := [(.iconst 0, 1, 0, 0, 0), (.istore_n 1, 1, 0, 0, 0)]
set_option maxRecDepth 20000 in
theorem hX10_undo_86 : zChk false 10 cX10_undo 86 bX10_undo_86 = true := by decide +kernel
def bX10_undo_88 : List zI := [(.iload_n 1, 1, 0, 0, 0), (.bipush 8, 2, 0, 0, 0), (.if_icmp .ge 29, 3, 120, 0, 0), (.aload_n 0, 1, 0, 0, 0), (.getfield 115, 3, 10, 66, 0), (.iload_n 1, 1, 0, 0, 0), (.aload_n 0, 1, 0, 0, 0), (.getfield 133, 3, 10, 83, 0), (.bipush 8, 2, 0, 0, 0), (.aload_n 0, 1, 0, 0, 0), (.getfield 402, 3, 10, 78, 0), (.imul, 1, 0, 0, 0), (.iload_n 1, 1, 0, 0, 0), (.iadd, 1, 0, 0, 0), (.iaload, 1, 0, 0, 0), (.iastore, 1, 0, 0, 0), (.iinc 1 1, 3, 0, 0, 0), (.goto (-29), 3, 88, 0, 0)]
set_option maxRecDepth 20000 in
theorem hX10_undo_88 : zChk false 10 cX10_undo 88 bX10_undo_88 = true := by decide +kernel
def bX10_undo_120 : List zI := [(.aload_n 0, 1, 0, 0, 0), (.aload_n 0, 1, 0, 0, 0), (.getfield 124, 3, 10, 80, 0), (.aload_n 0, 1, 0, 0, 0), (.getfield 402, 3, 10, 78, 0), (.iaload, 1, 0, 0, 0), (.putfield 390, 3, 10, 56, 0), (.aload_n 0, 1, 0, 0, 0), (.aload_n 0, 1, 0, 0, 0), (.getfield 127, 3, 10, 81, 0), (.aload_n 0, 1, 0, 0, 0), (.getfield 402, 3, 10, 78, 0), (.iaload, 1, 0, 0, 0), (.putfield 393, 3, 10, 64, 0), (.aload_n 0, 1, 0, 0, 0), (.aload_n 0, 1, 0, 0, 0), (.getfield 130, 3, 10, 82, 0), (.aload_n 0, 1, 0, 0, 0), (.getfield 402, 3, 10, 78, 0), (.iaload, 1, 0, 0, 0), (.putfield 396, 3, 10, 65, 0), (.aload_n 0, 1, 0, 0, 0), (.getfield 402, 3, 10, 78, 0), (.ireturn, 1, 0, 0, 0)]
set_option maxRecDepth 20000 in
theorem hX10_undo_120 : zChk false 10 cX10_undo 120 bX10_undo_120 = true := by decide +kernel
def bX10_ticks_0 : List zI := [(.aload_n 0, 1, 0, 0, 0), (.iconst 0, 1, 0, 0, 0), (.putfield 178, 3, 10, 2, 0), (.aload_n 0, 1, 0, 0, 0), (.iload_n 1, 1, 0, 0, 0)]
set_option maxRecDepth 20000 in
theorem hX10_ticks_0 : zChk false 10 cX10_ticks 0 bX10_ticks_0 = true := by decide +kernel
def bX10_ticks_10 : List zI := [(.ifCond .ne 5, 3, 15, 0, 0), (.iconst (-1), 1, 0, 0, 0), (.ireturn, 1, 0, 0, 0)]
set_option maxRecDepth 20000 in
theorem hX10_ticks_10 : zChk false 10 cX10_ticks 10 bX10_ticks_10 = true := by decide +kernel
def bX10_ticks_15 : List zI := [(.aload_n 0, 1, 0, 0, 0)]
set_option maxRecDepth 20000 in
theorem hX10_ticks_15 : zChk false 10 cX10_ticks 15 bX10_ticks_15 = true := by decide +kernel
def bX10_ticks_19 : List zI := [(.iconst 0, 1, 0, 0, 0), (.istore_n 2, 1, 0, 0, 0)]
set_option maxRecDepth 20000 in
theorem hX10_ticks_19 : zChk false 10 cX10_ticks 19 bX10_ticks_19 = true := by decide +kernel
def bX10_ticks_21 : List zI := [(.iload_n 2, 1, 0, 0, 0), (.iload_n 1, 1, 0, 0, 0), (.if_icmp .ge 33, 3, 56, 0, 0), (.aload_n 0, 1, 0, 0, 0), (.iconst 0, 1, 0, 0, 0), (.aload_n 0, 1, 0, 0, 0), (.getfield 387, 3, 10, 55, 0)]
set_option maxRecDepth 20000 in
theorem hX10_ticks_21 : zChk false 10 cX10_ticks 21 bX10_ticks_21 = true := by decide +kernel
def bX10_ticks_35 : List zI := [(.aload_n 0, 1, 0, 0, 0), (.dup, 1, 0, 0, 0), (.getfield 387, 3, 10, 55, 0), (.iconst 1, 1, 0, 0, 0), (.iadd, 1, 0, 0, 0), (.putfield 387, 3, 10, 55, 0), (.aload_n 0, 1, 0, 0, 0), (.iconst 0, 1, 0, 0, 0), (.putfield 390, 3, 10, 56, 0), (.iinc 2 1, 3, 0, 0, 0), (.goto (-32), 3, 21, 0, 0)]
set_option maxRecDepth 20000 in
theorem hX10_ticks_35 : zChk false 10 cX10_ticks 35 bX10_ticks_35 = true := by decide +kernel
def bX10_ticks_56 : List zI := [(.aload_n 0, 1, 0, 0, 0), (.iload_n 1, 1, 0, 0, 0), (.ifCond .le 7, 3, 65, 0, 0), (.iconst 0, 1, 0, 0, 0), (.goto 7, 3, 69, 0, 0)]
set_option maxRecDepth 20000 in
theorem hX10_ticks_56 : zChk false 10 cX10_ticks 56 bX10_ticks_56 = true := by decide +kernel
def bX10_ticks_65 : List zI := [(.aload_n 0, 1, 0, 0, 0), (.getfield 402, 3, 10, 78, 0), (.putfield 402, 3, 10, 78, 0), (.aload_n 0, 1, 0, 0, 0), (.getfield 387, 3, 10, 55, 0), (.ireturn, 1, 0, 0, 0)]
set_option maxRecDepth 20000 in
theorem hX10_ticks_65 : zChk false 10 cX10_ticks 65 bX10_ticks_65 = true := by decide +kernel
def bX10_ticks_69 : List zI := [(.putfield 402, 3, 10, 78, 0), (.aload_n 0, 1, 0, 0, 0), (.getfield 387, 3, 10, 55, 0), (.ireturn, 1, 0, 0, 0)]
set_option maxRecDepth 20000 in
theorem hX10_ticks_69 : zChk false 10 cX10_ticks 69 bX10_ticks_69 = true := by decide +kernel
def bX10_sum_0 : List zI := [(.aload_n 0, 1, 0, 0, 0), (.iconst 0, 1, 0, 0, 0), (.putfield 178, 3, 10, 2, 0), (.iload_n 1, 1, 0, 0, 0), (.iconst 0, 1, 0, 0, 0), (.bipush 6, 2, 0, 0, 0)]
set_option maxRecDepth 20000 in
theorem hX10_sum_0 : zChk false 10 cX10_sum 0 bX10_sum_0 = true := by decide +kernel
def bX10_sum_12 : List zI := [(.ifCond .eq 12, 3, 24, 0, 0), (.aload_n 0, 1, 0, 0, 0), (.getfield 109, 3, 10, 62, 0), (.iload_n 1, 1, 0, 0, 0), (.iaload, 1, 0, 0, 0), (.goto 18, 3, 39, 0, 0)]
set_option maxRecDepth 20000 in
theorem hX10_sum_12 : zChk false 10 cX10_sum 12 bX10_sum_12 = true := by decide +kernel
def bX10_sum_24 : List zI := [(.iload_n 1, 1, 0, 0, 0), (.bipush 7, 2, 0, 0, 0), (.if_icmp .ne 11, 3, 38, 0, 0), (.aload_n 0, 1, 0, 0, 0), (.iconst 0, 1, 0, 0, 0)]
set_option maxRecDepth 20000 in
theorem hX10_sum_24 : zChk false 10 cX10_sum 24 bX10_sum_24 = true := by decide +kernel
def bX10_sum_35 : List zI := [(.goto 4, 3, 39, 0, 0)]
set_option maxRecDepth 20000 in
theorem hX10_sum_35 : zChk false 10 cX10_sum 35 bX10_sum_35 = true := by decide +kernel
def bX10_sum_38 : List zI := [(.iconst (-1), 1, 0, 0, 0), (.ireturn, 1, 0, 0, 0)]
set_option maxRecDepth 20000 in
theorem hX10_sum_38 : zChk false 10 cX10_sum 38 bX10_sum_38 = true := by decide +kernel
def bX10_sum_39 : List zI := [(.ireturn, 1, 0, 0, 0)]
set_option maxRecDepth 20000 in
theorem hX10_sum_39 : zChk false 10 cX10_sum 39 bX10_sum_39 = true := by decide +kernel
def bX10_run_0 : List zI := [(.aload_n 0, 1, 0, 0, 0), (.iconst 0, 1, 0, 0, 0), (.putfield 178, 3, 10, 2, 0), (.aload_n 0, 1, 0, 0, 0), (.iload_n 1, 1, 0, 0, 0)]
set_option maxRecDepth 20000 in
theorem hX10_run_0 : zChk false 10 cX10_run 0 bX10_run_0 = true := by decide +kernel
def bX10_run_10 : List zI := [(.ifCond .ne 7, 3, 17, 0, 0), (.ldc_w 533, 3, 0, 0, -2147483648), (.ireturn, 1, 0, 0, 0)]
set_option maxRecDepth 20000 in
theorem hX10_run_10 : zChk false 10 cX10_run 10 bX10_run_10 = true := by decide +kernel
def bX10_run_17 : List zI := [(.aload_n 0, 1, 0, 0, 0)]
set_option maxRecDepth 20000 in
theorem hX10_run_17 : zChk false 10 cX10_run 17 bX10_run_17 = true := by decide +kernel
def bX10_run_21 : List zI := [(.aload_n 0, 1, 0, 0, 0)]
set_option maxRecDepth 20000 in
theorem hX10_run_21 : zChk false 10 cX10_run 21 bX10_run_21 = true := by decide +kernel
def bX10_run_25 : List zI := [(.aload_n 0, 1, 0, 0, 0), (.iload_n 1, 1, 0, 0, 0)]
set_option maxRecDepth 20000 in
theorem hX10_run_25 : zChk false 10 cX10_run 25 bX10_run_25 = true := by decide +kernel
def bX10_run_30 : List zI := [(.ireturn, 1, 0, 0, 0)]
set_option maxRecDepth 20000 in
theorem hX10_run_30 : zChk false 10 cX10_run 30 bX10_run_30 = true := by decide +kernel
def bX10_many_0 : List zI := [(.aload_n 0, 1, 0, 0, 0), (.iconst 0, 1, 0, 0, 0), (.putfield 178, 3, 10, 2, 0), (.aload_n 0, 1, 0, 0, 0), (.iload_n 1, 1, 0, 0, 0)]
set_option maxRecDepth 20000 in
theorem hX10_many_0 : zChk false 10 cX10_many 0 bX10_many_0 = true := by decide +kernel
def bX10_many_10 : List zI := [(.ifCond .eq 20, 3, 30, 0, 0), (.aload_n 0, 1, 0, 0, 0), (.iload_n 2, 1, 0, 0, 0)]
set_option maxRecDepth 20000 in
theorem hX10_many_10 : zChk false 10 cX10_many 10 bX10_many_10 = true := by decide +kernel
def bX10_many_18 : List zI := [(.ifCond .eq 12, 3, 30, 0, 0), (.iload_n 3, 1, 0, 0, 0), (.iconst 0, 1, 0, 0, 0), (.iconst 1, 1, 0, 0, 0)]
set_option maxRecDepth 20000 in
theorem hX10_many_18 : zChk false 10 cX10_many 18 bX10_many_18 = true := by decide +kernel
def bX10_many_27 : List zI := [(.ifCond .ne 7, 3, 34, 0, 0), (.ldc_w 533, 3, 0, 0, -2147483648), (.ireturn, 1, 0, 0, 0)]
set_option maxRecDepth 20000 in
theorem hX10_many_27 : zChk false 10 cX10_many 27 bX10_many_27 = true := by decide +kernel
def bX10_many_30 : List zI := [(.ldc_w 533, 3, 0, 0, -2147483648), (.ireturn, 1, 0, 0, 0)]
set_option maxRecDepth 20000 in
theorem hX10_many_30 : zChk false 10 cX10_many 30 bX10_many_30 = true := by decide +kernel
def bX10_many_34 : List zI := [(.aload_n 0, 1, 0, 0, 0)]
set_option maxRecDepth 20000 in
theorem hX10_many_34 : zChk false 10 cX10_many 34 bX10_many_34 = true := by decide +kernel
def bX10_many_38 : List zI := [(.iconst (-1), 1, 0, 0, 0), (.istore 4, 2, 0, 0, 0), (.iconst 0, 1, 0, 0, 0), (.istore 5, 2, 0, 0, 0), (.aload_n 0, 1, 0, 0, 0), (.iconst 0, 1, 0, 0, 0), (.iconst (-1), 1, 0, 0, 0), (.iconst 0, 1, 0, 0, 0)]
set_option maxRecDepth 20000 in
theorem hX10_many_38 : zChk false 10 cX10_many 38 bX10_many_38 = true := by decide +kernel
def bX10_many_51 : List zI := [(.istore 6, 2, 0, 0, 0), (.iconst 0, 1, 0, 0, 0), (.istore 7, 2, 0, 0, 0)]
set_option maxRecDepth 20000 in
theorem hX10_many_51 : zChk false 10 cX10_many 51 bX10_many_51 = true := by decide +kernel
def bX10_many_56 : List zI := [(.iload 7, 2, 0, 0, 0), (.iload 6, 2, 0, 0, 0), (.if_icmp .gt 110, 3, 170, 0, 0), (.aload_n 0, 1, 0, 0, 0)]
set_option maxRecDepth 20000 in
theorem hX10_many_56 : zChk false 10 cX10_many 56 bX10_many_56 = true := by decide +kernel
def bX10_many_67 : List zI := [(.iload 7, 2, 0, 0, 0), (.istore 8, 2, 0, 0, 0), (.iconst 0, 1, 0, 0, 0), (.istore 9, 2, 0, 0, 0)]
set_option maxRecDepth 20000 in
theorem hX10_many_67 : zChk false 10 cX10_many 67 bX10_many_67 = true := by decide +kernel
def bX10_many_74 : List zI := [(.iload 9, 2, 0, 0, 0), (.aload_n 0, 1, 0, 0, 0), (.getfield 56, 3, 10, 36, 0), (.iconst 1, 1, 0, 0, 0), (.iaload, 1, 0, 0, 0), (.if_icmp .ge 52, 3, 134, 0, 0), (.iload 8, 2, 0, 0, 0), (.ifCond .le 47, 3, 134, 0, 0), (.aload_n 0, 1, 0, 0, 0), (.getfield 94, 3, 10, 57, 0), (.iload 9, 2, 0, 0, 0), (.iaload, 1, 0, 0, 0), (.ifCond .eq 6, 3, 103, 0, 0), (.goto 28, 3, 128, 0, 0)]
set_option maxRecDepth 20000 in
theorem hX10_many_74 : zChk false 10 cX10_many 74 bX10_many_74 = true := by decide +kernel
def bX10_many_103 : List zI := [(.aload_n 0, 1, 0, 0, 0), (.getfield 94, 3, 10, 57, 0), (.bipush 40, 2, 0, 0, 0), (.iload 9, 2, 0, 0, 0), (.iadd, 1, 0, 0, 0), (.iconst 1, 1, 0, 0, 0), (.iastore, 1, 0, 0, 0), (.aload_n 0, 1, 0, 0, 0), (.getfield 97, 3, 10, 58, 0), (.bipush 40, 2, 0, 0, 0), (.iload 9, 2, 0, 0, 0), (.iadd, 1, 0, 0, 0), (.iload_n 1, 1, 0, 0, 0), (.iastore, 1, 0, 0, 0), (.iinc 8 (-1), 3, 0, 0, 0), (.iinc 9 1, 3, 0, 0, 0), (.goto (-57), 3, 74, 0, 0)]
set_option maxRecDepth 20000 in
theorem hX10_many_103 : zChk false 10 cX10_many 103 bX10_many_103 = true := by decide +kernel
def bX10_many_128 : List zI := [(.iinc 9 1, 3, 0, 0, 0), (.goto (-57), 3, 74, 0, 0)]
set_option maxRecDepth 20000 in
theorem hX10_many_128 : zChk false 10 cX10_many 128 bX10_many_128 = true := by decide +kernel
def bX10_many_134 : List zI := [(.aload_n 0, 1, 0, 0, 0), (.iload_n 2, 1, 0, 0, 0)]
set_option maxRecDepth 20000 in
theorem hX10_many_134 : zChk false 10 cX10_many 134 bX10_many_134 = true := by decide +kernel
def bX10_many_139 : List zI := [(.istore 9, 2, 0, 0, 0), (.iload 4, 2, 0, 0, 0), (.ifCond .lt 13, 3, 156, 0, 0), (.iload 9, 2, 0, 0, 0), (.iload 5, 2, 0, 0, 0), (.if_icmp .gt 6, 3, 156, 0, 0), (.goto 11, 3, 164, 0, 0)]
set_option maxRecDepth 20000 in
theorem hX10_many_139 : zChk false 10 cX10_many 139 bX10_many_139 = true := by decide +kernel
def bX10_many_156 : List zI := [(.iload 7, 2, 0, 0, 0), (.istore 4, 2, 0, 0, 0), (.iload 9, 2, 0, 0, 0), (.istore 5, 2, 0, 0, 0), (.iinc 7 1, 3, 0, 0, 0), (.goto (-111), 3, 56, 0, 0)]
set_option maxRecDepth 20000 in
theorem hX10_many_156 : zChk false 10 cX10_many 156 bX10_many_156 = true := by decide +kernel
def bX10_many_164 : List zI := [(.iinc 7 1, 3, 0, 0, 0), (.goto (-111), 3, 56, 0, 0)]
set_option maxRecDepth 20000 in
theorem hX10_many_164 : zChk false 10 cX10_many 164 bX10_many_164 = true := by decide +kernel
def bX10_many_170 : List zI := [(.iload_n 3, 1, 0, 0, 0), (.ifCond .ne 8, 3, 179, 0, 0), (.iload 4, 2, 0, 0, 0), (.goto 5, 3, 181, 0, 0)]
set_option maxRecDepth 20000 in
theorem hX10_many_170 : zChk false 10 cX10_many 170 bX10_many_170 = true := by decide +kernel
def bX10_many_179 : List zI := [(.iload 5, 2, 0, 0, 0), (.ireturn, 1, 0, 0, 0)]
set_option maxRecDepth 20000 in
theorem hX10_many_179 : zChk false 10 cX10_many 179 bX10_many_179 = true := by decide +kernel
def bX10_many_181 : List zI := [(.ireturn, 1, 0, 0, 0)]
set_option maxRecDepth 20000 in
theorem hX10_many_181 : zChk false 10 cX10_many 181 bX10_many_181 = true := by decide +kernel
def bX10_when_0 : List zI := [(.aload_n 0, 1, 0, 0, 0), (.iconst 0, 1, 0, 0, 0), (.putfield 178, 3, 10, 2, 0), (.aload_n 0, 1, 0, 0, 0), (.iload_n 1, 1, 0, 0, 0)]
set_option maxRecDepth 20000 in
theorem hX10_when_0 : zChk false 10 cX10_when 0 bX10_when_0 = true := by decide +kernel
def bX10_when_10 : List zI := [(.ifCond .eq 12, 3, 22, 0, 0), (.iload_n 2, 1, 0, 0, 0), (.iconst 0, 1, 0, 0, 0), (.iconst 1, 1, 0, 0, 0)]
set_option maxRecDepth 20000 in
theorem hX10_when_10 : zChk false 10 cX10_when 10 bX10_when_10 = true := by decide +kernel
def bX10_when_19 : List zI := [(.ifCond .ne 7, 3, 26, 0, 0), (.ldc_w 533, 3, 0, 0, -2147483648), (.ireturn, 1, 0, 0, 0)]
set_option maxRecDepth 20000 in
theorem hX10_when_19 : zChk false 10 cX10_when 19 bX10_when_19 = true := by decide +kernel
def bX10_when_22 : List zI := [(.ldc_w 533, 3, 0, 0, -2147483648), (.ireturn, 1, 0, 0, 0)]
set_option maxRecDepth 20000 in
theorem hX10_when_22 : zChk false 10 cX10_when 22 bX10_when_22 = true := by decide +kernel
def bX10_when_26 : List zI := [(.aload_n 0, 1, 0, 0, 0)]
set_option maxRecDepth 20000 in
theorem hX10_when_26 : zChk false 10 cX10_when 26 bX10_when_26 = true := by decide +kernel
def bX10_when_30 : List zI := [(.aload_n 0, 1, 0, 0, 0), (.getfield 387, 3, 10, 55, 0), (.iload_n 1, 1, 0, 0, 0), (.iadd, 1, 0, 0, 0), (.istore_n 3, 1, 0, 0, 0), (.iconst (-1), 1, 0, 0, 0), (.istore 4, 2, 0, 0, 0), (.iconst 0, 1, 0, 0, 0), (.istore 5, 2, 0, 0, 0), (.aload_n 0, 1, 0, 0, 0), (.getfield 387, 3, 10, 55, 0), (.istore 6, 2, 0, 0, 0)]
set_option maxRecDepth 20000 in
theorem hX10_when_30 : zChk false 10 cX10_when 30 bX10_when_30 = true := by decide +kernel
def bX10_when_49 : List zI := [(.iload 6, 2, 0, 0, 0), (.iload_n 3, 1, 0, 0, 0), (.if_icmp .gt 79, 3, 131, 0, 0), (.aload_n 0, 1, 0, 0, 0)]
set_option maxRecDepth 20000 in
theorem hX10_when_49 : zChk false 10 cX10_when 49 bX10_when_49 = true := by decide +kernel
def bX10_when_59 : List zI := [(.aload_n 0, 1, 0, 0, 0), (.getfield 387, 3, 10, 55, 0), (.istore 7, 2, 0, 0, 0)]
set_option maxRecDepth 20000 in
theorem hX10_when_59 : zChk false 10 cX10_when 59 bX10_when_59 = true := by decide +kernel
def bX10_when_65 : List zI := [(.iload 7, 2, 0, 0, 0), (.iload_n 3, 1, 0, 0, 0), (.if_icmp .ge 27, 3, 95, 0, 0), (.iload 7, 2, 0, 0, 0), (.iload 6, 2, 0, 0, 0), (.if_icmp .ne 7, 3, 82, 0, 0), (.aload_n 0, 1, 0, 0, 0)]
set_option maxRecDepth 20000 in
theorem hX10_when_65 : zChk false 10 cX10_when 65 bX10_when_65 = true := by decide +kernel
def bX10_when_82 : List zI := [(.aload_n 0, 1, 0, 0, 0), (.iconst 1, 1, 0, 0, 0), (.iload 7, 2, 0, 0, 0)]
set_option maxRecDepth 20000 in
theorem hX10_when_82 : zChk false 10 cX10_when 82 bX10_when_82 = true := by decide +kernel
def bX10_when_89 : List zI := [(.iinc 7 1, 3, 0, 0, 0), (.goto (-27), 3, 65, 0, 0)]
set_option maxRecDepth 20000 in
theorem hX10_when_89 : zChk false 10 cX10_when 89 bX10_when_89 = true := by decide +kernel
def bX10_when_95 : List zI := [(.aload_n 0, 1, 0, 0, 0), (.iconst 1, 1, 0, 0, 0)]
set_option maxRecDepth 20000 in
theorem hX10_when_95 : zChk false 10 cX10_when 95 bX10_when_95 = true := by decide +kernel
def bX10_when_100 : List zI := [(.istore 7, 2, 0, 0, 0), (.iload 4, 2, 0, 0, 0), (.ifCond .lt 13, 3, 117, 0, 0), (.iload 7, 2, 0, 0, 0), (.iload 5, 2, 0, 0, 0), (.if_icmp .gt 6, 3, 117, 0, 0), (.goto 11, 3, 125, 0, 0)]
set_option maxRecDepth 20000 in
theorem hX10_when_100 : zChk false 10 cX10_when 100 bX10_when_100 = true := by decide +kernel
def bX10_when_117 : List zI := [(.iload 6, 2, 0, 0, 0), (.istore 4, 2, 0, 0, 0), (.iload 7, 2, 0, 0, 0), (.istore 5, 2, 0, 0, 0), (.iinc 6 1, 3, 0, 0, 0), (.goto (-79), 3, 49, 0, 0)]
set_option maxRecDepth 20000 in
theorem hX10_when_117 : zChk false 10 cX10_when 117 bX10_when_117 = true := by decide +kernel
def bX10_when_125 : List zI := [(.iinc 6 1, 3, 0, 0, 0), (.goto (-79), 3, 49, 0, 0)]
set_option maxRecDepth 20000 in
theorem hX10_when_125 : zChk false 10 cX10_when 125 bX10_when_125 = true := by decide +kernel
def bX10_when_131 : List zI := [(.iload_n 2, 1, 0, 0, 0), (.ifCond .ne 8, 3, 140, 0, 0), (.iload 4, 2, 0, 0, 0), (.goto 5, 3, 142, 0, 0)]
set_option maxRecDepth 20000 in
theorem hX10_when_131 : zChk false 10 cX10_when 131 bX10_when_131 = true := by decide +kernel
def bX10_when_140 : List zI := [(.iload 5, 2, 0, 0, 0), (.ireturn, 1, 0, 0, 0)]
set_option maxRecDepth 20000 in
theorem hX10_when_140 : zChk false 10 cX10_when 140 bX10_when_140 = true := by decide +kernel
def bX10_when_142 : List zI := [(.ireturn, 1, 0, 0, 0)]
set_option maxRecDepth 20000 in
theorem hX10_when_142 : zChk false 10 cX10_when 142 bX10_when_142 = true := by decide +kernel
def bX10_turn_0 : List zI := [(.aload_n 0, 1, 0, 0, 0), (.getfield 136, 3, 10, 84, 0), (.iload_n 1, 1, 0, 0, 0), (.iaload, 1, 0, 0, 0), (.istore_n 3, 1, 0, 0, 0), (.aload_n 0, 1, 0, 0, 0), (.getfield 136, 3, 10, 84, 0), (.iload_n 1, 1, 0, 0, 0), (.aload_n 0, 1, 0, 0, 0), (.getfield 136, 3, 10, 84, 0), (.iload_n 2, 1, 0, 0, 0), (.iaload, 1, 0, 0, 0), (.iastore, 1, 0, 0, 0), (.aload_n 0, 1, 0, 0, 0), (.getfield 136, 3, 10, 84, 0), (.iload_n 2, 1, 0, 0, 0), (.iload_n 3, 1, 0, 0, 0), (.iastore, 1, 0, 0, 0), (.return_, 1, 0, 0, 0)]
set_option maxRecDepth 20000 in
theorem hX10_turn_0 : zChk false 10 cX10_turn 0 bX10_turn_0 = true := by decide +kernel
def bX10_nextOrder_0 : List zI := [(.aload_n 0, 1, 0, 0, 0), (.getfield 261, 3, 10, 12, 0), (.iconst 2, 1, 0, 0, 0), (.isub, 1, 0, 0, 0), (.istore_n 1, 1, 0, 0, 0)]
set_option maxRecDepth 20000 in
theorem hX10_nextOrder_0 : zChk false 10 cX10_nextOrder 0 bX10_nextOrder_0 = true := by decide +kernel
def bX10_nextOrder_7 : List zI := [(.iload_n 1, 1, 0, 0, 0), (.ifCond .lt 26, 3, 34, 0, 0), (.aload_n 0, 1, 0, 0, 0), (.getfield 136, 3, 10, 84, 0), (.iload_n 1, 1, 0, 0, 0), (.iaload, 1, 0, 0, 0), (.aload_n 0, 1, 0, 0, 0), (.getfield 136, 3, 10, 84, 0), (.iload_n 1, 1, 0, 0, 0), (.iconst 1, 1, 0, 0, 0), (.iadd, 1, 0, 0, 0), (.iaload, 1, 0, 0, 0), (.if_icmp .le 9, 3, 34, 0, 0), (.iinc 1 (-1), 3, 0, 0, 0), (.goto (-24), 3, 7, 0, 0)]
set_option maxRecDepth 20000 in
theorem hX10_nextOrder_7 : zChk false 10 cX10_nextOrder 7 bX10_nextOrder_7 = true := by decide +kernel
def bX10_nextOrder_34 : List zI := [(.iload_n 1, 1, 0, 0, 0), (.ifCond .ge 5, 3, 40, 0, 0), (.iconst 0, 1, 0, 0, 0), (.ireturn, 1, 0, 0, 0)]
set_option maxRecDepth 20000 in
theorem hX10_nextOrder_34 : zChk false 10 cX10_nextOrder 34 bX10_nextOrder_34 = true := by decide +kernel
def bX10_nextOrder_40 : List zI := [(.aload_n 0, 1, 0, 0, 0), (.getfield 261, 3, 10, 12, 0), (.iconst 1, 1, 0, 0, 0), (.isub, 1, 0, 0, 0), (.istore_n 2, 1, 0, 0, 0)]
set_option maxRecDepth 20000 in
theorem hX10_nextOrder_40 : zChk false 10 cX10_nextOrder 40 bX10_nextOrder_40 = true := by decide +kernel
def bX10_nextOrder_47 : List zI := [(.aload_n 0, 1, 0, 0, 0), (.getfield 136, 3, 10, 84, 0), (.iload_n 2, 1, 0, 0, 0), (.iaload, 1, 0, 0, 0), (.aload_n 0, 1, 0, 0, 0), (.getfield 136, 3, 10, 84, 0), (.iload_n 1, 1, 0, 0, 0), (.iaload, 1, 0, 0, 0), (.if_icmp .ge 9, 3, 68, 0, 0), (.iinc 2 (-1), 3, 0, 0, 0), (.goto (-18), 3, 47, 0, 0)]
set_option maxRecDepth 20000 in
theorem hX10_nextOrder_47 : zChk false 10 cX10_nextOrder 47 bX10_nextOrder_47 = true := by decide +kernel
def bX10_nextOrder_68 : List zI := [(.aload_n 0, 1, 0, 0, 0), (.iload_n 1, 1, 0, 0, 0), (.iload_n 2, 1, 0, 0, 0)]
set_option maxRecDepth 20000 in
theorem hX10_nextOrder_68 : zChk false 10 cX10_nextOrder 68 bX10_nextOrder_68 = true := by decide +kernel
def bX10_nextOrder_74 : List zI := [(.iload_n 1, 1, 0, 0, 0), (.iconst 1, 1, 0, 0, 0), (.iadd, 1, 0, 0, 0), (.istore_n 3, 1, 0, 0, 0), (.aload_n 0, 1, 0, 0, 0), (.getfield 261, 3, 10, 12, 0), (.iconst 1, 1, 0, 0, 0), (.isub, 1, 0, 0, 0), (.istore 4, 2, 0, 0, 0)]
set_option maxRecDepth 20000 in
theorem hX10_nextOrder_74 : zChk false 10 cX10_nextOrder 74 bX10_nextOrder_74 = true := by decide +kernel
def bX10_nextOrder_86 : List zI := [(.iload_n 3, 1, 0, 0, 0), (.iload 4, 2, 0, 0, 0), (.if_icmp .ge 19, 3, 108, 0, 0), (.aload_n 0, 1, 0, 0, 0), (.iload_n 3, 1, 0, 0, 0), (.iload 4, 2, 0, 0, 0)]
set_option maxRecDepth 20000 in
theorem hX10_nextOrder_86 : zChk false 10 cX10_nextOrder 86 bX10_nextOrder_86 = true := by decide +kernel
def bX10_nextOrder_99 : List zI := [(.iinc 3 1, 3, 0, 0, 0), (.iinc 4 (-1), 3, 0, 0, 0), (.goto (-19), 3, 86, 0, 0)]
set_option maxRecDepth 20000 in
theorem hX10_nextOrder_99 : zChk false 10 cX10_nextOrder 99 bX10_nextOrder_99 = true := by decide +kernel
def bX10_nextOrder_108 : List zI := [(.iconst 1, 1, 0, 0, 0), (.ireturn, 1, 0, 0, 0)]
set_option maxRecDepth 20000 in
theorem hX10_nextOrder_108 : zChk false 10 cX10_nextOrder 108 bX10_nextOrder_108 = true := by decide +kernel
def bX10_packed__0 : List zI := [(.iconst 0, 1, 0, 0, 0), (.istore_n 1, 1, 0, 0, 0), (.iconst 0, 1, 0, 0, 0), (.istore_n 2, 1, 0, 0, 0)]
set_option maxRecDepth 20000 in
theorem hX10_packed__0 : zChk false 10 cX10_packed_ 0 bX10_packed__0 = true := by decide +kernel
def bX10_packed__4 : List zI := [(.iload_n 2, 1, 0, 0, 0), (.aload_n 0, 1, 0, 0, 0), (.getfield 261, 3, 10, 12, 0), (.if_icmp .ge 22, 3, 31, 0, 0), (.iload_n 1, 1, 0, 0, 0), (.aload_n 0, 1, 0, 0, 0), (.getfield 136, 3, 10, 84, 0), (.iload_n 2, 1, 0, 0, 0), (.iaload, 1, 0, 0, 0), (.iconst 4, 1, 0, 0, 0), (.iload_n 2, 1, 0, 0, 0), (.imul, 1, 0, 0, 0), (.ishl, 1, 0, 0, 0), (.ior, 1, 0, 0, 0), (.istore_n 1, 1, 0, 0, 0), (.iinc 2 1, 3, 0, 0, 0), (.goto (-24), 3, 4, 0, 0)]
set_option maxRecDepth 20000 in
theorem hX10_packed__4 : zChk false 10 cX10_packed_ 4 bX10_packed__4 = true := by decide +kernel
def bX10_packed__31 : List zI := [(.iload_n 1, 1, 0, 0, 0), (.ireturn, 1, 0, 0, 0)]
set_option maxRecDepth 20000 in
theorem hX10_packed__31 : zChk false 10 cX10_packed_ 31 bX10_packed__31 = true := by decide +kernel
def bX10_way_0 : List zI := [(.aload_n 0, 1, 0, 0, 0), (.iconst 0, 1, 0, 0, 0), (.putfield 178, 3, 10, 2, 0), (.aload_n 0, 1, 0, 0, 0), (.getfield 261, 3, 10, 12, 0), (.ifCond .eq 20, 3, 29, 0, 0), (.aload_n 0, 1, 0, 0, 0), (.iload_n 1, 1, 0, 0, 0)]
set_option maxRecDepth 20000 in
theorem hX10_way_0 : zChk false 10 cX10_way 0 bX10_way_0 = true := by decide +kernel
def bX10_way_17 : List zI := [(.ifCond .eq 12, 3, 29, 0, 0), (.iload_n 2, 1, 0, 0, 0), (.iconst 0, 1, 0, 0, 0), (.iconst 1, 1, 0, 0, 0)]
set_option maxRecDepth 20000 in
theorem hX10_way_17 : zChk false 10 cX10_way 17 bX10_way_17 = true := by decide +kernel
def bX10_way_26 : List zI := [(.ifCond .ne 5, 3, 31, 0, 0), (.iconst (-1), 1, 0, 0, 0), (.ireturn, 1, 0, 0, 0)]
set_option maxRecDepth 20000 in
theorem hX10_way_26 : zChk false 10 cX10_way 26 bX10_way_26 = true := by decide +kernel
def bX10_way_29 : List zI := [(.iconst (-1), 1, 0, 0, 0), (.ireturn, 1, 0, 0, 0)]
set_option maxRecDepth 20000 in
theorem hX10_way_29 : zChk false 10 cX10_way 29 bX10_way_29 = true := by decide +kernel
def bX10_way_31 : List zI := [(.aload_n 0, 1, 0, 0, 0)]
set_option maxRecDepth 20000 in
theorem hX10_way_31 : zChk false 10 cX10_way 31 bX10_way_31 = true := by decide +kernel
def bX10_way_35 : List zI := [(.aload_n 0, 1, 0, 0, 0), (.aload_n 0, 1, 0, 0, 0), (.getfield 261, 3, 10, 12, 0), (.putfield 432, 3, 10, 75, 0), (.aload_n 0, 1, 0, 0, 0), (.aload_n 0, 1, 0, 0, 0), (.getfield 387, 3, 10, 55, 0), (.putfield 435, 3, 10, 76, 0), (.iconst (-1), 1, 0, 0, 0), (.istore_n 3, 1, 0, 0, 0), (.iconst (-1), 1, 0, 0, 0), (.istore 4, 2, 0, 0, 0), (.aload_n 0, 1, 0, 0, 0)]
set_option maxRecDepth 20000 in
theorem hX10_way_35 : zChk false 10 cX10_way 35 bX10_way_35 = true := by decide +kernel
def bX10_way_60 : List zI := [(.iconst 1, 1, 0, 0, 0), (.istore 5, 2, 0, 0, 0)]
set_option maxRecDepth 20000 in
theorem hX10_way_60 : zChk false 10 cX10_way 60 bX10_way_60 = true := by decide +kernel
def bX10_way_63 : List zI := [(.iload 5, 2, 0, 0, 0), (.ifCond .eq 80, 3, 145, 0, 0), (.iconst 0, 1, 0, 0, 0), (.istore 6, 2, 0, 0, 0)]
set_option maxRecDepth 20000 in
theorem hX10_way_63 : zChk false 10 cX10_way 63 bX10_way_63 = true := by decide +kernel
def bX10_way_71 : List zI := [(.iload 6, 2, 0, 0, 0), (.aload_n 0, 1, 0, 0, 0), (.getfield 261, 3, 10, 12, 0), (.if_icmp .ge 23, 3, 100, 0, 0), (.aload_n 0, 1, 0, 0, 0), (.getfield 118, 3, 10, 77, 0), (.iload 6, 2, 0, 0, 0), (.aload_n 0, 1, 0, 0, 0), (.getfield 136, 3, 10, 84, 0), (.iload 6, 2, 0, 0, 0), (.iaload, 1, 0, 0, 0), (.iastore, 1, 0, 0, 0), (.iinc 6 1, 3, 0, 0, 0), (.goto (-26), 3, 71, 0, 0)]
set_option maxRecDepth 20000 in
theorem hX10_way_71 : zChk false 10 cX10_way 71 bX10_way_71 = true := by decide +kernel
def bX10_way_100 : List zI := [(.aload_n 0, 1, 0, 0, 0)]
set_option maxRecDepth 20000 in
theorem hX10_way_100 : zChk false 10 cX10_way 100 bX10_way_100 = true := by decide +kernel
def bX10_way_104 : List zI := [(.aload_n 0, 1, 0, 0, 0), (.iload_n 1, 1, 0, 0, 0)]
set_option maxRecDepth 20000 in
theorem hX10_way_104 : zChk false 10 cX10_way 104 bX10_way_104 = true := by decide +kernel
def bX10_way_109 : List zI := [(.pop, 1, 0, 0, 0), (.aload_n 0, 1, 0, 0, 0), (.getfield 109, 3, 10, 62, 0), (.bipush 7, 2, 0, 0, 0), (.iaload, 1, 0, 0, 0), (.iload 4, 2, 0, 0, 0), (.if_icmp .le 17, 3, 136, 0, 0), (.aload_n 0, 1, 0, 0, 0), (.getfield 109, 3, 10, 62, 0), (.bipush 7, 2, 0, 0, 0), (.iaload, 1, 0, 0, 0), (.istore 4, 2, 0, 0, 0), (.aload_n 0, 1, 0, 0, 0)]
set_option maxRecDepth 20000 in
theorem hX10_way_109 : zChk false 10 cX10_way 109 bX10_way_109 = true := by decide +kernel
def bX10_way_135 : List zI := [(.istore_n 3, 1, 0, 0, 0), (.aload_n 0, 1, 0, 0, 0)]
set_option maxRecDepth 20000 in
theorem hX10_way_135 : zChk false 10 cX10_way 135 bX10_way_135 = true := by decide +kernel
def bX10_way_136 : List zI := [(.aload_n 0, 1, 0, 0, 0)]
set_option maxRecDepth 20000 in
theorem hX10_way_136 : zChk false 10 cX10_way 136 bX10_way_136 = true := by decide +kernel
def bX10_way_140 : List zI := [(.istore 5, 2, 0, 0, 0), (.goto (-79), 3, 63, 0, 0)]
set_option maxRecDepth 20000 in
theorem hX10_way_140 : zChk false 10 cX10_way 140 bX10_way_140 = true := by decide +kernel
def bX10_way_145 : List zI := [(.iload_n 2, 1, 0, 0, 0), (.ifCond .ne 8, 3, 154, 0, 0), (.iload 4, 2, 0, 0, 0), (.goto 4, 3, 155, 0, 0)]
set_option maxRecDepth 20000 in
theorem hX10_way_145 : zChk false 10 cX10_way 145 bX10_way_145 = true := by decide +kernel
def bX10_way_154 : List zI := [(.iload_n 3, 1, 0, 0, 0), (.ireturn, 1, 0, 0, 0)]
set_option maxRecDepth 20000 in
theorem hX10_way_154 : zChk false 10 cX10_way 154 bX10_way_154 = true := by decide +kernel
def bX10_way_155 : List zI := [(.ireturn, 1, 0, 0, 0)]
set_option maxRecDepth 20000 in
theorem hX10_way_155 : zChk false 10 cX10_way 155 bX10_way_155 = true := by decide +kernel
def bX10_second_0 : List zI := [(.aload_n 0, 1, 0, 0, 0), (.iconst 0, 1, 0, 0, 0), (.putfield 178, 3, 10, 2, 0), (.aload_n 0, 1, 0, 0, 0), (.iload_n 1, 1, 0, 0, 0)]
set_option maxRecDepth 20000 in
theorem hX10_second_0 : zChk false 10 cX10_second 0 bX10_second_0 = true := by decide +kernel
def bX10_second_10 : List zI := [(.ifCond .eq 10, 3, 20, 0, 0), (.aload_n 0, 1, 0, 0, 0), (.getfield 393, 3, 10, 64, 0), (.ifCond .ne 7, 3, 24, 0, 0), (.ldc_w 533, 3, 0, 0, -2147483648), (.ireturn, 1, 0, 0, 0)]
set_option maxRecDepth 20000 in
theorem hX10_second_10 : zChk false 10 cX10_second 10 bX10_second_10 = true := by decide +kernel
def bX10_second_20 : List zI := [(.ldc_w 533, 3, 0, 0, -2147483648), (.ireturn, 1, 0, 0, 0)]
set_option maxRecDepth 20000 in
theorem hX10_second_20 : zChk false 10 cX10_second 20 bX10_second_20 = true := by decide +kernel
def bX10_second_24 : List zI := [(.aload_n 0, 1, 0, 0, 0)]
set_option maxRecDepth 20000 in
theorem hX10_second_24 : zChk false 10 cX10_second 24 bX10_second_24 = true := by decide +kernel
def bX10_second_28 : List zI := [(.aload_n 0, 1, 0, 0, 0)]
set_option maxRecDepth 20000 in
theorem hX10_second_28 : zChk false 10 cX10_second 28 bX10_second_28 = true := by decide +kernel
def bX10_second_32 : List zI := [(.aload_n 0, 1, 0, 0, 0), (.iload_n 1, 1, 0, 0, 0)]
set_option maxRecDepth 20000 in
theorem hX10_second_32 : zChk false 10 cX10_second 32 bX10_second_32 = true := by decide +kernel
def bX10_second_37 : List zI := [(.istore_n 2, 1, 0, 0, 0), (.aload_n 0, 1, 0, 0, 0), (.iconst 1, 1, 0, 0, 0), (.putfield 429, 3, 10, 74, 0), (.aload_n 0, 1, 0, 0, 0)]
set_option maxRecDepth 20000 in
theorem hX10_second_37 : zChk false 10 cX10_second 37 bX10_second_37 = true := by decide +kernel
def bX10_second_47 : List zI := [(.aload_n 0, 1, 0, 0, 0), (.iload_n 1, 1, 0, 0, 0)]
set_option maxRecDepth 20000 in
theorem hX10_second_47 : zChk false 10 cX10_second 47 bX10_second_47 = true := by decide +kernel
def bX10_second_52 : List zI := [(.iload_n 2, 1, 0, 0, 0), (.isub, 1, 0, 0, 0), (.aload_n 0, 1, 0, 0, 0), (.getfield 56, 3, 10, 36, 0), (.bipush 6, 2, 0, 0, 0), (.iaload, 1, 0, 0, 0), (.isub, 1, 0, 0, 0), (.ireturn, 1, 0, 0, 0)]
set_option maxRecDepth 20000 in
theorem hX10_second_52 : zChk false 10 cX10_second 52 bX10_second_52 = true := by decide +kernel
def bX10_savedBy_0 : List zI := [(.iconst 0, 1, 0, 0, 0), (.istore_n 1, 1, 0, 0, 0), (.iconst 0, 1, 0, 0, 0), (.istore_n 2, 1, 0, 0, 0)]
set_option maxRecDepth 20000 in
theorem hX10_savedBy_0 : zChk false 10 cX10_savedBy 0 bX10_savedBy_0 = true := by decide +kernel
def bX10_savedBy_4 : List zI := [(.iload_n 2, 1, 0, 0, 0), (.aload_n 0, 1, 0, 0, 0), (.getfield 261, 3, 10, 12, 0), (.if_icmp .ge 50, 3, 59, 0, 0), (.aload_n 0, 1, 0, 0, 0), (.getfield 136, 3, 10, 84, 0), (.iload_n 2, 1, 0, 0, 0), (.iaload, 1, 0, 0, 0), (.istore_n 3, 1, 0, 0, 0), (.aload_n 0, 1, 0, 0, 0), (.getfield 29, 3, 10, 27, 0), (.iload_n 3, 1, 0, 0, 0), (.iaload, 1, 0, 0, 0), (.ifCond .lt 18, 3, 43, 0, 0), (.aload_n 0, 1, 0, 0, 0), (.getfield 387, 3, 10, 55, 0), (.iload_n 2, 1, 0, 0, 0), (.iadd, 1, 0, 0, 0), (.aload_n 0, 1, 0, 0, 0), (.getfield 29, 3, 10, 27, 0), (.iload_n 3, 1, 0, 0, 0), (.iaload, 1, 0, 0, 0), (.if_icmp .ge 13, 3, 53, 0, 0), (.iload_n 1, 1, 0, 0, 0), (.aload_n 0, 1, 0, 0, 0), (.iconst 0, 1, 0, 0, 0), (.iload_n 3, 1, 0, 0, 0), (.iconst 1, 1, 0, 0, 0)]
set_option maxRecDepth 20000 in
theorem hX10_savedBy_4 : zChk false 10 cX10_savedBy 4 bX10_savedBy_4 = true := by decide +kernel
def bX10_savedBy_43 : List zI := [(.iload_n 1, 1, 0, 0, 0), (.aload_n 0, 1, 0, 0, 0), (.iconst 0, 1, 0, 0, 0), (.iload_n 3, 1, 0, 0, 0), (.iconst 1, 1, 0, 0, 0)]
set_option maxRecDepth 20000 in
theorem hX10_savedBy_43 : zChk false 10 cX10_savedBy 43 bX10_savedBy_43 = true := by decide +kernel
def bX10_savedBy_51 : List zI := [(.iadd, 1, 0, 0, 0), (.istore_n 1, 1, 0, 0, 0), (.iinc 2 1, 3, 0, 0, 0), (.goto (-52), 3, 4, 0, 0)]
set_option maxRecDepth 20000 in
theorem hX10_savedBy_51 : zChk false 10 cX10_savedBy 51 bX10_savedBy_51 = true := by decide +kernel
def bX10_savedBy_53 : List zI := [(.iinc 2 1, 3, 0, 0, 0), (.goto (-52), 3, 4, 0, 0)]
set_option maxRecDepth 20000 in
theorem hX10_savedBy_53 : zChk false 10 cX10_savedBy 53 bX10_savedBy_53 = true := by decide +kernel
def bX10_savedBy_59 : List zI := [(.iload_n 1, 1, 0, 0, 0), (.ireturn, 1, 0, 0, 0)]
set_option maxRecDepth 20000 in
theorem hX10_savedBy_59 : zChk false 10 cX10_savedBy 59 bX10_savedBy_59 = true := by decide +kernel
def bX10_walkBy_0 : List zI := [(.iconst 0, 1, 0, 0, 0), (.istore_n 1, 1, 0, 0, 0), (.iconst 0, 1, 0, 0, 0), (.istore_n 2, 1, 0, 0, 0), (.iconst 0, 1, 0, 0, 0), (.istore_n 3, 1, 0, 0, 0)]
set_option maxRecDepth 20000 in
theorem hX10_walkBy_0 : zChk false 10 cX10_walkBy 0 bX10_walkBy_0 = true := by decide +kernel
def bX10_walkBy_6 : List zI := [(.iload_n 3, 1, 0, 0, 0), (.aload_n 0, 1, 0, 0, 0), (.getfield 261, 3, 10, 12, 0), (.if_icmp .ge 52, 3, 63, 0, 0), (.aload_n 0, 1, 0, 0, 0), (.getfield 26, 3, 10, 26, 0), (.aload_n 0, 1, 0, 0, 0), (.getfield 136, 3, 10, 84, 0), (.iload_n 3, 1, 0, 0, 0), (.iaload, 1, 0, 0, 0), (.iaload, 1, 0, 0, 0), (.iload_n 1, 1, 0, 0, 0), (.isub, 1, 0, 0, 0), (.istore 4, 2, 0, 0, 0), (.iload_n 2, 1, 0, 0, 0), (.iload 4, 2, 0, 0, 0), (.ifCond .ge 9, 3, 41, 0, 0), (.iload 4, 2, 0, 0, 0), (.ineg, 1, 0, 0, 0), (.goto 5, 3, 43, 0, 0)]
set_option maxRecDepth 20000 in
theorem hX10_walkBy_6 : zChk false 10 cX10_walkBy 6 bX10_walkBy_6 = true := by decide +kernel
def bX10_walkBy_41 : List zI := [(.iload 4, 2, 0, 0, 0), (.iadd, 1, 0, 0, 0), (.istore_n 2, 1, 0, 0, 0), (.aload_n 0, 1, 0, 0, 0), (.getfield 26, 3, 10, 26, 0), (.aload_n 0, 1, 0, 0, 0), (.getfield 136, 3, 10, 84, 0), (.iload_n 3, 1, 0, 0, 0), (.iaload, 1, 0, 0, 0), (.iaload, 1, 0, 0, 0), (.istore_n 1, 1, 0, 0, 0), (.iinc 3 1, 3, 0, 0, 0), (.goto (-54), 3, 6, 0, 0)]
set_option maxRecDepth 20000 in
theorem hX10_walkBy_41 : zChk false 10 cX10_walkBy 41 bX10_walkBy_41 = true := by decide +kernel
def bX10_walkBy_43 : List zI := [(.iadd, 1, 0, 0, 0), (.istore_n 2, 1, 0, 0, 0), (.aload_n 0, 1, 0, 0, 0), (.getfield 26, 3, 10, 26, 0), (.aload_n 0, 1, 0, 0, 0), (.getfield 136, 3, 10, 84, 0), (.iload_n 3, 1, 0, 0, 0), (.iaload, 1, 0, 0, 0), (.iaload, 1, 0, 0, 0), (.istore_n 1, 1, 0, 0, 0), (.iinc 3 1, 3, 0, 0, 0), (.goto (-54), 3, 6, 0, 0)]
set_option maxRecDepth 20000 in
theorem hX10_walkBy_43 : zChk false 10 cX10_walkBy 43 bX10_walkBy_43 = true := by decide +kernel
def bX10_walkBy_63 : List zI := [(.iload_n 2, 1, 0, 0, 0), (.ireturn, 1, 0, 0, 0)]
set_option maxRecDepth 20000 in
theorem hX10_walkBy_63 : zChk false 10 cX10_walkBy 63 bX10_walkBy_63 = true := by decide +kernel
def bX10_strike_0 : List zI := [(.aload_n 0, 1, 0, 0, 0), (.iconst 0, 1, 0, 0, 0), (.putfield 178, 3, 10, 2, 0), (.aload_n 0, 1, 0, 0, 0), (.getfield 399, 3, 10, 85, 0), (.bipush 60, 2, 0, 0, 0), (.if_icmp .eq 15, 3, 26, 0, 0), (.iload_n 1, 1, 0, 0, 0), (.ifCond .lt 11, 3, 26, 0, 0), (.iload_n 1, 1, 0, 0, 0), (.aload_n 0, 1, 0, 0, 0), (.getfield 399, 3, 10, 85, 0), (.if_icmp .lt 7, 3, 30, 0, 0), (.iconst (-1), 1, 0, 0, 0), (.goto 9, 3, 36, 0, 0)]
set_option maxRecDepth 20000 in
theorem hX10_strike_0 : zChk false 10 cX10_strike 0 bX10_strike_0 = true := by decide +kernel
def bX10_strike_26 : List zI := [(.iconst (-1), 1, 0, 0, 0), (.goto 9, 3, 36, 0, 0)]
set_option maxRecDepth 20000 in
theorem hX10_strike_26 : zChk false 10 cX10_strike 26 bX10_strike_26 = true := by decide +kernel
def bX10_strike_30 : List zI := [(.aload_n 0, 1, 0, 0, 0), (.iconst (-1), 1, 0, 0, 0), (.iload_n 1, 1, 0, 0, 0)]
set_option maxRecDepth 20000 in
theorem hX10_strike_30 : zChk false 10 cX10_strike 30 bX10_strike_30 = true := by decide +kernel
def bX10_strike_36 : List zI := [(.ireturn, 1, 0, 0, 0)]
set_option maxRecDepth 20000 in
theorem hX10_strike_36 : zChk false 10 cX10_strike 36 bX10_strike_36 = true := by decide +kernel
def bX10_rightOf_0 : List zI := [(.aload_n 0, 1, 0, 0, 0)]
set_option maxRecDepth 20000 in
theorem hX10_rightOf_0 : zChk false 10 cX10_rightOf 0 bX10_rightOf_0 = true := by decide +kernel
def bX10_rightOf_4 : List zI := [(.iconst 0, 1, 0, 0, 0), (.istore 4, 2, 0, 0, 0), (.iconst 0, 1, 0, 0, 0), (.istore 5, 2, 0, 0, 0)]
set_option maxRecDepth 20000 in
theorem hX10_rightOf_4 : zChk false 10 cX10_rightOf 4 bX10_rightOf_4 = true := by decide +kernel
def bX10_rightOf_10 : List zI := [(.iload 5, 2, 0, 0, 0), (.aload_n 0, 1, 0, 0, 0)]
set_option maxRecDepth 20000 in
theorem hX10_rightOf_10 : zChk false 10 cX10_rightOf 10 bX10_rightOf_10 = true := by decide +kernel
def bX10_rightOf_16 : List zI := [(.if_icmp .ge 114, 3, 130, 0, 0), (.aload_n 0, 1, 0, 0, 0), (.getfield 148, 3, 10, 89, 0), (.iload 5, 2, 0, 0, 0), (.baload, 1, 0, 0, 0), (.ifCond .ne 6, 3, 32, 0, 0), (.goto 95, 3, 124, 0, 0)]
set_option maxRecDepth 20000 in
theorem hX10_rightOf_16 : zChk false 10 cX10_rightOf 16 bX10_rightOf_16 = true := by decide +kernel
def bX10_rightOf_32 : List zI := [(.aload_n 0, 1, 0, 0, 0), (.getfield 142, 3, 10, 87, 0), (.iload 5, 2, 0, 0, 0), (.iaload, 1, 0, 0, 0), (.iload_n 1, 1, 0, 0, 0)]
set_option maxRecDepth 20000 in
theorem hX10_rightOf_32 : zChk false 10 cX10_rightOf 32 bX10_rightOf_32 = true := by decide +kernel
def bX10_rightOf_43 : List zI := [(.istore 6, 2, 0, 0, 0), (.aload_n 0, 1, 0, 0, 0), (.getfield 142, 3, 10, 87, 0), (.iload 5, 2, 0, 0, 0), (.iaload, 1, 0, 0, 0), (.iload_n 2, 1, 0, 0, 0)]
set_option maxRecDepth 20000 in
theorem hX10_rightOf_43 : zChk false 10 cX10_rightOf 43 bX10_rightOf_43 = true := by decide +kernel
def bX10_rightOf_56 : List zI := [(.istore 7, 2, 0, 0, 0), (.iload 4, 2, 0, 0, 0), (.iload_n 3, 1, 0, 0, 0), (.ifCond .ne 21, 3, 82, 0, 0), (.iload 6, 2, 0, 0, 0), (.ifCond .eq 12, 3, 78, 0, 0), (.iload 7, 2, 0, 0, 0), (.ifCond .eq 7, 3, 78, 0, 0), (.iconst 1, 1, 0, 0, 0), (.goto 22, 3, 97, 0, 0)]
set_option maxRecDepth 20000 in
theorem hX10_rightOf_56 : zChk false 10 cX10_rightOf 56 bX10_rightOf_56 = true := by decide +kernel
def bX10_rightOf_78 : List zI := [(.iconst 0, 1, 0, 0, 0), (.goto 18, 3, 97, 0, 0)]
set_option maxRecDepth 20000 in
theorem hX10_rightOf_78 : zChk false 10 cX10_rightOf 78 bX10_rightOf_78 = true := by decide +kernel
def bX10_rightOf_82 : List zI := [(.iload 6, 2, 0, 0, 0), (.ifCond .ne 8, 3, 92, 0, 0), (.iload 7, 2, 0, 0, 0), (.ifCond .eq 7, 3, 96, 0, 0), (.iconst 1, 1, 0, 0, 0), (.goto 4, 3, 97, 0, 0)]
set_option maxRecDepth 20000 in
theorem hX10_rightOf_82 : zChk false 10 cX10_rightOf 82 bX10_rightOf_82 = true := by decide +kernel
def bX10_rightOf_92 : List zI := [(.iconst 1, 1, 0, 0, 0), (.goto 4, 3, 97, 0, 0)]
set_option maxRecDepth 20000 in
theorem hX10_rightOf_92 : zChk false 10 cX10_rightOf 92 bX10_rightOf_92 = true := by decide +kernel
def bX10_rightOf_96 : List zI := [(.iconst 0, 1, 0, 0, 0), (.aload_n 0, 1, 0, 0, 0), (.getfield 145, 3, 10, 88, 0), (.iload 5, 2, 0, 0, 0), (.iaload, 1, 0, 0, 0), (.iconst 1, 1, 0, 0, 0), (.if_icmp .ne 7, 3, 112, 0, 0), (.iconst 1, 1, 0, 0, 0), (.goto 4, 3, 113, 0, 0)]
set_option maxRecDepth 20000 in
theorem hX10_rightOf_96 : zChk false 10 cX10_rightOf 96 bX10_rightOf_96 = true := by decide +kernel
def bX10_rightOf_97 : List zI := [(.aload_n 0, 1, 0, 0, 0), (.getfield 145, 3, 10, 88, 0), (.iload 5, 2, 0, 0, 0), (.iaload, 1, 0, 0, 0), (.iconst 1, 1, 0, 0, 0), (.if_icmp .ne 7, 3, 112, 0, 0), (.iconst 1, 1, 0, 0, 0), (.goto 4, 3, 113, 0, 0)]
set_option maxRecDepth 20000 in
theorem hX10_rightOf_97 : zChk false 10 cX10_rightOf 97 bX10_rightOf_97 = true := by decide +kernel
def bX10_rightOf_112 : List zI := [(.iconst 0, 1, 0, 0, 0), (.if_icmp .ne 7, 3, 120, 0, 0), (.iconst 1, 1, 0, 0, 0), (.goto 4, 3, 121, 0, 0)]
set_option maxRecDepth 20000 in
theorem hX10_rightOf_112 : zChk false 10 cX10_rightOf 112 bX10_rightOf_112 = true := by decide +kernel
def bX10_rightOf_113 : List zI := [(.if_icmp .ne 7, 3, 120, 0, 0), (.iconst 1, 1, 0, 0, 0), (.goto 4, 3, 121, 0, 0)]
set_option maxRecDepth 20000 in
theorem hX10_rightOf_113 : zChk false 10 cX10_rightOf 113 bX10_rightOf_113 = true := by decide +kernel
def bX10_rightOf_120 : List zI := [(.iconst 0, 1, 0, 0, 0), (.iadd, 1, 0, 0, 0), (.istore 4, 2, 0, 0, 0), (.iinc 5 1, 3, 0, 0, 0), (.goto (-117), 3, 10, 0, 0)]
set_option maxRecDepth 20000 in
theorem hX10_rightOf_120 : zChk false 10 cX10_rightOf 120 bX10_rightOf_120 = true := by decide +kernel
def bX10_rightOf_121 : List zI := [(.iadd, 1, 0, 0, 0), (.istore 4, 2, 0, 0, 0), (.iinc 5 1, 3, 0, 0, 0), (.goto (-117), 3, 10, 0, 0)]
set_option maxRecDepth 20000 in
theorem hX10_rightOf_121 : zChk false 10 cX10_rightOf 121 bX10_rightOf_121 = true := by decide +kernel
def bX10_rightOf_124 : List zI := [(.iinc 5 1, 3, 0, 0, 0), (.goto (-117), 3, 10, 0, 0)]
set_option maxRecDepth 20000 in
theorem hX10_rightOf_124 : zChk false 10 cX10_rightOf 124 bX10_rightOf_124 = true := by decide +kernel
def bX10_rightOf_130 : List zI := [(.iload 4, 2, 0, 0, 0), (.ireturn, 1, 0, 0, 0)]
set_option maxRecDepth 20000 in
theorem hX10_rightOf_130 : zChk false 10 cX10_rightOf 130 bX10_rightOf_130 = true := by decide +kernel
def bX10_right_0 : List zI := [(.aload_n 0, 1, 0, 0, 0), (.iconst 0, 1, 0, 0, 0), (.putfield 178, 3, 10, 2, 0), (.aload_n 0, 1, 0, 0, 0), (.iload_n 1, 1, 0, 0, 0)]
set_option maxRecDepth 20000 in
theorem hX10_right_0 : zChk false 10 cX10_right 0 bX10_right_0 = true := by decide +kernel
def bX10_right_10 : List zI := [(.ifCond .eq 13, 3, 23, 0, 0), (.aload_n 0, 1, 0, 0, 0), (.iload_n 1, 1, 0, 0, 0), (.iload_n 1, 1, 0, 0, 0), (.iconst 0, 1, 0, 0, 0)]
set_option maxRecDepth 20000 in
theorem hX10_right_10 : zChk false 10 cX10_right 10 bX10_right_10 = true := by decide +kernel
def bX10_right_20 : List zI := [(.goto 4, 3, 24, 0, 0)]
set_option maxRecDepth 20000 in
theorem hX10_right_20 : zChk false 10 cX10_right 20 bX10_right_20 = true := by decide +kernel
def bX10_right_23 : List zI := [(.iconst (-1), 1, 0, 0, 0), (.ireturn, 1, 0, 0, 0)]
set_option maxRecDepth 20000 in
theorem hX10_right_23 : zChk false 10 cX10_right 23 bX10_right_23 = true := by decide +kernel
def bX10_right_24 : List zI := [(.ireturn, 1, 0, 0, 0)]
set_option maxRecDepth 20000 in
theorem hX10_right_24 : zChk false 10 cX10_right 24 bX10_right_24 = true := by decide +kernel
def bX10_tells_0 : List zI := [(.aload_n 0, 1, 0, 0, 0), (.iconst 0, 1, 0, 0, 0), (.putfield 178, 3, 10, 2, 0), (.iconst (-1), 1, 0, 0, 0), (.istore_n 1, 1, 0, 0, 0), (.iconst (-1), 1, 0, 0, 0), (.istore_n 2, 1, 0, 0, 0), (.iconst 0, 1, 0, 0, 0), (.istore_n 3, 1, 0, 0, 0)]
set_option maxRecDepth 20000 in
theorem hX10_tells_0 : zChk false 10 cX10_tells 0 bX10_tells_0 = true := by decide +kernel
def bX10_tells_11 : List zI := [(.iload_n 3, 1, 0, 0, 0), (.aload_n 0, 1, 0, 0, 0), (.getfield 273, 3, 10, 16, 0), (.if_icmp .ge 43, 3, 59, 0, 0), (.aload_n 0, 1, 0, 0, 0), (.iload_n 3, 1, 0, 0, 0), (.iload_n 3, 1, 0, 0, 0), (.iconst 0, 1, 0, 0, 0)]
set_option maxRecDepth 20000 in
theorem hX10_tells_11 : zChk false 10 cX10_tells 11 bX10_tells_11 = true := by decide +kernel
def bX10_tells_26 : List zI := [(.istore 4, 2, 0, 0, 0), (.iload 4, 2, 0, 0, 0), (.iload_n 2, 1, 0, 0, 0), (.if_icmp .le 7, 3, 38, 0, 0), (.iload_n 3, 1, 0, 0, 0), (.goto 4, 3, 39, 0, 0)]
set_option maxRecDepth 20000 in
theorem hX10_tells_26 : zChk false 10 cX10_tells 26 bX10_tells_26 = true := by decide +kernel
def bX10_tells_38 : List zI := [(.iload_n 1, 1, 0, 0, 0), (.istore_n 1, 1, 0, 0, 0), (.iload 4, 2, 0, 0, 0), (.iload_n 2, 1, 0, 0, 0), (.if_icmp .le 8, 3, 51, 0, 0), (.iload 4, 2, 0, 0, 0), (.goto 4, 3, 52, 0, 0)]
set_option maxRecDepth 20000 in
theorem hX10_tells_38 : zChk false 10 cX10_tells 38 bX10_tells_38 = true := by decide +kernel
def bX10_tells_39 : List zI := [(.istore_n 1, 1, 0, 0, 0), (.iload 4, 2, 0, 0, 0), (.iload_n 2, 1, 0, 0, 0), (.if_icmp .le 8, 3, 51, 0, 0), (.iload 4, 2, 0, 0, 0), (.goto 4, 3, 52, 0, 0)]
set_option maxRecDepth 20000 in
theorem hX10_tells_39 : zChk false 10 cX10_tells 39 bX10_tells_39 = true := by decide +kernel
def bX10_tells_51 : List zI := [(.iload_n 2, 1, 0, 0, 0), (.istore_n 2, 1, 0, 0, 0), (.iinc 3 1, 3, 0, 0, 0), (.goto (-45), 3, 11, 0, 0)]
set_option maxRecDepth 20000 in
theorem hX10_tells_51 : zChk false 10 cX10_tells 51 bX10_tells_51 = true := by decide +kernel
def bX10_tells_52 : List zI := [(.istore_n 2, 1, 0, 0, 0), (.iinc 3 1, 3, 0, 0, 0), (.goto (-45), 3, 11, 0, 0)]
set_option maxRecDepth 20000 in
theorem hX10_tells_52 : zChk false 10 cX10_tells 52 bX10_tells_52 = true := by decide +kernel
def bX10_tells_59 : List zI := [(.iload_n 1, 1, 0, 0, 0), (.ireturn, 1, 0, 0, 0)]
set_option maxRecDepth 20000 in
theorem hX10_tells_59 : zChk false 10 cX10_tells 59 bX10_tells_59 = true := by decide +kernel
def bX10_triesIt_0 : List zI := [(.aload_n 0, 1, 0, 0, 0)]
set_option maxRecDepth 20000 in
theorem hX10_triesIt_0 : zChk false 10 cX10_triesIt 0 bX10_triesIt_0 = true := by decide +kernel
def bX10_triesIt_4 : List zI := [(.iload_n 1, 1, 0, 0, 0)]
set_option maxRecDepth 20000 in
theorem hX10_triesIt_4 : zChk false 10 cX10_triesIt 4 bX10_triesIt_4 = true := by decide +kernel
def bX10_triesIt_44 : List zI := [(.aload_n 0, 1, 0, 0, 0), (.iconst 1, 1, 0, 0, 0), (.putfield 411, 3, 10, 68, 0), (.iload_n 2, 1, 0, 0, 0), (.ifCond .ne 7, 3, 57, 0, 0), (.iconst 1, 1, 0, 0, 0), (.goto 4, 3, 58, 0, 0)]
set_option maxRecDepth 20000 in
theorem hX10_triesIt_44 : zChk false 10 cX10_triesIt 44 bX10_triesIt_44 = true := by decide +kernel
def bX10_triesIt_57 : List zI := [(.iconst 0, 1, 0, 0, 0), (.ireturn, 1, 0, 0, 0)]
set_option maxRecDepth 20000 in
theorem hX10_triesIt_57 : zChk false 10 cX10_triesIt 57 bX10_triesIt_57 = true := by decide +kernel
def bX10_triesIt_58 : List zI := [(.ireturn, 1, 0, 0, 0)]
set_option maxRecDepth 20000 in
theorem hX10_triesIt_58 : zChk false 10 cX10_triesIt 58 bX10_triesIt_58 = true := by decide +kernel
def bX10_triesIt_59 : List zI := [(.aload_n 0, 1, 0, 0, 0), (.iconst 1, 1, 0, 0, 0), (.putfield 414, 3, 10, 69, 0), (.iload_n 2, 1, 0, 0, 0), (.ifCond .ne 7, 3, 72, 0, 0), (.iconst 1, 1, 0, 0, 0), (.goto 4, 3, 73, 0, 0)]
set_option maxRecDepth 20000 in
theorem hX10_triesIt_59 : zChk false 10 cX10_triesIt 59 bX10_triesIt_59 = true := by decide +kernel
def bX10_triesIt_72 : List zI := [(.iconst 0, 1, 0, 0, 0), (.ireturn, 1, 0, 0, 0)]
set_option maxRecDepth 20000 in
theorem hX10_triesIt_72 : zChk false 10 cX10_triesIt 72 bX10_triesIt_72 = true := by decide +kernel
def bX10_triesIt_73 : List zI := [(.ireturn, 1, 0, 0, 0)]
set_option maxRecDepth 20000 in
theorem hX10_triesIt_73 : zChk false 10 cX10_triesIt 73 bX10_triesIt_73 = true := by decide +kernel
def bX10_triesIt_74 : List zI := [(.aload_n 0, 1, 0, 0, 0), (.iconst 1, 1, 0, 0, 0), (.putfield 417, 3, 10, 70, 0), (.iload_n 2, 1, 0, 0, 0), (.ifCond .ne 7, 3, 87, 0, 0), (.iconst 1, 1, 0, 0, 0), (.goto 4, 3, 88, 0, 0)]
set_option maxRecDepth 20000 in
theorem hX10_triesIt_74 : zChk false 10 cX10_triesIt 74 bX10_triesIt_74 = true := by decide +kernel
def bX10_triesIt_87 : List zI := [(.iconst 0, 1, 0, 0, 0), (.ireturn, 1, 0, 0, 0)]
set_option maxRecDepth 20000 in
theorem hX10_triesIt_87 : zChk false 10 cX10_triesIt 87 bX10_triesIt_87 = true := by decide +kernel
def bX10_triesIt_88 : List zI := [(.ireturn, 1, 0, 0, 0)]
set_option maxRecDepth 20000 in
theorem hX10_triesIt_88 : zChk false 10 cX10_triesIt 88 bX10_triesIt_88 = true := by decide +kernel
def bX10_triesIt_89 : List zI := [(.aload_n 0, 1, 0, 0, 0), (.iload_n 2, 1, 0, 0, 0), (.putfield 423, 3, 10, 72, 0), (.aload_n 0, 1, 0, 0, 0), (.iload_n 2, 1, 0, 0, 0)]
set_option maxRecDepth 20000 in
theorem hX10_triesIt_89 : zChk false 10 cX10_triesIt 89 bX10_triesIt_89 = true := by decide +kernel
def bX10_triesIt_99 : List zI := [(.ireturn, 1, 0, 0, 0)]
set_option maxRecDepth 20000 in
theorem hX10_triesIt_99 : zChk false 10 cX10_triesIt 99 bX10_triesIt_99 = true := by decide +kernel
def bX10_triesIt_100 : List zI := [(.aload_n 0, 1, 0, 0, 0), (.iconst 1, 1, 0, 0, 0), (.putfield 420, 3, 10, 71, 0), (.iload_n 2, 1, 0, 0, 0), (.ifCond .ne 7, 3, 113, 0, 0), (.iconst 1, 1, 0, 0, 0), (.goto 4, 3, 114, 0, 0)]
set_option maxRecDepth 20000 in
theorem hX10_triesIt_100 : zChk false 10 cX10_triesIt 100 bX10_triesIt_100 = true := by decide +kernel
def bX10_triesIt_113 : List zI := [(.iconst 0, 1, 0, 0, 0), (.ireturn, 1, 0, 0, 0)]
set_option maxRecDepth 20000 in
theorem hX10_triesIt_113 : zChk false 10 cX10_triesIt 113 bX10_triesIt_113 = true := by decide +kernel
def bX10_triesIt_114 : List zI := [(.ireturn, 1, 0, 0, 0)]
set_option maxRecDepth 20000 in
theorem hX10_triesIt_114 : zChk false 10 cX10_triesIt 114 bX10_triesIt_114 = true := by decide +kernel
def bX10_triesIt_115 : List zI := [(.aload_n 0, 1, 0, 0, 0), (.iload_n 2, 1, 0, 0, 0), (.putfield 426, 3, 10, 73, 0), (.iload_n 2, 1, 0, 0, 0), (.ifCond .lt 15, 3, 136, 0, 0), (.iload_n 2, 1, 0, 0, 0), (.aload_n 0, 1, 0, 0, 0), (.getfield 264, 3, 10, 13, 0), (.if_icmp .ge 7, 3, 136, 0, 0), (.iconst 1, 1, 0, 0, 0), (.goto 4, 3, 137, 0, 0)]
set_option maxRecDepth 20000 in
theorem hX10_triesIt_115 : zChk false 10 cX10_triesIt 115 bX10_triesIt_115 = true := by decide +kernel
def bX10_triesIt_136 : List zI := [(.iconst 0, 1, 0, 0, 0), (.ireturn, 1, 0, 0, 0)]
set_option maxRecDepth 20000 in
theorem hX10_triesIt_136 : zChk false 10 cX10_triesIt 136 bX10_triesIt_136 = true := by decide +kernel
def bX10_triesIt_137 : List zI := [(.ireturn, 1, 0, 0, 0)]
set_option maxRecDepth 20000 in
theorem hX10_triesIt_137 : zChk false 10 cX10_triesIt 137 bX10_triesIt_137 = true := by decide +kernel
def bX10_triesIt_138 : List zI := [(.iconst 0, 1, 0, 0, 0), (.ireturn, 1, 0, 0, 0)]
set_option maxRecDepth 20000 in
theorem hX10_triesIt_138 : zChk false 10 cX10_triesIt 138 bX10_triesIt_138 = true := by decide +kernel
def bX10_tried_0 : List zI := [(.aload_n 0, 1, 0, 0, 0), (.iconst 0, 1, 0, 0, 0), (.putfield 178, 3, 10, 2, 0), (.aload_n 0, 1, 0, 0, 0), (.iload_n 3, 1, 0, 0, 0)]
set_option maxRecDepth 20000 in
theorem hX10_tried_0 : zChk false 10 cX10_tried 0 bX10_tried_0 = true := by decide +kernel
def bX10_tried_10 : List zI := [(.ifCond .eq 12, 3, 22, 0, 0), (.aload_n 0, 1, 0, 0, 0), (.iload_n 1, 1, 0, 0, 0), (.iload_n 2, 1, 0, 0, 0)]
set_option maxRecDepth 20000 in
theorem hX10_tried_10 : zChk false 10 cX10_tried 10 bX10_tried_10 = true := by decide +kernel
def bX10_tried_19 : List zI := [(.ifCond .ne 7, 3, 26, 0, 0), (.ldc_w 533, 3, 0, 0, -2147483648), (.ireturn, 1, 0, 0, 0)]
set_option maxRecDepth 20000 in
theorem hX10_tried_19 : zChk false 10 cX10_tried 19 bX10_tried_19 = true := by decide +kernel
def bX10_tried_22 : List zI := [(.ldc_w 533, 3, 0, 0, -2147483648), (.ireturn, 1, 0, 0, 0)]
set_option maxRecDepth 20000 in
theorem hX10_tried_22 : zChk false 10 cX10_tried 22 bX10_tried_22 = true := by decide +kernel
def bX10_tried_26 : List zI := [(.aload_n 0, 1, 0, 0, 0)]
set_option maxRecDepth 20000 in
theorem hX10_tried_26 : zChk false 10 cX10_tried 26 bX10_tried_26 = true := by decide +kernel
def bX10_tried_30 : List zI := [(.aload_n 0, 1, 0, 0, 0), (.iload_n 3, 1, 0, 0, 0)]
set_option maxRecDepth 20000 in
theorem hX10_tried_30 : zChk false 10 cX10_tried 30 bX10_tried_30 = true := by decide +kernel
def bX10_tried_35 : List zI := [(.ireturn, 1, 0, 0, 0)]
set_option maxRecDepth 20000 in
theorem hX10_tried_35 : zChk false 10 cX10_tried 35 bX10_tried_35 = true := by decide +kernel
