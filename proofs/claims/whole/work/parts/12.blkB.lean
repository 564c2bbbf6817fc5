/-! ===== BLOCKS of code (written by a program) ===== -/
def bX5_init_0 : List zI := [(.aload_n 0, 1, 0, 0, 0)]
set_option maxRecDepth 20000 in
theorem hX5_init_0 : zChk true 5 cX5_init 0 bX5_init_0 = true := by decide +kernel
def bX5_init_4 : List zI := [(.aload_n 0, 1, 0, 0, 0), (.bipush 7, 2, 0, 0, 0)]
set_option maxRecDepth 20000 in
theorem hX5_init_4 : zChk true 5 cX5_init 4 bX5_init_4 = true := by decide +kernel
def bX5_init_9 : List zI := [(.putfield 9, 3, 5, 1, 0), (.aload_n 0, 1, 0, 0, 0), (.bipush 72, 2, 0, 0, 0)]
set_option maxRecDepth 20000 in
theorem hX5_init_9 : zChk true 5 cX5_init 9 bX5_init_9 = true := by decide +kernel
def bX5_init_17 : List zI := [(.putfield 15, 3, 5, 2, 0), (.aload_n 0, 1, 0, 0, 0), (.bipush 72, 2, 0, 0, 0)]
set_option maxRecDepth 20000 in
theorem hX5_init_17 : zChk true 5 cX5_init 17 bX5_init_17 = true := by decide +kernel
def bX5_init_25 : List zI := [(.putfield 18, 3, 5, 3, 0), (.aload_n 0, 1, 0, 0, 0), (.iconst (-1), 1, 0, 0, 0), (.putfield 21, 3, 5, 11, 0), (.aload_n 0, 1, 0, 0, 0), (.aload_n 1, 1, 0, 0, 0), (.putfield 25, 3, 5, 0, 0), (.return_, 1, 0, 0, 0)]
set_option maxRecDepth 20000 in
theorem hX5_init_25 : zChk true 5 cX5_init 25 bX5_init_25 = true := by decide +kernel
def bX5_readAll_0 : List zI := [(.aload_n 0, 1, 0, 0, 0), (.aload_n 1, 1, 0, 0, 0), (.putfield 29, 3, 5, 8, 0), (.aload_n 0, 1, 0, 0, 0), (.getfield 29, 3, 5, 8, 0)]
set_option maxRecDepth 20000 in
theorem hX5_readAll_0 : zChk false 5 cX5_readAll 0 bX5_readAll_0 = true := by decide +kernel
def bX5_readAll_12 : List zI := [(.aload_n 0, 1, 0, 0, 0), (.getfield 9, 3, 5, 1, 0), (.iconst 0, 1, 0, 0, 0)]
set_option maxRecDepth 20000 in
theorem hX5_readAll_12 : zChk false 5 cX5_readAll 12 bX5_readAll_12 = true := by decide +kernel
def bX5_readAll_20 : List zI := [(.aload_n 0, 1, 0, 0, 0), (.iconst 0, 1, 0, 0, 0), (.putfield 44, 3, 5, 6, 0), (.aload_n 0, 1, 0, 0, 0), (.iconst 0, 1, 0, 0, 0), (.putfield 47, 3, 5, 7, 0), (.aload_n 0, 1, 0, 0, 0), (.iconst 0, 1, 0, 0, 0), (.putfield 50, 3, 5, 9, 0), (.aload_n 0, 1, 0, 0, 0), (.iconst 0, 1, 0, 0, 0), (.putfield 53, 3, 5, 10, 0), (.aload_n 0, 1, 0, 0, 0), (.iconst (-1), 1, 0, 0, 0), (.putfield 21, 3, 5, 11, 0), (.aload_n 0, 1, 0, 0, 0), (.getfield 25, 3, 5, 0, 0), (.iload_n 2, 1, 0, 0, 0)]
set_option maxRecDepth 20000 in
theorem hX5_readAll_20 : zChk false 5 cX5_readAll 20 bX5_readAll_20 = true := by decide +kernel
def bX5_readAll_53 : List zI := [(.iconst 0, 1, 0, 0, 0), (.istore_n 3, 1, 0, 0, 0)]
set_option maxRecDepth 20000 in
theorem hX5_readAll_53 : zChk false 5 cX5_readAll 53 bX5_readAll_53 = true := by decide +kernel
def bX5_readAll_55 : List zI := [(.iload_n 3, 1, 0, 0, 0), (.sipush 700, 3, 0, 0, 0), (.if_icmp .ge 46, 3, 105, 0, 0), (.aload_n 0, 1, 0, 0, 0), (.getfield 25, 3, 5, 0, 0), (.getfield 62, 3, 7, 6, 0), (.ifCond .eq 36, 3, 105, 0, 0), (.aload_n 0, 1, 0, 0, 0)]
set_option maxRecDepth 20000 in
theorem hX5_readAll_55 : zChk false 5 cX5_readAll 55 bX5_readAll_55 = true := by decide +kernel
def bX5_readAll_76 : List zI := [(.ifCond .eq 11, 3, 87, 0, 0), (.aload_n 0, 1, 0, 0, 0), (.iconst 4, 1, 0, 0, 0)]
set_option maxRecDepth 20000 in
theorem hX5_readAll_76 : zChk false 5 cX5_readAll 76 bX5_readAll_76 = true := by decide +kernel
def bX5_readAll_84 : List zI := [(.ifCond .ne 5, 3, 89, 0, 0), (.iconst 0, 1, 0, 0, 0), (.ireturn, 1, 0, 0, 0)]
set_option maxRecDepth 20000 in
theorem hX5_readAll_84 : zChk false 5 cX5_readAll 84 bX5_readAll_84 = true := by decide +kernel
def bX5_readAll_87 : List zI := [(.iconst 0, 1, 0, 0, 0), (.ireturn, 1, 0, 0, 0)]
set_option maxRecDepth 20000 in
theorem hX5_readAll_87 : zChk false 5 cX5_readAll 87 bX5_readAll_87 = true := by decide +kernel
def bX5_readAll_89 : List zI := [(.aload_n 0, 1, 0, 0, 0), (.dup, 1, 0, 0, 0), (.getfield 50, 3, 5, 9, 0), (.iconst 1, 1, 0, 0, 0), (.iadd, 1, 0, 0, 0), (.putfield 50, 3, 5, 9, 0), (.iinc 3 1, 3, 0, 0, 0), (.goto (-47), 3, 55, 0, 0)]
set_option maxRecDepth 20000 in
theorem hX5_readAll_89 : zChk false 5 cX5_readAll 89 bX5_readAll_89 = true := by decide +kernel
def bX5_readAll_105 : List zI := [(.aload_n 0, 1, 0, 0, 0), (.getfield 29, 3, 5, 8, 0)]
set_option maxRecDepth 20000 in
theorem hX5_readAll_105 : zChk false 5 cX5_readAll 105 bX5_readAll_105 = true := by decide +kernel
def bX5_readAll_112 : List zI := [(.iconst 1, 1, 0, 0, 0), (.ireturn, 1, 0, 0, 0)]
set_option maxRecDepth 20000 in
theorem hX5_readAll_112 : zChk false 5 cX5_readAll 112 bX5_readAll_112 = true := by decide +kernel
def bX5_fail_0 : List zI := [(.aload_n 0, 1, 0, 0, 0), (.iload_n 1, 1, 0, 0, 0), (.putfield 53, 3, 5, 10, 0), (.aload_n 0, 1, 0, 0, 0), (.aload_n 0, 1, 0, 0, 0), (.getfield 25, 3, 5, 0, 0), (.getfield 76, 3, 7, 5, 0), (.putfield 21, 3, 5, 11, 0), (.iconst 0, 1, 0, 0, 0), (.ireturn, 1, 0, 0, 0)]
set_option maxRecDepth 20000 in
theorem hX5_fail_0 : zChk false 5 cX5_fail 0 bX5_fail_0 = true := by decide +kernel
def bX5_pass_0 : List zI := [(.aload_n 0, 1, 0, 0, 0), (.getfield 25, 3, 5, 0, 0), (.getfield 62, 3, 7, 6, 0), (.iload_n 1, 1, 0, 0, 0), (.if_icmp .eq 9, 3, 17, 0, 0), (.aload_n 0, 1, 0, 0, 0), (.iconst 1, 1, 0, 0, 0)]
set_option maxRecDepth 20000 in
theorem hX5_pass_0 : zChk false 5 cX5_pass 0 bX5_pass_0 = true := by decide +kernel
def bX5_pass_16 : List zI := [(.ireturn, 1, 0, 0, 0)]
set_option maxRecDepth 20000 in
theorem hX5_pass_16 : zChk false 5 cX5_pass 16 bX5_pass_16 = true := by decide +kernel
def bX5_pass_17 : List zI := [(.aload_n 0, 1, 0, 0, 0), (.getfield 25, 3, 5, 0, 0)]
set_option maxRecDepth 20000 in
theorem hX5_pass_17 : zChk false 5 cX5_pass 17 bX5_pass_17 = true := by decide +kernel
def bX5_pass_24 : List zI := [(.iconst 1, 1, 0, 0, 0), (.ireturn, 1, 0, 0, 0)]
set_option maxRecDepth 20000 in
theorem hX5_pass_24 : zChk false 5 cX5_pass 24 bX5_pass_24 = true := by decide +kernel
def bX5_readLine_0 : List zI := [(.aload_n 0, 1, 0, 0, 0), (.getfield 25, 3, 5, 0, 0), (.getfield 62, 3, 7, 6, 0)]
set_option maxRecDepth 20000 in
theorem hX5_readLine_0 : zChk false 5 cX5_readLine 0 bX5_readLine_0 = true := by decide +kernel
def bX5_readLine_48 : List zI := [(.aload_n 0, 1, 0, 0, 0)]
set_option maxRecDepth 20000 in
theorem hX5_readLine_48 : zChk false 5 cX5_readLine 48 bX5_readLine_48 = true := by decide +kernel
def bX5_readLine_52 : List zI := [(.ireturn, 1, 0, 0, 0)]
set_option maxRecDepth 20000 in
theorem hX5_readLine_52 : zChk false 5 cX5_readLine 52 bX5_readLine_52 = true := by decide +kernel
def bX5_readLine_53 : List zI := [(.aload_n 0, 1, 0, 0, 0)]
set_option maxRecDepth 20000 in
theorem hX5_readLine_53 : zChk false 5 cX5_readLine 53 bX5_readLine_53 = true := by decide +kernel
def bX5_readLine_57 : List zI := [(.ireturn, 1, 0, 0, 0)]
set_option maxRecDepth 20000 in
theorem hX5_readLine_57 : zChk false 5 cX5_readLine 57 bX5_readLine_57 = true := by decide +kernel
def bX5_readLine_58 : List zI := [(.aload_n 0, 1, 0, 0, 0)]
set_option maxRecDepth 20000 in
theorem hX5_readLine_58 : zChk false 5 cX5_readLine 58 bX5_readLine_58 = true := by decide +kernel
def bX5_readLine_62 : List zI := [(.ireturn, 1, 0, 0, 0)]
set_option maxRecDepth 20000 in
theorem hX5_readLine_62 : zChk false 5 cX5_readLine 62 bX5_readLine_62 = true := by decide +kernel
def bX5_readLine_63 : List zI := [(.aload_n 0, 1, 0, 0, 0)]
set_option maxRecDepth 20000 in
theorem hX5_readLine_63 : zChk false 5 cX5_readLine 63 bX5_readLine_63 = true := by decide +kernel
def bX5_readLine_67 : List zI := [(.ireturn, 1, 0, 0, 0)]
set_option maxRecDepth 20000 in
theorem hX5_readLine_67 : zChk false 5 cX5_readLine 67 bX5_readLine_67 = true := by decide +kernel
def bX5_readLine_68 : List zI := [(.aload_n 0, 1, 0, 0, 0)]
set_option maxRecDepth 20000 in
theorem hX5_readLine_68 : zChk false 5 cX5_readLine 68 bX5_readLine_68 = true := by decide +kernel
def bX5_readLine_72 : List zI := [(.ireturn, 1, 0, 0, 0)]
set_option maxRecDepth 20000 in
theorem hX5_readLine_72 : zChk false 5 cX5_readLine 72 bX5_readLine_72 = true := by decide +kernel
def bX5_readLine_73 : List zI := [(.aload_n 0, 1, 0, 0, 0)]
set_option maxRecDepth 20000 in
theorem hX5_readLine_73 : zChk false 5 cX5_readLine 73 bX5_readLine_73 = true := by decide +kernel
def bX5_readLine_77 : List zI := [(.ireturn, 1, 0, 0, 0)]
set_option maxRecDepth 20000 in
theorem hX5_readLine_77 : zChk false 5 cX5_readLine 77 bX5_readLine_77 = true := by decide +kernel
def bX5_readLine_78 : List zI := [(.aload_n 0, 1, 0, 0, 0), (.aload_n 0, 1, 0, 0, 0), (.getfield 25, 3, 5, 0, 0), (.getfield 62, 3, 7, 6, 0), (.bipush 27, 2, 0, 0, 0), (.isub, 1, 0, 0, 0)]
set_option maxRecDepth 20000 in
theorem hX5_readLine_78 : zChk false 5 cX5_readLine 78 bX5_readLine_78 = true := by decide +kernel
def bX5_readLine_92 : List zI := [(.ireturn, 1, 0, 0, 0)]
set_option maxRecDepth 20000 in
theorem hX5_readLine_92 : zChk false 5 cX5_readLine 92 bX5_readLine_92 = true := by decide +kernel
def bX5_passWord_0 : List zI := [(.iload_n 1, 1, 0, 0, 0), (.iload_n 2, 1, 0, 0, 0), (.if_icmp .lt 9, 3, 11, 0, 0), (.aload_n 0, 1, 0, 0, 0), (.iconst 2, 1, 0, 0, 0)]
set_option maxRecDepth 20000 in
theorem hX5_passWord_0 : zChk false 5 cX5_passWord 0 bX5_passWord_0 = true := by decide +kernel
def bX5_passWord_10 : List zI := [(.ireturn, 1, 0, 0, 0)]
set_option maxRecDepth 20000 in
theorem hX5_passWord_10 : zChk false 5 cX5_passWord 10 bX5_passWord_10 = true := by decide +kernel
def bX5_passWord_11 : List zI := [(.aload_n 0, 1, 0, 0, 0), (.getfield 25, 3, 5, 0, 0)]
set_option maxRecDepth 20000 in
theorem hX5_passWord_11 : zChk false 5 cX5_passWord 11 bX5_passWord_11 = true := by decide +kernel
def bX5_passWord_18 : List zI := [(.iconst 1, 1, 0, 0, 0), (.ireturn, 1, 0, 0, 0)]
set_option maxRecDepth 20000 in
theorem hX5_passWord_18 : zChk false 5 cX5_passWord 18 bX5_passWord_18 = true := by decide +kernel
def bX5_number_0 : List zI := [(.aload_n 0, 1, 0, 0, 0), (.getfield 25, 3, 5, 0, 0), (.getfield 62, 3, 7, 6, 0), (.iconst 2, 1, 0, 0, 0), (.if_icmp .eq 11, 3, 19, 0, 0), (.aload_n 0, 1, 0, 0, 0), (.iconst 1, 1, 0, 0, 0)]
set_option maxRecDepth 20000 in
theorem hX5_number_0 : zChk false 5 cX5_number 0 bX5_number_0 = true := by decide +kernel
def bX5_number_16 : List zI := [(.pop, 1, 0, 0, 0), (.iconst (-1), 1, 0, 0, 0), (.ireturn, 1, 0, 0, 0)]
set_option maxRecDepth 20000 in
theorem hX5_number_16 : zChk false 5 cX5_number 16 bX5_number_16 = true := by decide +kernel
def bX5_number_19 : List zI := [(.aload_n 0, 1, 0, 0, 0), (.getfield 25, 3, 5, 0, 0), (.getfield 105, 3, 7, 7, 0), (.iload_n 1, 1, 0, 0, 0), (.if_icmp .lt 14, 3, 41, 0, 0), (.aload_n 0, 1, 0, 0, 0), (.getfield 25, 3, 5, 0, 0), (.getfield 105, 3, 7, 7, 0), (.iload_n 2, 1, 0, 0, 0), (.if_icmp .le 11, 3, 49, 0, 0), (.aload_n 0, 1, 0, 0, 0), (.iconst 2, 1, 0, 0, 0)]
set_option maxRecDepth 20000 in
theorem hX5_number_19 : zChk false 5 cX5_number 19 bX5_number_19 = true := by decide +kernel
def bX5_number_41 : List zI := [(.aload_n 0, 1, 0, 0, 0), (.iconst 2, 1, 0, 0, 0)]
set_option maxRecDepth 20000 in
theorem hX5_number_41 : zChk false 5 cX5_number 41 bX5_number_41 = true := by decide +kernel
def bX5_number_46 : List zI := [(.pop, 1, 0, 0, 0), (.iconst (-1), 1, 0, 0, 0), (.ireturn, 1, 0, 0, 0)]
set_option maxRecDepth 20000 in
theorem hX5_number_46 : zChk false 5 cX5_number 46 bX5_number_46 = true := by decide +kernel
def bX5_number_49 : List zI := [(.aload_n 0, 1, 0, 0, 0), (.getfield 25, 3, 5, 0, 0), (.getfield 105, 3, 7, 7, 0), (.istore_n 3, 1, 0, 0, 0), (.aload_n 0, 1, 0, 0, 0), (.getfield 25, 3, 5, 0, 0)]
set_option maxRecDepth 20000 in
theorem hX5_number_49 : zChk false 5 cX5_number 49 bX5_number_49 = true := by decide +kernel
def bX5_number_64 : List zI := [(.iload_n 3, 1, 0, 0, 0), (.ireturn, 1, 0, 0, 0)]
set_option maxRecDepth 20000 in
theorem hX5_number_64 : zChk false 5 cX5_number 64 bX5_number_64 = true := by decide +kernel
def bX5_readPlace_0 : List zI := [(.aload_n 0, 1, 0, 0, 0), (.getfield 29, 3, 5, 8, 0), (.getfield 108, 3, 4, 0, 0), (.istore_n 1, 1, 0, 0, 0), (.aload_n 0, 1, 0, 0, 0), (.iload_n 1, 1, 0, 0, 0), (.iconst 5, 1, 0, 0, 0)]
set_option maxRecDepth 20000 in
theorem hX5_readPlace_0 : zChk false 5 cX5_readPlace 0 bX5_readPlace_0 = true := by decide +kernel
def bX5_readPlace_14 : List zI := [(.ifCond .ne 5, 3, 19, 0, 0), (.iconst 0, 1, 0, 0, 0), (.ireturn, 1, 0, 0, 0)]
set_option maxRecDepth 20000 in
theorem hX5_readPlace_14 : zChk false 5 cX5_readPlace 14 bX5_readPlace_14 = true := by decide +kernel
def bX5_readPlace_19 : List zI := [(.aload_n 0, 1, 0, 0, 0), (.getfield 25, 3, 5, 0, 0), (.getfield 62, 3, 7, 6, 0), (.iconst 3, 1, 0, 0, 0), (.if_icmp .eq 9, 3, 36, 0, 0), (.aload_n 0, 1, 0, 0, 0), (.iconst 1, 1, 0, 0, 0)]
set_option maxRecDepth 20000 in
theorem hX5_readPlace_19 : zChk false 5 cX5_readPlace 19 bX5_readPlace_19 = true := by decide +kernel
def bX5_readPlace_35 : List zI := [(.ireturn, 1, 0, 0, 0)]
set_option maxRecDepth 20000 in
theorem hX5_readPlace_35 : zChk false 5 cX5_readPlace 35 bX5_readPlace_35 = true := by decide +kernel
def bX5_readPlace_36 : List zI := [(.aload_n 0, 1, 0, 0, 0), (.getfield 29, 3, 5, 8, 0), (.aload_n 0, 1, 0, 0, 0), (.getfield 25, 3, 5, 0, 0), (.getfield 105, 3, 7, 7, 0)]
set_option maxRecDepth 20000 in
theorem hX5_readPlace_36 : zChk false 5 cX5_readPlace 36 bX5_readPlace_36 = true := by decide +kernel
def bX5_readPlace_50 : List zI := [(.iconst (-1), 1, 0, 0, 0), (.if_icmp .eq 9, 3, 60, 0, 0), (.aload_n 0, 1, 0, 0, 0), (.iconst 3, 1, 0, 0, 0)]
set_option maxRecDepth 20000 in
theorem hX5_readPlace_50 : zChk false 5 cX5_readPlace 50 bX5_readPlace_50 = true := by decide +kernel
def bX5_readPlace_59 : List zI := [(.ireturn, 1, 0, 0, 0)]
set_option maxRecDepth 20000 in
theorem hX5_readPlace_59 : zChk false 5 cX5_readPlace 59 bX5_readPlace_59 = true := by decide +kernel
def bX5_readPlace_60 : List zI := [(.aload_n 0, 1, 0, 0, 0), (.getfield 29, 3, 5, 8, 0), (.getfield 119, 3, 4, 1, 0), (.iload_n 1, 1, 0, 0, 0), (.aload_n 0, 1, 0, 0, 0), (.getfield 25, 3, 5, 0, 0), (.getfield 105, 3, 7, 7, 0), (.iastore, 1, 0, 0, 0), (.aload_n 0, 1, 0, 0, 0), (.getfield 25, 3, 5, 0, 0)]
set_option maxRecDepth 20000 in
theorem hX5_readPlace_60 : zChk false 5 cX5_readPlace 60 bX5_readPlace_60 = true := by decide +kernel
def bX5_readPlace_83 : List zI := [(.aload_n 0, 1, 0, 0, 0), (.getfield 29, 3, 5, 8, 0), (.getfield 122, 3, 4, 2, 0), (.iload_n 1, 1, 0, 0, 0), (.aload_n 0, 1, 0, 0, 0), (.iconst 0, 1, 0, 0, 0), (.bipush 99, 2, 0, 0, 0)]
set_option maxRecDepth 20000 in
theorem hX5_readPlace_83 : zChk false 5 cX5_readPlace 83 bX5_readPlace_83 = true := by decide +kernel
def bX5_readPlace_98 : List zI := [(.iastore, 1, 0, 0, 0), (.aload_n 0, 1, 0, 0, 0), (.getfield 29, 3, 5, 8, 0), (.getfield 122, 3, 4, 2, 0), (.iload_n 1, 1, 0, 0, 0), (.iaload, 1, 0, 0, 0), (.iconst (-1), 1, 0, 0, 0), (.if_icmp .ne 5, 3, 114, 0, 0), (.iconst 0, 1, 0, 0, 0), (.ireturn, 1, 0, 0, 0)]
set_option maxRecDepth 20000 in
theorem hX5_readPlace_98 : zChk false 5 cX5_readPlace 98 bX5_readPlace_98 = true := by decide +kernel
def bX5_readPlace_114 : List zI := [(.aload_n 0, 1, 0, 0, 0), (.getfield 29, 3, 5, 8, 0), (.getfield 129, 3, 4, 3, 0), (.iload_n 1, 1, 0, 0, 0), (.aload_n 0, 1, 0, 0, 0), (.iconst 0, 1, 0, 0, 0), (.bipush 99, 2, 0, 0, 0)]
set_option maxRecDepth 20000 in
theorem hX5_readPlace_114 : zChk false 5 cX5_readPlace 114 bX5_readPlace_114 = true := by decide +kernel
def bX5_readPlace_129 : List zI := [(.iastore, 1, 0, 0, 0), (.aload_n 0, 1, 0, 0, 0), (.getfield 29, 3, 5, 8, 0), (.getfield 129, 3, 4, 3, 0), (.iload_n 1, 1, 0, 0, 0), (.iaload, 1, 0, 0, 0), (.iconst (-1), 1, 0, 0, 0), (.if_icmp .ne 5, 3, 145, 0, 0), (.iconst 0, 1, 0, 0, 0), (.ireturn, 1, 0, 0, 0)]
set_option maxRecDepth 20000 in
theorem hX5_readPlace_129 : zChk false 5 cX5_readPlace 129 bX5_readPlace_129 = true := by decide +kernel
def bX5_readPlace_145 : List zI := [(.aload_n 0, 1, 0, 0, 0), (.getfield 29, 3, 5, 8, 0), (.getfield 132, 3, 4, 4, 0), (.iload_n 1, 1, 0, 0, 0), (.iconst (-1), 1, 0, 0, 0), (.iastore, 1, 0, 0, 0), (.aload_n 0, 1, 0, 0, 0), (.getfield 29, 3, 5, 8, 0), (.dup, 1, 0, 0, 0), (.getfield 108, 3, 4, 0, 0), (.iconst 1, 1, 0, 0, 0), (.iadd, 1, 0, 0, 0), (.putfield 108, 3, 4, 0, 0), (.aload_n 0, 1, 0, 0, 0), (.getfield 25, 3, 5, 0, 0), (.getfield 62, 3, 7, 6, 0), (.bipush 35, 2, 0, 0, 0), (.if_icmp .eq 5, 3, 182, 0, 0), (.iconst 1, 1, 0, 0, 0), (.ireturn, 1, 0, 0, 0)]
set_option maxRecDepth 20000 in
theorem hX5_readPlace_145 : zChk false 5 cX5_readPlace 145 bX5_readPlace_145 = true := by decide +kernel
def bX5_readPlace_182 : List zI := [(.aload_n 0, 1, 0, 0, 0), (.getfield 25, 3, 5, 0, 0)]
set_option maxRecDepth 20000 in
theorem hX5_readPlace_182 : zChk false 5 cX5_readPlace 182 bX5_readPlace_182 = true := by decide +kernel
def bX5_readPlace_189 : List zI := [(.aload_n 0, 1, 0, 0, 0), (.getfield 29, 3, 5, 8, 0), (.getfield 132, 3, 4, 4, 0), (.iload_n 1, 1, 0, 0, 0), (.aload_n 0, 1, 0, 0, 0), (.iconst 0, 1, 0, 0, 0), (.bipush 95, 2, 0, 0, 0)]
set_option maxRecDepth 20000 in
theorem hX5_readPlace_189 : zChk false 5 cX5_readPlace 189 bX5_readPlace_189 = true := by decide +kernel
def bX5_readPlace_204 : List zI := [(.iastore, 1, 0, 0, 0), (.aload_n 0, 1, 0, 0, 0), (.getfield 29, 3, 5, 8, 0), (.getfield 132, 3, 4, 4, 0), (.iload_n 1, 1, 0, 0, 0), (.iaload, 1, 0, 0, 0), (.iconst (-1), 1, 0, 0, 0), (.if_icmp .eq 7, 3, 222, 0, 0), (.iconst 1, 1, 0, 0, 0), (.goto 4, 3, 223, 0, 0)]
set_option maxRecDepth 20000 in
theorem hX5_readPlace_204 : zChk false 5 cX5_readPlace 204 bX5_readPlace_204 = true := by decide +kernel
def bX5_readPlace_222 : List zI := [(.iconst 0, 1, 0, 0, 0), (.ireturn, 1, 0, 0, 0)]
set_option maxRecDepth 20000 in
theorem hX5_readPlace_222 : zChk false 5 cX5_readPlace 222 bX5_readPlace_222 = true := by decide +kernel
def bX5_readPlace_223 : List zI := [(.ireturn, 1, 0, 0, 0)]
set_option maxRecDepth 20000 in
theorem hX5_readPlace_223 : zChk false 5 cX5_readPlace 223 bX5_readPlace_223 = true := by decide +kernel
def bX5_readCome_0 : List zI := [(.aload_n 0, 1, 0, 0, 0), (.getfield 29, 3, 5, 8, 0), (.getfield 135, 3, 4, 5, 0), (.istore_n 1, 1, 0, 0, 0), (.aload_n 0, 1, 0, 0, 0), (.iload_n 1, 1, 0, 0, 0), (.bipush 16, 2, 0, 0, 0)]
set_option maxRecDepth 20000 in
theorem hX5_readCome_0 : zChk false 5 cX5_readCome 0 bX5_readCome_0 = true := by decide +kernel
def bX5_readCome_15 : List zI := [(.ifCond .ne 5, 3, 20, 0, 0), (.iconst 0, 1, 0, 0, 0), (.ireturn, 1, 0, 0, 0)]
set_option maxRecDepth 20000 in
theorem hX5_readCome_15 : zChk false 5 cX5_readCome 15 bX5_readCome_15 = true := by decide +kernel
def bX5_readCome_20 : List zI := [(.aload_n 0, 1, 0, 0, 0), (.getfield 29, 3, 5, 8, 0), (.getfield 138, 3, 4, 6, 0), (.iload_n 1, 1, 0, 0, 0), (.aload_n 0, 1, 0, 0, 0), (.iconst 0, 1, 0, 0, 0), (.bipush 95, 2, 0, 0, 0)]
set_option maxRecDepth 20000 in
theorem hX5_readCome_20 : zChk false 5 cX5_readCome 20 bX5_readCome_20 = true := by decide +kernel
def bX5_readCome_35 : List zI := [(.iastore, 1, 0, 0, 0), (.aload_n 0, 1, 0, 0, 0), (.getfield 29, 3, 5, 8, 0), (.getfield 138, 3, 4, 6, 0), (.iload_n 1, 1, 0, 0, 0), (.iaload, 1, 0, 0, 0), (.iconst (-1), 1, 0, 0, 0), (.if_icmp .ne 5, 3, 51, 0, 0), (.iconst 0, 1, 0, 0, 0), (.ireturn, 1, 0, 0, 0)]
set_option maxRecDepth 20000 in
theorem hX5_readCome_35 : zChk false 5 cX5_readCome 35 bX5_readCome_35 = true := by decide +kernel
def bX5_readCome_51 : List zI := [(.aload_n 0, 1, 0, 0, 0), (.getfield 29, 3, 5, 8, 0), (.getfield 141, 3, 4, 7, 0), (.iload_n 1, 1, 0, 0, 0), (.aload_n 0, 1, 0, 0, 0), (.iconst 1, 1, 0, 0, 0), (.bipush 20, 2, 0, 0, 0)]
set_option maxRecDepth 20000 in
theorem hX5_readCome_51 : zChk false 5 cX5_readCome 51 bX5_readCome_51 = true := by decide +kernel
def bX5_readCome_66 : List zI := [(.iastore, 1, 0, 0, 0), (.aload_n 0, 1, 0, 0, 0), (.getfield 29, 3, 5, 8, 0), (.dup, 1, 0, 0, 0), (.getfield 135, 3, 4, 5, 0), (.iconst 1, 1, 0, 0, 0), (.iadd, 1, 0, 0, 0), (.putfield 135, 3, 4, 5, 0), (.aload_n 0, 1, 0, 0, 0), (.getfield 29, 3, 5, 8, 0), (.getfield 141, 3, 4, 7, 0), (.iload_n 1, 1, 0, 0, 0), (.iaload, 1, 0, 0, 0), (.iconst (-1), 1, 0, 0, 0), (.if_icmp .eq 7, 3, 97, 0, 0), (.iconst 1, 1, 0, 0, 0), (.goto 4, 3, 98, 0, 0)]
set_option maxRecDepth 20000 in
theorem hX5_readCome_66 : zChk false 5 cX5_readCome 66 bX5_readCome_66 = true := by decide +kernel
def bX5_readCome_97 : List zI := [(.iconst 0, 1, 0, 0, 0), (.ireturn, 1, 0, 0, 0)]
set_option maxRecDepth 20000 in
theorem hX5_readCome_97 : zChk false 5 cX5_readCome 97 bX5_readCome_97 = true := by decide +kernel
def bX5_readCome_98 : List zI := [(.ireturn, 1, 0, 0, 0)]
set_option maxRecDepth 20000 in
theorem hX5_readCome_98 : zChk false 5 cX5_readCome 98 bX5_readCome_98 = true := by decide +kernel
def bX5_readSky_0 : List zI := [(.aload_n 0, 1, 0, 0, 0), (.aload_n 0, 1, 0, 0, 0), (.getfield 47, 3, 5, 7, 0), (.bipush 12, 2, 0, 0, 0)]
set_option maxRecDepth 20000 in
theorem hX5_readSky_0 : zChk false 5 cX5_readSky 0 bX5_readSky_0 = true := by decide +kernel
def bX5_readSky_10 : List zI := [(.ifCond .ne 5, 3, 15, 0, 0), (.iconst 0, 1, 0, 0, 0), (.ireturn, 1, 0, 0, 0)]
set_option maxRecDepth 20000 in
theorem hX5_readSky_10 : zChk false 5 cX5_readSky 10 bX5_readSky_10 = true := by decide +kernel
def bX5_readSky_15 : List zI := [(.aload_n 0, 1, 0, 0, 0), (.getfield 25, 3, 5, 0, 0), (.getfield 62, 3, 7, 6, 0), (.iconst 2, 1, 0, 0, 0), (.if_icmp .ne 40, 3, 63, 0, 0), (.aload_n 0, 1, 0, 0, 0), (.getfield 25, 3, 5, 0, 0), (.getfield 105, 3, 7, 7, 0), (.bipush 96, 2, 0, 0, 0), (.if_icmp .ge 28, 3, 63, 0, 0), (.aload_n 0, 1, 0, 0, 0), (.getfield 29, 3, 5, 8, 0), (.getfield 144, 3, 4, 8, 0), (.aload_n 0, 1, 0, 0, 0), (.getfield 25, 3, 5, 0, 0), (.getfield 105, 3, 7, 7, 0), (.iaload, 1, 0, 0, 0), (.iconst (-1), 1, 0, 0, 0), (.if_icmp .eq 9, 3, 63, 0, 0), (.aload_n 0, 1, 0, 0, 0), (.iconst 3, 1, 0, 0, 0)]
set_option maxRecDepth 20000 in
theorem hX5_readSky_15 : zChk false 5 cX5_readSky 15 bX5_readSky_15 = true := by decide +kernel
def bX5_readSky_62 : List zI := [(.ireturn, 1, 0, 0, 0)]
set_option maxRecDepth 20000 in
theorem hX5_readSky_62 : zChk false 5 cX5_readSky 62 bX5_readSky_62 = true := by decide +kernel
def bX5_readSky_63 : List zI := [(.aload_n 0, 1, 0, 0, 0), (.iconst 0, 1, 0, 0, 0), (.bipush 95, 2, 0, 0, 0)]
set_option maxRecDepth 20000 in
theorem hX5_readSky_63 : zChk false 5 cX5_readSky 63 bX5_readSky_63 = true := by decide +kernel
def bX5_readSky_70 : List zI := [(.istore_n 1, 1, 0, 0, 0), (.iload_n 1, 1, 0, 0, 0), (.iconst (-1), 1, 0, 0, 0), (.if_icmp .ne 5, 3, 78, 0, 0), (.iconst 0, 1, 0, 0, 0), (.ireturn, 1, 0, 0, 0)]
set_option maxRecDepth 20000 in
theorem hX5_readSky_70 : zChk false 5 cX5_readSky 70 bX5_readSky_70 = true := by decide +kernel
def bX5_readSky_78 : List zI := [(.aload_n 0, 1, 0, 0, 0), (.getfield 29, 3, 5, 8, 0), (.getfield 144, 3, 4, 8, 0), (.iload_n 1, 1, 0, 0, 0), (.aload_n 0, 1, 0, 0, 0), (.iconst 0, 1, 0, 0, 0), (.iconst 2, 1, 0, 0, 0)]
set_option maxRecDepth 20000 in
theorem hX5_readSky_78 : zChk false 5 cX5_readSky 78 bX5_readSky_78 = true := by decide +kernel
def bX5_readSky_92 : List zI := [(.iastore, 1, 0, 0, 0), (.aload_n 0, 1, 0, 0, 0), (.dup, 1, 0, 0, 0), (.getfield 47, 3, 5, 7, 0), (.iconst 1, 1, 0, 0, 0), (.iadd, 1, 0, 0, 0), (.putfield 47, 3, 5, 7, 0), (.aload_n 0, 1, 0, 0, 0), (.getfield 29, 3, 5, 8, 0), (.getfield 144, 3, 4, 8, 0), (.iload_n 1, 1, 0, 0, 0), (.iaload, 1, 0, 0, 0), (.iconst (-1), 1, 0, 0, 0), (.if_icmp .eq 7, 3, 120, 0, 0), (.iconst 1, 1, 0, 0, 0), (.goto 4, 3, 121, 0, 0)]
set_option maxRecDepth 20000 in
theorem hX5_readSky_92 : zChk false 5 cX5_readSky 92 bX5_readSky_92 = true := by decide +kernel
def bX5_readSky_120 : List zI := [(.iconst 0, 1, 0, 0, 0), (.ireturn, 1, 0, 0, 0)]
set_option maxRecDepth 20000 in
theorem hX5_readSky_120 : zChk false 5 cX5_readSky 120 bX5_readSky_120 = true := by decide +kernel
def bX5_readSky_121 : List zI := [(.ireturn, 1, 0, 0, 0)]
set_option maxRecDepth 20000 in
theorem hX5_readSky_121 : zChk false 5 cX5_readSky 121 bX5_readSky_121 = true := by decide +kernel
def bX5_readBand_0 : List zI := [(.aload_n 0, 1, 0, 0, 0), (.getfield 29, 3, 5, 8, 0), (.getfield 147, 3, 4, 9, 0), (.istore_n 1, 1, 0, 0, 0), (.aload_n 0, 1, 0, 0, 0), (.iload_n 1, 1, 0, 0, 0), (.iconst 2, 1, 0, 0, 0)]
set_option maxRecDepth 20000 in
theorem hX5_readBand_0 : zChk false 5 cX5_readBand 0 bX5_readBand_0 = true := by decide +kernel
def bX5_readBand_14 : List zI := [(.ifCond .ne 5, 3, 19, 0, 0), (.iconst 0, 1, 0, 0, 0), (.ireturn, 1, 0, 0, 0)]
set_option maxRecDepth 20000 in
theorem hX5_readBand_14 : zChk false 5 cX5_readBand 14 bX5_readBand_14 = true := by decide +kernel
def bX5_readBand_19 : List zI := [(.aload_n 0, 1, 0, 0, 0), (.getfield 25, 3, 5, 0, 0), (.getfield 62, 3, 7, 6, 0), (.iconst 3, 1, 0, 0, 0), (.if_icmp .eq 9, 3, 36, 0, 0), (.aload_n 0, 1, 0, 0, 0), (.iconst 1, 1, 0, 0, 0)]
set_option maxRecDepth 20000 in
theorem hX5_readBand_19 : zChk false 5 cX5_readBand 19 bX5_readBand_19 = true := by decide +kernel
def bX5_readBand_35 : List zI := [(.ireturn, 1, 0, 0, 0)]
set_option maxRecDepth 20000 in
theorem hX5_readBand_35 : zChk false 5 cX5_readBand 35 bX5_readBand_35 = true := by decide +kernel
def bX5_readBand_36 : List zI := [(.aload_n 0, 1, 0, 0, 0), (.getfield 29, 3, 5, 8, 0), (.getfield 150, 3, 4, 10, 0), (.iload_n 1, 1, 0, 0, 0), (.aload_n 0, 1, 0, 0, 0), (.getfield 29, 3, 5, 8, 0), (.aload_n 0, 1, 0, 0, 0), (.getfield 25, 3, 5, 0, 0), (.getfield 105, 3, 7, 7, 0)]
set_option maxRecDepth 20000 in
theorem hX5_readBand_36 : zChk false 5 cX5_readBand 36 bX5_readBand_36 = true := by decide +kernel
def bX5_readBand_58 : List zI := [(.iastore, 1, 0, 0, 0), (.aload_n 0, 1, 0, 0, 0), (.getfield 29, 3, 5, 8, 0), (.getfield 150, 3, 4, 10, 0), (.iload_n 1, 1, 0, 0, 0), (.iaload, 1, 0, 0, 0), (.iconst (-1), 1, 0, 0, 0), (.if_icmp .ne 9, 3, 78, 0, 0), (.aload_n 0, 1, 0, 0, 0), (.iconst 4, 1, 0, 0, 0)]
set_option maxRecDepth 20000 in
theorem hX5_readBand_58 : zChk false 5 cX5_readBand 58 bX5_readBand_58 = true := by decide +kernel
def bX5_readBand_77 : List zI := [(.ireturn, 1, 0, 0, 0)]
set_option maxRecDepth 20000 in
theorem hX5_readBand_77 : zChk false 5 cX5_readBand 77 bX5_readBand_77 = true := by decide +kernel
def bX5_readBand_78 : List zI := [(.aload_n 0, 1, 0, 0, 0), (.getfield 25, 3, 5, 0, 0)]
set_option maxRecDepth 20000 in
theorem hX5_readBand_78 : zChk false 5 cX5_readBand 78 bX5_readBand_78 = true := by decide +kernel
def bX5_readBand_85 : List zI := [(.aload_n 0, 1, 0, 0, 0), (.getfield 29, 3, 5, 8, 0), (.getfield 153, 3, 4, 11, 0), (.iload_n 1, 1, 0, 0, 0), (.aload_n 0, 1, 0, 0, 0), (.iconst 0, 1, 0, 0, 0), (.bipush 95, 2, 0, 0, 0)]
set_option maxRecDepth 20000 in
theorem hX5_readBand_85 : zChk false 5 cX5_readBand 85 bX5_readBand_85 = true := by decide +kernel
def bX5_readBand_100 : List zI := [(.iastore, 1, 0, 0, 0), (.aload_n 0, 1, 0, 0, 0), (.getfield 29, 3, 5, 8, 0), (.getfield 153, 3, 4, 11, 0), (.iload_n 1, 1, 0, 0, 0), (.iaload, 1, 0, 0, 0), (.iconst (-1), 1, 0, 0, 0), (.if_icmp .ne 5, 3, 116, 0, 0), (.iconst 0, 1, 0, 0, 0), (.ireturn, 1, 0, 0, 0)]
set_option maxRecDepth 20000 in
theorem hX5_readBand_100 : zChk false 5 cX5_readBand 100 bX5_readBand_100 = true := by decide +kernel
def bX5_readBand_116 : List zI := [(.aload_n 0, 1, 0, 0, 0), (.getfield 29, 3, 5, 8, 0), (.getfield 156, 3, 4, 12, 0), (.iload_n 1, 1, 0, 0, 0), (.aload_n 0, 1, 0, 0, 0), (.aload_n 0, 1, 0, 0, 0), (.getfield 29, 3, 5, 8, 0), (.getfield 153, 3, 4, 11, 0), (.iload_n 1, 1, 0, 0, 0), (.iaload, 1, 0, 0, 0), (.bipush 95, 2, 0, 0, 0)]
set_option maxRecDepth 20000 in
theorem hX5_readBand_116 : zChk false 5 cX5_readBand 116 bX5_readBand_116 = true := by decide +kernel
def bX5_readBand_139 : List zI := [(.iastore, 1, 0, 0, 0), (.aload_n 0, 1, 0, 0, 0), (.getfield 29, 3, 5, 8, 0), (.dup, 1, 0, 0, 0), (.getfield 147, 3, 4, 9, 0), (.iconst 1, 1, 0, 0, 0), (.iadd, 1, 0, 0, 0), (.putfield 147, 3, 4, 9, 0), (.aload_n 0, 1, 0, 0, 0), (.getfield 29, 3, 5, 8, 0), (.getfield 156, 3, 4, 12, 0), (.iload_n 1, 1, 0, 0, 0), (.iaload, 1, 0, 0, 0), (.iconst (-1), 1, 0, 0, 0), (.if_icmp .eq 7, 3, 170, 0, 0), (.iconst 1, 1, 0, 0, 0), (.goto 4, 3, 171, 0, 0)]
set_option maxRecDepth 20000 in
theorem hX5_readBand_139 : zChk false 5 cX5_readBand 139 bX5_readBand_139 = true := by decide +kernel
def bX5_readBand_170 : List zI := [(.iconst 0, 1, 0, 0, 0), (.ireturn, 1, 0, 0, 0)]
set_option maxRecDepth 20000 in
theorem hX5_readBand_170 : zChk false 5 cX5_readBand 170 bX5_readBand_170 = true := by decide +kernel
def bX5_readBand_171 : List zI := [(.ireturn, 1, 0, 0, 0)]
set_option maxRecDepth 20000 in
theorem hX5_readBand_171 : zChk false 5 cX5_readBand 171 bX5_readBand_171 = true := by decide +kernel
def bX5_readSign_0 : List zI := [(.aload_n 0, 1, 0, 0, 0), (.getfield 29, 3, 5, 8, 0), (.getfield 159, 3, 4, 14, 0), (.istore_n 1, 1, 0, 0, 0), (.aload_n 0, 1, 0, 0, 0), (.iload_n 1, 1, 0, 0, 0), (.iconst 4, 1, 0, 0, 0)]
set_option maxRecDepth 20000 in
theorem hX5_readSign_0 : zChk false 5 cX5_readSign 0 bX5_readSign_0 = true := by decide +kernel
def bX5_readSign_14 : List zI := [(.ifCond .ne 5, 3, 19, 0, 0), (.iconst 0, 1, 0, 0, 0), (.ireturn, 1, 0, 0, 0)]
set_option maxRecDepth 20000 in
theorem hX5_readSign_14 : zChk false 5 cX5_readSign 14 bX5_readSign_14 = true := by decide +kernel
def bX5_readSign_19 : List zI := [(.aload_n 0, 1, 0, 0, 0), (.getfield 25, 3, 5, 0, 0), (.getfield 62, 3, 7, 6, 0), (.iconst 3, 1, 0, 0, 0), (.if_icmp .eq 9, 3, 36, 0, 0), (.aload_n 0, 1, 0, 0, 0), (.iconst 1, 1, 0, 0, 0)]
set_option maxRecDepth 20000 in
theorem hX5_readSign_19 : zChk false 5 cX5_readSign 19 bX5_readSign_19 = true := by decide +kernel
def bX5_readSign_35 : List zI := [(.ireturn, 1, 0, 0, 0)]
set_option maxRecDepth 20000 in
theorem hX5_readSign_35 : zChk false 5 cX5_readSign 35 bX5_readSign_35 = true := by decide +kernel
def bX5_readSign_36 : List zI := [(.aload_n 0, 1, 0, 0, 0), (.getfield 29, 3, 5, 8, 0), (.aload_n 0, 1, 0, 0, 0), (.getfield 25, 3, 5, 0, 0), (.getfield 105, 3, 7, 7, 0)]
set_option maxRecDepth 20000 in
theorem hX5_readSign_36 : zChk false 5 cX5_readSign 36 bX5_readSign_36 = true := by decide +kernel
def bX5_readSign_50 : List zI := [(.iconst (-1), 1, 0, 0, 0), (.if_icmp .eq 9, 3, 60, 0, 0), (.aload_n 0, 1, 0, 0, 0), (.iconst 3, 1, 0, 0, 0)]
set_option maxRecDepth 20000 in
theorem hX5_readSign_50 : zChk false 5 cX5_readSign 50 bX5_readSign_50 = true := by decide +kernel
def bX5_readSign_59 : List zI := [(.ireturn, 1, 0, 0, 0)]
set_option maxRecDepth 20000 in
theorem hX5_readSign_59 : zChk false 5 cX5_readSign 59 bX5_readSign_59 = true := by decide +kernel
def bX5_readSign_60 : List zI := [(.aload_n 0, 1, 0, 0, 0), (.getfield 29, 3, 5, 8, 0), (.getfield 165, 3, 4, 15, 0), (.iload_n 1, 1, 0, 0, 0), (.aload_n 0, 1, 0, 0, 0), (.getfield 25, 3, 5, 0, 0), (.getfield 105, 3, 7, 7, 0), (.iastore, 1, 0, 0, 0), (.aload_n 0, 1, 0, 0, 0), (.getfield 29, 3, 5, 8, 0), (.dup, 1, 0, 0, 0), (.getfield 159, 3, 4, 14, 0), (.iconst 1, 1, 0, 0, 0), (.iadd, 1, 0, 0, 0), (.putfield 159, 3, 4, 14, 0), (.aload_n 0, 1, 0, 0, 0), (.getfield 25, 3, 5, 0, 0)]
set_option maxRecDepth 20000 in
theorem hX5_readSign_60 : zChk false 5 cX5_readSign 60 bX5_readSign_60 = true := by decide +kernel
def bX5_readSign_96 : List zI := [(.iconst 1, 1, 0, 0, 0), (.ireturn, 1, 0, 0, 0)]
set_option maxRecDepth 20000 in
theorem hX5_readSign_96 : zChk false 5 cX5_readSign 96 bX5_readSign_96 = true := by decide +kernel
def bX5_readSet_0 : List zI := [(.iload_n 1, 1, 0, 0, 0), (.ifCond .lt 9, 3, 10, 0, 0), (.iload_n 1, 1, 0, 0, 0), (.bipush 7, 2, 0, 0, 0), (.if_icmp .lt 9, 3, 16, 0, 0), (.aload_n 0, 1, 0, 0, 0), (.iconst 1, 1, 0, 0, 0)]
set_option maxRecDepth 20000 in
theorem hX5_readSet_0 : zChk false 5 cX5_readSet 0 bX5_readSet_0 = true := by decide +kernel
def bX5_readSet_10 : List zI := [(.aload_n 0, 1, 0, 0, 0), (.iconst 1, 1, 0, 0, 0)]
set_option maxRecDepth 20000 in
theorem hX5_readSet_10 : zChk false 5 cX5_readSet 10 bX5_readSet_10 = true := by decide +kernel
def bX5_readSet_15 : List zI := [(.ireturn, 1, 0, 0, 0)]
set_option maxRecDepth 20000 in
theorem hX5_readSet_15 : zChk false 5 cX5_readSet 15 bX5_readSet_15 = true := by decide +kernel
def bX5_readSet_16 : List zI := [(.aload_n 0, 1, 0, 0, 0), (.getfield 9, 3, 5, 1, 0), (.iload_n 1, 1, 0, 0, 0), (.iaload, 1, 0, 0, 0), (.ifCond .eq 9, 3, 31, 0, 0), (.aload_n 0, 1, 0, 0, 0), (.iconst 3, 1, 0, 0, 0)]
set_option maxRecDepth 20000 in
theorem hX5_readSet_16 : zChk false 5 cX5_readSet 16 bX5_readSet_16 = true := by decide +kernel
def bX5_readSet_30 : List zI := [(.ireturn, 1, 0, 0, 0)]
set_option maxRecDepth 20000 in
theorem hX5_readSet_30 : zChk false 5 cX5_readSet 30 bX5_readSet_30 = true := by decide +kernel
def bX5_readSet_31 : List zI := [(.aload_n 0, 1, 0, 0, 0), (.getfield 9, 3, 5, 1, 0), (.iload_n 1, 1, 0, 0, 0), (.iconst 1, 1, 0, 0, 0), (.iastore, 1, 0, 0, 0), (.aload_n 0, 1, 0, 0, 0), (.getfield 25, 3, 5, 0, 0)]
set_option maxRecDepth 20000 in
theorem hX5_readSet_31 : zChk false 5 cX5_readSet 31 bX5_readSet_31 = true := by decide +kernel
def bX5_readSet_45 : List zI := [(.aload_n 0, 1, 0, 0, 0), (.getfield 29, 3, 5, 8, 0), (.getfield 168, 3, 4, 13, 0), (.iload_n 1, 1, 0, 0, 0), (.aload_n 0, 1, 0, 0, 0)]
set_option maxRecDepth 20000 in
theorem hX5_readSet_45 : zChk false 5 cX5_readSet 45 bX5_readSet_45 = true := by decide +kernel
def bX5_readSet_57 : List zI := [(.iload_n 1, 1, 0, 0, 0), (.iaload, 1, 0, 0, 0)]
set_option maxRecDepth 20000 in
theorem hX5_readSet_57 : zChk false 5 cX5_readSet 57 bX5_readSet_57 = true := by decide +kernel
def bX5_readSet_62 : List zI := [(.iload_n 1, 1, 0, 0, 0), (.iaload, 1, 0, 0, 0)]
set_option maxRecDepth 20000 in
theorem hX5_readSet_62 : zChk false 5 cX5_readSet 62 bX5_readSet_62 = true := by decide +kernel
def bX5_readSet_67 : List zI := [(.iastore, 1, 0, 0, 0), (.aload_n 0, 1, 0, 0, 0), (.getfield 29, 3, 5, 8, 0), (.getfield 168, 3, 4, 13, 0), (.iload_n 1, 1, 0, 0, 0), (.iaload, 1, 0, 0, 0), (.iconst (-1), 1, 0, 0, 0), (.if_icmp .eq 7, 3, 85, 0, 0), (.iconst 1, 1, 0, 0, 0), (.goto 4, 3, 86, 0, 0)]
set_option maxRecDepth 20000 in
theorem hX5_readSet_67 : zChk false 5 cX5_readSet 67 bX5_readSet_67 = true := by decide +kernel
def bX5_readSet_85 : List zI := [(.iconst 0, 1, 0, 0, 0), (.ireturn, 1, 0, 0, 0)]
set_option maxRecDepth 20000 in
theorem hX5_readSet_85 : zChk false 5 cX5_readSet 85 bX5_readSet_85 = true := by decide +kernel
def bX5_readSet_86 : List zI := [(.ireturn, 1, 0, 0, 0)]
set_option maxRecDepth 20000 in
theorem hX5_readSet_86 : zChk false 5 cX5_readSet 86 bX5_readSet_86 = true := by decide +kernel
def bX5_readLaw_0 : List zI := [(.aload_n 0, 1, 0, 0, 0), (.getfield 25, 3, 5, 0, 0)]
set_option maxRecDepth 20000 in
theorem hX5_readLaw_0 : zChk false 5 cX5_readLaw 0 bX5_readLaw_0 = true := by decide +kernel
def bX5_readLaw_7 : List zI := [(.aload_n 0, 1, 0, 0, 0), (.getfield 25, 3, 5, 0, 0), (.getfield 62, 3, 7, 6, 0), (.bipush 41, 2, 0, 0, 0), (.isub, 1, 0, 0, 0), (.istore_n 1, 1, 0, 0, 0), (.iload_n 1, 1, 0, 0, 0), (.ifCond .lt 8, 3, 27, 0, 0), (.iload_n 1, 1, 0, 0, 0), (.iconst 3, 1, 0, 0, 0), (.if_icmp .lt 9, 3, 33, 0, 0), (.aload_n 0, 1, 0, 0, 0), (.iconst 1, 1, 0, 0, 0)]
set_option maxRecDepth 20000 in
theorem hX5_readLaw_7 : zChk false 5 cX5_readLaw 7 bX5_readLaw_7 = true := by decide +kernel
def bX5_readLaw_27 : List zI := [(.aload_n 0, 1, 0, 0, 0), (.iconst 1, 1, 0, 0, 0)]
set_option maxRecDepth 20000 in
theorem hX5_readLaw_27 : zChk false 5 cX5_readLaw 27 bX5_readLaw_27 = true := by decide +kernel
def bX5_readLaw_32 : List zI := [(.ireturn, 1, 0, 0, 0)]
set_option maxRecDepth 20000 in
theorem hX5_readLaw_32 : zChk false 5 cX5_readLaw 32 bX5_readLaw_32 = true := by decide +kernel
def bX5_readLaw_33 : List zI := [(.aload_n 0, 1, 0, 0, 0), (.getfield 29, 3, 5, 8, 0), (.iload_n 1, 1, 0, 0, 0)]
set_option maxRecDepth 20000 in
theorem hX5_readLaw_33 : zChk false 5 cX5_readLaw 33 bX5_readLaw_33 = true := by decide +kernel
def bX5_readLaw_41 : List zI := [(.ifCond .eq 9, 3, 50, 0, 0), (.aload_n 0, 1, 0, 0, 0), (.iconst 3, 1, 0, 0, 0)]
set_option maxRecDepth 20000 in
theorem hX5_readLaw_41 : zChk false 5 cX5_readLaw 41 bX5_readLaw_41 = true := by decide +kernel
def bX5_readLaw_49 : List zI := [(.ireturn, 1, 0, 0, 0)]
set_option maxRecDepth 20000 in
theorem hX5_readLaw_49 : zChk false 5 cX5_readLaw 49 bX5_readLaw_49 = true := by decide +kernel
def bX5_readLaw_50 : List zI := [(.aload_n 0, 1, 0, 0, 0), (.getfield 25, 3, 5, 0, 0)]
set_option maxRecDepth 20000 in
theorem hX5_readLaw_50 : zChk false 5 cX5_readLaw 50 bX5_readLaw_50 = true := by decide +kernel
def bX5_readLaw_57 : List zI := [(.aload_n 0, 1, 0, 0, 0), (.getfield 29, 3, 5, 8, 0), (.getfield 180, 3, 4, 18, 0), (.iload_n 1, 1, 0, 0, 0), (.aload_n 0, 1, 0, 0, 0), (.getfield 44, 3, 5, 6, 0), (.iastore, 1, 0, 0, 0), (.aload_n 0, 1, 0, 0, 0)]
set_option maxRecDepth 20000 in
theorem hX5_readLaw_57 : zChk false 5 cX5_readLaw 57 bX5_readLaw_57 = true := by decide +kernel
def bX5_readLaw_74 : List zI := [(.ifCond .ne 5, 3, 79, 0, 0), (.iconst 0, 1, 0, 0, 0), (.ireturn, 1, 0, 0, 0)]
set_option maxRecDepth 20000 in
theorem hX5_readLaw_74 : zChk false 5 cX5_readLaw 74 bX5_readLaw_74 = true := by decide +kernel
def bX5_readLaw_79 : List zI := [(.aload_n 0, 1, 0, 0, 0), (.getfield 29, 3, 5, 8, 0), (.getfield 186, 3, 4, 19, 0), (.iload_n 1, 1, 0, 0, 0), (.aload_n 0, 1, 0, 0, 0), (.getfield 44, 3, 5, 6, 0), (.iastore, 1, 0, 0, 0), (.iconst 1, 1, 0, 0, 0), (.ireturn, 1, 0, 0, 0)]
set_option maxRecDepth 20000 in
theorem hX5_readLaw_79 : zChk false 5 cX5_readLaw 79 bX5_readLaw_79 = true := by decide +kernel
def bX5_readFormula_0 : List zI := [(.aload_n 0, 1, 0, 0, 0), (.iconst 0, 1, 0, 0, 0), (.putfield 189, 3, 5, 4, 0), (.aload_n 0, 1, 0, 0, 0), (.iconst 0, 1, 0, 0, 0), (.putfield 192, 3, 5, 5, 0), (.iconst 1, 1, 0, 0, 0), (.istore_n 1, 1, 0, 0, 0), (.iconst 0, 1, 0, 0, 0), (.istore_n 2, 1, 0, 0, 0)]
set_option maxRecDepth 20000 in
theorem hX5_readFormula_0 : zChk false 5 cX5_readFormula 0 bX5_readFormula_0 = true := by decide +kernel
def bX5_readFormula_14 : List zI := [(.iload_n 2, 1, 0, 0, 0), (.sipush 700, 3, 0, 0, 0), (.if_icmp .ge 97, 3, 115, 0, 0), (.aload_n 0, 1, 0, 0, 0), (.getfield 25, 3, 5, 0, 0), (.getfield 62, 3, 7, 6, 0), (.istore_n 3, 1, 0, 0, 0), (.iload_n 1, 1, 0, 0, 0), (.ifCond .eq 32, 3, 62, 0, 0), (.aload_n 0, 1, 0, 0, 0)]
set_option maxRecDepth 20000 in
theorem hX5_readFormula_14 : zChk false 5 cX5_readFormula 14 bX5_readFormula_14 = true := by decide +kernel
def bX5_readFormula_37 : List zI := [(.ifCond .ne 5, 3, 42, 0, 0), (.iconst 0, 1, 0, 0, 0), (.ireturn, 1, 0, 0, 0)]
set_option maxRecDepth 20000 in
theorem hX5_readFormula_37 : zChk false 5 cX5_readFormula 37 bX5_readFormula_37 = true := by decide +kernel
def bX5_readFormula_42 : List zI := [(.iload_n 3, 1, 0, 0, 0), (.bipush 46, 2, 0, 0, 0), (.if_icmp .eq 8, 3, 53, 0, 0), (.iload_n 3, 1, 0, 0, 0), (.iconst 5, 1, 0, 0, 0), (.if_icmp .ne 7, 3, 57, 0, 0), (.iconst 1, 1, 0, 0, 0), (.goto 4, 3, 58, 0, 0)]
set_option maxRecDepth 20000 in
theorem hX5_readFormula_42 : zChk false 5 cX5_readFormula 42 bX5_readFormula_42 = true := by decide +kernel
def bX5_readFormula_53 : List zI := [(.iconst 1, 1, 0, 0, 0), (.goto 4, 3, 58, 0, 0)]
set_option maxRecDepth 20000 in
theorem hX5_readFormula_53 : zChk false 5 cX5_readFormula 53 bX5_readFormula_53 = true := by decide +kernel
def bX5_readFormula_57 : List zI := [(.iconst 0, 1, 0, 0, 0), (.istore_n 1, 1, 0, 0, 0), (.goto 43, 3, 102, 0, 0)]
set_option maxRecDepth 20000 in
theorem hX5_readFormula_57 : zChk false 5 cX5_readFormula 57 bX5_readFormula_57 = true := by decide +kernel
def bX5_readFormula_58 : List zI := [(.istore_n 1, 1, 0, 0, 0), (.goto 43, 3, 102, 0, 0)]
set_option maxRecDepth 20000 in
theorem hX5_readFormula_58 : zChk false 5 cX5_readFormula 58 bX5_readFormula_58 = true := by decide +kernel
def bX5_readFormula_62 : List zI := [(.iload_n 3, 1, 0, 0, 0), (.iconst 4, 1, 0, 0, 0), (.if_icmp .ne 17, 3, 81, 0, 0), (.aload_n 0, 1, 0, 0, 0), (.getfield 192, 3, 5, 5, 0), (.ifCond .ne 10, 3, 81, 0, 0), (.aload_n 0, 1, 0, 0, 0), (.iconst 0, 1, 0, 0, 0)]
set_option maxRecDepth 20000 in
theorem hX5_readFormula_62 : zChk false 5 cX5_readFormula 62 bX5_readFormula_62 = true := by decide +kernel
def bX5_readFormula_79 : List zI := [(.iconst 1, 1, 0, 0, 0), (.ireturn, 1, 0, 0, 0)]
set_option maxRecDepth 20000 in
theorem hX5_readFormula_79 : zChk false 5 cX5_readFormula 79 bX5_readFormula_79 = true := by decide +kernel
def bX5_readFormula_81 : List zI := [(.aload_n 0, 1, 0, 0, 0)]
set_option maxRecDepth 20000 in
theorem hX5_readFormula_81 : zChk false 5 cX5_readFormula 81 bX5_readFormula_81 = true := by decide +kernel
def bX5_readFormula_85 : List zI := [(.ifCond .ne 5, 3, 90, 0, 0), (.iconst 0, 1, 0, 0, 0), (.ireturn, 1, 0, 0, 0)]
set_option maxRecDepth 20000 in
theorem hX5_readFormula_85 : zChk false 5 cX5_readFormula 85 bX5_readFormula_85 = true := by decide +kernel
def bX5_readFormula_90 : List zI := [(.iload_n 3, 1, 0, 0, 0), (.bipush 6, 2, 0, 0, 0), (.if_icmp .eq 7, 3, 100, 0, 0), (.iconst 1, 1, 0, 0, 0), (.goto 4, 3, 101, 0, 0)]
set_option maxRecDepth 20000 in
theorem hX5_readFormula_90 : zChk false 5 cX5_readFormula 90 bX5_readFormula_90 = true := by decide +kernel
def bX5_readFormula_100 : List zI := [(.iconst 0, 1, 0, 0, 0), (.istore_n 1, 1, 0, 0, 0), (.aload_n 0, 1, 0, 0, 0), (.getfield 25, 3, 5, 0, 0)]
set_option maxRecDepth 20000 in
theorem hX5_readFormula_100 : zChk false 5 cX5_readFormula 100 bX5_readFormula_100 = true := by decide +kernel
def bX5_readFormula_101 : List zI := [(.istore_n 1, 1, 0, 0, 0), (.aload_n 0, 1, 0, 0, 0), (.getfield 25, 3, 5, 0, 0)]
set_option maxRecDepth 20000 in
theorem hX5_readFormula_101 : zChk false 5 cX5_readFormula 101 bX5_readFormula_101 = true := by decide +kernel
def bX5_readFormula_102 : List zI := [(.aload_n 0, 1, 0, 0, 0), (.getfield 25, 3, 5, 0, 0)]
set_option maxRecDepth 20000 in
theorem hX5_readFormula_102 : zChk false 5 cX5_readFormula 102 bX5_readFormula_102 = true := by decide +kernel
def bX5_readFormula_109 : List zI := [(.iinc 2 1, 3, 0, 0, 0), (.goto (-98), 3, 14, 0, 0)]
set_option maxRecDepth 20000 in
theorem hX5_readFormula_109 : zChk false 5 cX5_readFormula 109 bX5_readFormula_109 = true := by decide +kernel
def bX5_readFormula_115 : List zI := [(.aload_n 0, 1, 0, 0, 0), (.iconst 1, 1, 0, 0, 0)]
set_option maxRecDepth 20000 in
theorem hX5_readFormula_115 : zChk false 5 cX5_readFormula 115 bX5_readFormula_115 = true := by decide +kernel
def bX5_readFormula_120 : List zI := [(.ireturn, 1, 0, 0, 0)]
set_option maxRecDepth 20000 in
theorem hX5_readFormula_120 : zChk false 5 cX5_readFormula 120 bX5_readFormula_120 = true := by decide +kernel
def bX5_readOperand_0 : List zI := [(.aload_n 0, 1, 0, 0, 0), (.getfield 25, 3, 5, 0, 0), (.getfield 62, 3, 7, 6, 0), (.istore_n 1, 1, 0, 0, 0), (.iload_n 1, 1, 0, 0, 0), (.iconst 2, 1, 0, 0, 0), (.if_icmp .ne 49, 3, 59, 0, 0), (.aload_n 0, 1, 0, 0, 0), (.getfield 25, 3, 5, 0, 0), (.getfield 105, 3, 7, 7, 0), (.sipush 9999, 3, 0, 0, 0), (.if_icmp .le 9, 3, 32, 0, 0), (.aload_n 0, 1, 0, 0, 0), (.iconst 2, 1, 0, 0, 0)]
set_option maxRecDepth 20000 in
theorem hX5_readOperand_0 : zChk false 5 cX5_readOperand 0 bX5_readOperand_0 = true := by decide +kernel
def bX5_readOperand_31 : List zI := [(.ireturn, 1, 0, 0, 0)]
set_option maxRecDepth 20000 in
theorem hX5_readOperand_31 : zChk false 5 cX5_readOperand 31 bX5_readOperand_31 = true := by decide +kernel
def bX5_readOperand_32 : List zI := [(.aload_n 0, 1, 0, 0, 0)]
set_option maxRecDepth 20000 in
theorem hX5_readOperand_32 : zChk false 5 cX5_readOperand 32 bX5_readOperand_32 = true := by decide +kernel
def bX5_readOperand_36 : List zI := [(.ifCond .eq 21, 3, 57, 0, 0), (.aload_n 0, 1, 0, 0, 0), (.aload_n 0, 1, 0, 0, 0), (.getfield 25, 3, 5, 0, 0), (.getfield 105, 3, 7, 7, 0)]
set_option maxRecDepth 20000 in
theorem hX5_readOperand_36 : zChk false 5 cX5_readOperand 36 bX5_readOperand_36 = true := by decide +kernel
def bX5_readOperand_50 : List zI := [(.ifCond .eq 7, 3, 57, 0, 0), (.iconst 1, 1, 0, 0, 0), (.goto 4, 3, 58, 0, 0)]
set_option maxRecDepth 20000 in
theorem hX5_readOperand_50 : zChk false 5 cX5_readOperand 50 bX5_readOperand_50 = true := by decide +kernel
def bX5_readOperand_57 : List zI := [(.iconst 0, 1, 0, 0, 0), (.ireturn, 1, 0, 0, 0)]
set_option maxRecDepth 20000 in
theorem hX5_readOperand_57 : zChk false 5 cX5_readOperand 57 bX5_readOperand_57 = true := by decide +kernel
def bX5_readOperand_58 : List zI := [(.ireturn, 1, 0, 0, 0)]
set_option maxRecDepth 20000 in
theorem hX5_readOperand_58 : zChk false 5 cX5_readOperand 58 bX5_readOperand_58 = true := by decide +kernel
def bX5_readOperand_59 : List zI := [(.iload_n 1, 1, 0, 0, 0)]
set_option maxRecDepth 20000 in
theorem hX5_readOperand_59 : zChk false 5 cX5_readOperand 59 bX5_readOperand_59 = true := by decide +kernel
def bX5_readOperand_63 : List zI := [(.ifCond .eq 25, 3, 88, 0, 0), (.aload_n 0, 1, 0, 0, 0)]
set_option maxRecDepth 20000 in
theorem hX5_readOperand_63 : zChk false 5 cX5_readOperand 63 bX5_readOperand_63 = true := by decide +kernel
def bX5_readOperand_70 : List zI := [(.ifCond .eq 16, 3, 86, 0, 0), (.aload_n 0, 1, 0, 0, 0), (.iload_n 1, 1, 0, 0, 0), (.ineg, 1, 0, 0, 0)]
set_option maxRecDepth 20000 in
theorem hX5_readOperand_70 : zChk false 5 cX5_readOperand 70 bX5_readOperand_70 = true := by decide +kernel
def bX5_readOperand_79 : List zI := [(.ifCond .eq 7, 3, 86, 0, 0), (.iconst 1, 1, 0, 0, 0), (.goto 4, 3, 87, 0, 0)]
set_option maxRecDepth 20000 in
theorem hX5_readOperand_79 : zChk false 5 cX5_readOperand 79 bX5_readOperand_79 = true := by decide +kernel
def bX5_readOperand_86 : List zI := [(.iconst 0, 1, 0, 0, 0), (.ireturn, 1, 0, 0, 0)]
set_option maxRecDepth 20000 in
theorem hX5_readOperand_86 : zChk false 5 cX5_readOperand 86 bX5_readOperand_86 = true := by decide +kernel
def bX5_readOperand_87 : List zI := [(.ireturn, 1, 0, 0, 0)]
set_option maxRecDepth 20000 in
theorem hX5_readOperand_87 : zChk false 5 cX5_readOperand 87 bX5_readOperand_87 = true := by decide +kernel
def bX5_readOperand_88 : List zI := [(.iload_n 1, 1, 0, 0, 0), (.bipush 46, 2, 0, 0, 0), (.if_icmp .ne 33, 3, 124, 0, 0), (.aload_n 0, 1, 0, 0, 0)]
set_option maxRecDepth 20000 in
theorem hX5_readOperand_88 : zChk false 5 cX5_readOperand 88 bX5_readOperand_88 = true := by decide +kernel
def bX5_readOperand_98 : List zI := [(.iconst 3, 1, 0, 0, 0), (.if_icmp .gt 25, 3, 124, 0, 0), (.aload_n 0, 1, 0, 0, 0)]
set_option maxRecDepth 20000 in
theorem hX5_readOperand_98 : zChk false 5 cX5_readOperand 98 bX5_readOperand_98 = true := by decide +kernel
def bX5_readOperand_106 : List zI := [(.ifCond .eq 16, 3, 122, 0, 0), (.aload_n 0, 1, 0, 0, 0), (.iload_n 1, 1, 0, 0, 0), (.iconst 3, 1, 0, 0, 0)]
set_option maxRecDepth 20000 in
theorem hX5_readOperand_106 : zChk false 5 cX5_readOperand 106 bX5_readOperand_106 = true := by decide +kernel
def bX5_readOperand_115 : List zI := [(.ifCond .eq 7, 3, 122, 0, 0), (.iconst 1, 1, 0, 0, 0), (.goto 4, 3, 123, 0, 0)]
set_option maxRecDepth 20000 in
theorem hX5_readOperand_115 : zChk false 5 cX5_readOperand 115 bX5_readOperand_115 = true := by decide +kernel
def bX5_readOperand_122 : List zI := [(.iconst 0, 1, 0, 0, 0), (.ireturn, 1, 0, 0, 0)]
set_option maxRecDepth 20000 in
theorem hX5_readOperand_122 : zChk false 5 cX5_readOperand 122 bX5_readOperand_122 = true := by decide +kernel
def bX5_readOperand_123 : List zI := [(.ireturn, 1, 0, 0, 0)]
set_option maxRecDepth 20000 in
theorem hX5_readOperand_123 : zChk false 5 cX5_readOperand 123 bX5_readOperand_123 = true := by decide +kernel
def bX5_readOperand_124 : List zI := [(.iload_n 1, 1, 0, 0, 0), (.iconst 5, 1, 0, 0, 0), (.if_icmp .eq 9, 3, 135, 0, 0), (.aload_n 0, 1, 0, 0, 0), (.iconst 1, 1, 0, 0, 0)]
set_option maxRecDepth 20000 in
theorem hX5_readOperand_124 : zChk false 5 cX5_readOperand 124 bX5_readOperand_124 = true := by decide +kernel
def bX5_readOperand_134 : List zI := [(.ireturn, 1, 0, 0, 0)]
set_option maxRecDepth 20000 in
theorem hX5_readOperand_134 : zChk false 5 cX5_readOperand 134 bX5_readOperand_134 = true := by decide +kernel
def bX5_readOperand_135 : List zI := [(.aload_n 0, 1, 0, 0, 0), (.getfield 192, 3, 5, 5, 0), (.bipush 8, 2, 0, 0, 0), (.if_icmp .lt 9, 3, 150, 0, 0), (.aload_n 0, 1, 0, 0, 0), (.iconst 2, 1, 0, 0, 0)]
set_option maxRecDepth 20000 in
theorem hX5_readOperand_135 : zChk false 5 cX5_readOperand 135 bX5_readOperand_135 = true := by decide +kernel
def bX5_readOperand_149 : List zI := [(.ireturn, 1, 0, 0, 0)]
set_option maxRecDepth 20000 in
theorem hX5_readOperand_149 : zChk false 5 cX5_readOperand 149 bX5_readOperand_149 = true := by decide +kernel
def bX5_readOperand_150 : List zI := [(.aload_n 0, 1, 0, 0, 0), (.dup, 1, 0, 0, 0), (.getfield 192, 3, 5, 5, 0), (.iconst 1, 1, 0, 0, 0), (.iadd, 1, 0, 0, 0), (.putfield 192, 3, 5, 5, 0), (.aload_n 0, 1, 0, 0, 0), (.iload_n 1, 1, 0, 0, 0), (.iconst 0, 1, 0, 0, 0)]
set_option maxRecDepth 20000 in
theorem hX5_readOperand_150 : zChk false 5 cX5_readOperand 150 bX5_readOperand_150 = true := by decide +kernel
def bX5_readOperand_166 : List zI := [(.ireturn, 1, 0, 0, 0)]
set_option maxRecDepth 20000 in
theorem hX5_readOperand_166 : zChk false 5 cX5_readOperand 166 bX5_readOperand_166 = true := by decide +kernel
def bX5_readJoint_0 : List zI := [(.aload_n 0, 1, 0, 0, 0), (.getfield 25, 3, 5, 0, 0), (.getfield 62, 3, 7, 6, 0), (.bipush 6, 2, 0, 0, 0), (.if_icmp .ne 41, 3, 50, 0, 0), (.aload_n 0, 1, 0, 0, 0), (.getfield 192, 3, 5, 5, 0), (.ifCond .le 34, 3, 50, 0, 0), (.aload_n 0, 1, 0, 0, 0), (.iconst 0, 1, 0, 0, 0)]
set_option maxRecDepth 20000 in
theorem hX5_readJoint_0 : zChk false 5 cX5_readJoint 0 bX5_readJoint_0 = true := by decide +kernel
def bX5_readJoint_24 : List zI := [(.aload_n 0, 1, 0, 0, 0), (.dup, 1, 0, 0, 0), (.getfield 192, 3, 5, 5, 0), (.iconst 1, 1, 0, 0, 0), (.isub, 1, 0, 0, 0), (.putfield 192, 3, 5, 5, 0), (.aload_n 0, 1, 0, 0, 0), (.iconst 0, 1, 0, 0, 0), (.aload_n 0, 1, 0, 0, 0), (.getfield 189, 3, 5, 4, 0), (.iconst 1, 1, 0, 0, 0), (.isub, 1, 0, 0, 0)]
set_option maxRecDepth 20000 in
theorem hX5_readJoint_24 : zChk false 5 cX5_readJoint 24 bX5_readJoint_24 = true := by decide +kernel
def bX5_readJoint_45 : List zI := [(.putfield 189, 3, 5, 4, 0), (.iconst 1, 1, 0, 0, 0), (.ireturn, 1, 0, 0, 0)]
set_option maxRecDepth 20000 in
theorem hX5_readJoint_45 : zChk false 5 cX5_readJoint 45 bX5_readJoint_45 = true := by decide +kernel
def bX5_readJoint_50 : List zI := [(.aload_n 0, 1, 0, 0, 0), (.getfield 25, 3, 5, 0, 0), (.getfield 62, 3, 7, 6, 0)]
set_option maxRecDepth 20000 in
theorem hX5_readJoint_50 : zChk false 5 cX5_readJoint 50 bX5_readJoint_50 = true := by decide +kernel
def bX5_readJoint_60 : List zI := [(.istore_n 1, 1, 0, 0, 0), (.iload_n 1, 1, 0, 0, 0), (.iconst (-1), 1, 0, 0, 0), (.if_icmp .ne 9, 3, 72, 0, 0), (.aload_n 0, 1, 0, 0, 0), (.iconst 1, 1, 0, 0, 0)]
set_option maxRecDepth 20000 in
theorem hX5_readJoint_60 : zChk false 5 cX5_readJoint 60 bX5_readJoint_60 = true := by decide +kernel
def bX5_readJoint_71 : List zI := [(.ireturn, 1, 0, 0, 0)]
set_option maxRecDepth 20000 in
theorem hX5_readJoint_71 : zChk false 5 cX5_readJoint 71 bX5_readJoint_71 = true := by decide +kernel
def bX5_readJoint_72 : List zI := [(.aload_n 0, 1, 0, 0, 0), (.iload_n 1, 1, 0, 0, 0), (.iconst 4, 1, 0, 0, 0), (.if_icmp .ne 7, 3, 82, 0, 0), (.iload_n 1, 1, 0, 0, 0), (.goto 6, 3, 85, 0, 0)]
set_option maxRecDepth 20000 in
theorem hX5_readJoint_72 : zChk false 5 cX5_readJoint 72 bX5_readJoint_72 = true := by decide +kernel
def bX5_readJoint_82 : List zI := [(.iload_n 1, 1, 0, 0, 0), (.iconst 1, 1, 0, 0, 0), (.isub, 1, 0, 0, 0)]
set_option maxRecDepth 20000 in
theorem hX5_readJoint_82 : zChk false 5 cX5_readJoint 82 bX5_readJoint_82 = true := by decide +kernel
def bX5_readJoint_88 : List zI := [(.aload_n 0, 1, 0, 0, 0)]
set_option maxRecDepth 20000 in
theorem hX5_readJoint_88 : zChk false 5 cX5_readJoint 88 bX5_readJoint_88 = true := by decide +kernel
def bX5_readJoint_92 : List zI := [(.iload_n 1, 1, 0, 0, 0), (.if_icmp .ne 9, 3, 102, 0, 0), (.aload_n 0, 1, 0, 0, 0), (.iconst 1, 1, 0, 0, 0)]
set_option maxRecDepth 20000 in
theorem hX5_readJoint_92 : zChk false 5 cX5_readJoint 92 bX5_readJoint_92 = true := by decide +kernel
def bX5_readJoint_101 : List zI := [(.ireturn, 1, 0, 0, 0)]
set_option maxRecDepth 20000 in
theorem hX5_readJoint_101 : zChk false 5 cX5_readJoint 101 bX5_readJoint_101 = true := by decide +kernel
def bX5_readJoint_102 : List zI := [(.aload_n 0, 1, 0, 0, 0)]
set_option maxRecDepth 20000 in
theorem hX5_readJoint_102 : zChk false 5 cX5_readJoint 102 bX5_readJoint_102 = true := by decide +kernel
def bX5_readJoint_106 : List zI := [(.ifCond .eq 22, 3, 128, 0, 0), (.aload_n 0, 1, 0, 0, 0), (.aload_n 0, 1, 0, 0, 0), (.getfield 25, 3, 5, 0, 0), (.getfield 62, 3, 7, 6, 0), (.iload_n 1, 1, 0, 0, 0)]
set_option maxRecDepth 20000 in
theorem hX5_readJoint_106 : zChk false 5 cX5_readJoint 106 bX5_readJoint_106 = true := by decide +kernel
def bX5_readJoint_121 : List zI := [(.ifCond .eq 7, 3, 128, 0, 0), (.iconst 1, 1, 0, 0, 0), (.goto 4, 3, 129, 0, 0)]
set_option maxRecDepth 20000 in
theorem hX5_readJoint_121 : zChk false 5 cX5_readJoint 121 bX5_readJoint_121 = true := by decide +kernel
def bX5_readJoint_128 : List zI := [(.iconst 0, 1, 0, 0, 0), (.ireturn, 1, 0, 0, 0)]
set_option maxRecDepth 20000 in
theorem hX5_readJoint_128 : zChk false 5 cX5_readJoint 128 bX5_readJoint_128 = true := by decide +kernel
def bX5_readJoint_129 : List zI := [(.ireturn, 1, 0, 0, 0)]
set_option maxRecDepth 20000 in
theorem hX5_readJoint_129 : zChk false 5 cX5_readJoint 129 bX5_readJoint_129 = true := by decide +kernel
def bX5_countKnot_0 : List zI := [(.aload_n 0, 1, 0, 0, 0), (.getfield 29, 3, 5, 8, 0), (.getfield 228, 3, 4, 16, 0), (.bipush 64, 2, 0, 0, 0), (.if_icmp .lt 9, 3, 18, 0, 0), (.aload_n 0, 1, 0, 0, 0), (.iconst 2, 1, 0, 0, 0)]
set_option maxRecDepth 20000 in
theorem hX5_countKnot_0 : zChk false 5 cX5_countKnot 0 bX5_countKnot_0 = true := by decide +kernel
def bX5_countKnot_17 : List zI := [(.ireturn, 1, 0, 0, 0)]
set_option maxRecDepth 20000 in
theorem hX5_countKnot_17 : zChk false 5 cX5_countKnot 17 bX5_countKnot_17 = true := by decide +kernel
def bX5_countKnot_18 : List zI := [(.aload_n 0, 1, 0, 0, 0), (.getfield 29, 3, 5, 8, 0), (.dup, 1, 0, 0, 0), (.getfield 228, 3, 4, 16, 0), (.iconst 1, 1, 0, 0, 0), (.iadd, 1, 0, 0, 0), (.putfield 228, 3, 4, 16, 0), (.iconst 1, 1, 0, 0, 0), (.ireturn, 1, 0, 0, 0)]
set_option maxRecDepth 20000 in
theorem hX5_countKnot_18 : zChk false 5 cX5_countKnot 18 bX5_countKnot_18 = true := by decide +kernel
def bX5_push_0 : List zI := [(.aload_n 0, 1, 0, 0, 0), (.getfield 189, 3, 5, 4, 0), (.aload_n 0, 1, 0, 0, 0), (.getfield 15, 3, 5, 2, 0), (.arraylength, 1, 0, 0, 0), (.if_icmp .lt 9, 3, 18, 0, 0), (.aload_n 0, 1, 0, 0, 0), (.iconst 2, 1, 0, 0, 0)]
set_option maxRecDepth 20000 in
theorem hX5_push_0 : zChk false 5 cX5_push 0 bX5_push_0 = true := by decide +kernel
def bX5_push_17 : List zI := [(.ireturn, 1, 0, 0, 0)]
set_option maxRecDepth 20000 in
theorem hX5_push_17 : zChk false 5 cX5_push 17 bX5_push_17 = true := by decide +kernel
def bX5_push_18 : List zI := [(.aload_n 0, 1, 0, 0, 0), (.getfield 15, 3, 5, 2, 0), (.aload_n 0, 1, 0, 0, 0), (.getfield 189, 3, 5, 4, 0), (.iload_n 1, 1, 0, 0, 0), (.iastore, 1, 0, 0, 0), (.aload_n 0, 1, 0, 0, 0), (.getfield 18, 3, 5, 3, 0), (.aload_n 0, 1, 0, 0, 0), (.getfield 189, 3, 5, 4, 0), (.iload_n 2, 1, 0, 0, 0), (.iastore, 1, 0, 0, 0), (.aload_n 0, 1, 0, 0, 0), (.dup, 1, 0, 0, 0), (.getfield 189, 3, 5, 4, 0), (.iconst 1, 1, 0, 0, 0), (.iadd, 1, 0, 0, 0), (.putfield 189, 3, 5, 4, 0), (.iconst 1, 1, 0, 0, 0), (.ireturn, 1, 0, 0, 0)]
set_option maxRecDepth 20000 in
theorem hX5_push_18 : zChk false 5 cX5_push 18 bX5_push_18 = true := by decide +kernel
def bX5_write_0 : List zI := [(.aload_n 0, 1, 0, 0, 0), (.getfield 44, 3, 5, 6, 0), (.bipush 64, 2, 0, 0, 0), (.if_icmp .ge 26, 3, 32, 0, 0), (.aload_n 0, 1, 0, 0, 0), (.getfield 29, 3, 5, 8, 0), (.getfield 231, 3, 4, 17, 0), (.aload_n 0, 1, 0, 0, 0), (.getfield 44, 3, 5, 6, 0), (.iload_n 1, 1, 0, 0, 0), (.iastore, 1, 0, 0, 0), (.aload_n 0, 1, 0, 0, 0), (.dup, 1, 0, 0, 0), (.getfield 44, 3, 5, 6, 0), (.iconst 1, 1, 0, 0, 0), (.iadd, 1, 0, 0, 0), (.putfield 44, 3, 5, 6, 0), (.iconst 1, 1, 0, 0, 0), (.ireturn, 1, 0, 0, 0)]
set_option maxRecDepth 20000 in
theorem hX5_write_0 : zChk false 5 cX5_write 0 bX5_write_0 = true := by decide +kernel
def bX5_write_32 : List zI := [(.iconst 1, 1, 0, 0, 0), (.ireturn, 1, 0, 0, 0)]
set_option maxRecDepth 20000 in
theorem hX5_write_32 : zChk false 5 cX5_write 32 bX5_write_32 = true := by decide +kernel
def bX5_writeJoints_0 : List zI := [(.iconst 0, 1, 0, 0, 0), (.istore_n 2, 1, 0, 0, 0)]
set_option maxRecDepth 20000 in
theorem hX5_writeJoints_0 : zChk false 5 cX5_writeJoints 0 bX5_writeJoints_0 = true := by decide +kernel
def bX5_writeJoints_2 : List zI := [(.iload_n 2, 1, 0, 0, 0), (.aload_n 0, 1, 0, 0, 0), (.getfield 15, 3, 5, 2, 0), (.arraylength, 1, 0, 0, 0), (.if_icmp .ge 42, 3, 50, 0, 0), (.aload_n 0, 1, 0, 0, 0)]
set_option maxRecDepth 20000 in
theorem hX5_writeJoints_2 : zChk false 5 cX5_writeJoints 2 bX5_writeJoints_2 = true := by decide +kernel
def bX5_writeJoints_15 : List zI := [(.iload_n 1, 1, 0, 0, 0), (.if_icmp .le 34, 3, 50, 0, 0), (.aload_n 0, 1, 0, 0, 0), (.dup, 1, 0, 0, 0), (.getfield 189, 3, 5, 4, 0), (.iconst 1, 1, 0, 0, 0), (.isub, 1, 0, 0, 0), (.putfield 189, 3, 5, 4, 0), (.aload_n 0, 1, 0, 0, 0), (.aload_n 0, 1, 0, 0, 0), (.getfield 15, 3, 5, 2, 0), (.aload_n 0, 1, 0, 0, 0), (.getfield 189, 3, 5, 4, 0), (.iaload, 1, 0, 0, 0), (.ineg, 1, 0, 0, 0)]
set_option maxRecDepth 20000 in
theorem hX5_writeJoints_15 : zChk false 5 cX5_writeJoints 15 bX5_writeJoints_15 = true := by decide +kernel
def bX5_writeJoints_43 : List zI := [(.pop, 1, 0, 0, 0), (.iinc 2 1, 3, 0, 0, 0), (.goto (-45), 3, 2, 0, 0)]
set_option maxRecDepth 20000 in
theorem hX5_writeJoints_43 : zChk false 5 cX5_writeJoints 43 bX5_writeJoints_43 = true := by decide +kernel
def bX5_writeJoints_50 : List zI := [(.return_, 1, 0, 0, 0)]
set_option maxRecDepth 20000 in
theorem hX5_writeJoints_50 : zChk false 5 cX5_writeJoints 50 bX5_writeJoints_50 = true := by decide +kernel
def bX5_topRank_0 : List zI := [(.aload_n 0, 1, 0, 0, 0), (.getfield 189, 3, 5, 4, 0), (.ifCond .ne 7, 3, 11, 0, 0), (.iconst 0, 1, 0, 0, 0), (.goto 14, 3, 22, 0, 0)]
set_option maxRecDepth 20000 in
theorem hX5_topRank_0 : zChk false 5 cX5_topRank 0 bX5_topRank_0 = true := by decide +kernel
def bX5_topRank_11 : List zI := [(.aload_n 0, 1, 0, 0, 0), (.getfield 18, 3, 5, 3, 0), (.aload_n 0, 1, 0, 0, 0), (.getfield 189, 3, 5, 4, 0), (.iconst 1, 1, 0, 0, 0), (.isub, 1, 0, 0, 0), (.iaload, 1, 0, 0, 0), (.ireturn, 1, 0, 0, 0)]
set_option maxRecDepth 20000 in
theorem hX5_topRank_11 : zChk false 5 cX5_topRank 11 bX5_topRank_11 = true := by decide +kernel
def bX5_topRank_22 : List zI := [(.ireturn, 1, 0, 0, 0)]
set_option maxRecDepth 20000 in
theorem hX5_topRank_22 : zChk false 5 cX5_topRank 22 bX5_topRank_22 = true := by decide +kernel
def bX5_rankOf_0 : List zI := [(.iload_n 0, 1, 0, 0, 0)]
set_option maxRecDepth 20000 in
theorem hX5_rankOf_0 : zChk false 5 cX5_rankOf 0 bX5_rankOf_0 = true := by decide +kernel
def bX5_rankOf_60 : List zI := [(.iconst 1, 1, 0, 0, 0), (.ireturn, 1, 0, 0, 0)]
set_option maxRecDepth 20000 in
theorem hX5_rankOf_60 : zChk false 5 cX5_rankOf 60 bX5_rankOf_60 = true := by decide +kernel
def bX5_rankOf_62 : List zI := [(.iconst 2, 1, 0, 0, 0), (.ireturn, 1, 0, 0, 0)]
set_option maxRecDepth 20000 in
theorem hX5_rankOf_62 : zChk false 5 cX5_rankOf 62 bX5_rankOf_62 = true := by decide +kernel
def bX5_rankOf_64 : List zI := [(.iconst 5, 1, 0, 0, 0), (.ireturn, 1, 0, 0, 0)]
set_option maxRecDepth 20000 in
theorem hX5_rankOf_64 : zChk false 5 cX5_rankOf 64 bX5_rankOf_64 = true := by decide +kernel
def bX5_rankOf_66 : List zI := [(.bipush 6, 2, 0, 0, 0), (.ireturn, 1, 0, 0, 0)]
set_option maxRecDepth 20000 in
theorem hX5_rankOf_66 : zChk false 5 cX5_rankOf 66 bX5_rankOf_66 = true := by decide +kernel
def bX5_rankOf_69 : List zI := [(.iload_n 0, 1, 0, 0, 0), (.bipush 7, 2, 0, 0, 0), (.if_icmp .lt 13, 3, 85, 0, 0), (.iload_n 0, 1, 0, 0, 0), (.bipush 12, 2, 0, 0, 0), (.if_icmp .gt 7, 3, 85, 0, 0), (.iconst 4, 1, 0, 0, 0), (.goto 4, 3, 86, 0, 0)]
set_option maxRecDepth 20000 in
theorem hX5_rankOf_69 : zChk false 5 cX5_rankOf 69 bX5_rankOf_69 = true := by decide +kernel
def bX5_rankOf_85 : List zI := [(.iconst (-1), 1, 0, 0, 0), (.ireturn, 1, 0, 0, 0)]
set_option maxRecDepth 20000 in
theorem hX5_rankOf_85 : zChk false 5 cX5_rankOf 85 bX5_rankOf_85 = true := by decide +kernel
def bX5_rankOf_86 : List zI := [(.ireturn, 1, 0, 0, 0)]
set_option maxRecDepth 20000 in
theorem hX5_rankOf_86 : zChk false 5 cX5_rankOf 86 bX5_rankOf_86 = true := by decide +kernel
def bX6_init_0 : List zI := [(.aload_n 0, 1, 0, 0, 0)]
set_option maxRecDepth 20000 in
theorem hX6_init_0 : zChk true 6 cX6_init 0 bX6_init_0 = true := by decide +kernel
def bX6_init_4 : List zI := [(.return_, 1, 0, 0, 0)]
set_option maxRecDepth 20000 in
theorem hX6_init_4 : zChk true 6 cX6_init 4 bX6_init_4 = true := by decide +kernel
def bX6_clear_0 : List zI := [(.aload_n 0, 1, 0, 0, 0), (.iload_n 1, 1, 0, 0, 0), (.putfield 9, 3, 6, 0, 0), (.aload_n 0, 1, 0, 0, 0), (.iconst 0, 1, 0, 0, 0), (.putfield 15, 3, 6, 1, 0), (.aload_n 0, 1, 0, 0, 0), (.iconst (-1), 1, 0, 0, 0), (.putfield 19, 3, 6, 2, 0), (.aload_n 0, 1, 0, 0, 0), (.iconst 0, 1, 0, 0, 0), (.putfield 22, 3, 6, 3, 0), (.aload_n 0, 1, 0, 0, 0), (.iconst 0, 1, 0, 0, 0), (.putfield 25, 3, 6, 4, 0), (.aload_n 0, 1, 0, 0, 0), (.iconst 0, 1, 0, 0, 0), (.putfield 28, 3, 6, 5, 0), (.aload_n 0, 1, 0, 0, 0), (.iconst 0, 1, 0, 0, 0), (.putfield 31, 3, 6, 6, 0), (.aload_n 0, 1, 0, 0, 0), (.iconst (-1), 1, 0, 0, 0), (.putfield 34, 3, 6, 7, 0), (.aload_n 0, 1, 0, 0, 0), (.iconst (-1), 1, 0, 0, 0), (.putfield 37, 3, 6, 8, 0), (.return_, 1, 0, 0, 0)]
set_option maxRecDepth 20000 in
theorem hX6_clear_0 : zChk false 6 cX6_clear 0 bX6_clear_0 = true := by decide +kernel
def bX6_change_0 : List zI := [(.aload_n 0, 1, 0, 0, 0), (.iload_n 1, 1, 0, 0, 0), (.ifCond .ne 7, 3, 9, 0, 0), (.iconst 1, 1, 0, 0, 0), (.goto 4, 3, 10, 0, 0)]
set_option maxRecDepth 20000 in
theorem hX6_change_0 : zChk false 6 cX6_change 0 bX6_change_0 = true := by decide +kernel
def bX6_change_9 : List zI := [(.iconst 0, 1, 0, 0, 0), (.putfield 22, 3, 6, 3, 0), (.aload_n 0, 1, 0, 0, 0), (.iload_n 1, 1, 0, 0, 0), (.iconst 1, 1, 0, 0, 0), (.if_icmp .ne 7, 3, 23, 0, 0), (.iconst 1, 1, 0, 0, 0), (.goto 4, 3, 24, 0, 0)]
set_option maxRecDepth 20000 in
theorem hX6_change_9 : zChk false 6 cX6_change 9 bX6_change_9 = true := by decide +kernel
def bX6_change_10 : List zI := [(.putfield 22, 3, 6, 3, 0), (.aload_n 0, 1, 0, 0, 0), (.iload_n 1, 1, 0, 0, 0), (.iconst 1, 1, 0, 0, 0), (.if_icmp .ne 7, 3, 23, 0, 0), (.iconst 1, 1, 0, 0, 0), (.goto 4, 3, 24, 0, 0)]
set_option maxRecDepth 20000 in
theorem hX6_change_10 : zChk false 6 cX6_change 10 bX6_change_10 = true := by decide +kernel
def bX6_change_23 : List zI := [(.iconst 0, 1, 0, 0, 0), (.putfield 25, 3, 6, 4, 0), (.aload_n 0, 1, 0, 0, 0), (.iload_n 1, 1, 0, 0, 0), (.iconst 2, 1, 0, 0, 0), (.if_icmp .ne 7, 3, 37, 0, 0), (.iconst 1, 1, 0, 0, 0), (.goto 4, 3, 38, 0, 0)]
set_option maxRecDepth 20000 in
theorem hX6_change_23 : zChk false 6 cX6_change 23 bX6_change_23 = true := by decide +kernel
def bX6_change_24 : List zI := [(.putfield 25, 3, 6, 4, 0), (.aload_n 0, 1, 0, 0, 0), (.iload_n 1, 1, 0, 0, 0), (.iconst 2, 1, 0, 0, 0), (.if_icmp .ne 7, 3, 37, 0, 0), (.iconst 1, 1, 0, 0, 0), (.goto 4, 3, 38, 0, 0)]
set_option maxRecDepth 20000 in
theorem hX6_change_24 : zChk false 6 cX6_change 24 bX6_change_24 = true := by decide +kernel
def bX6_change_37 : List zI := [(.iconst 0, 1, 0, 0, 0), (.putfield 28, 3, 6, 5, 0), (.aload_n 0, 1, 0, 0, 0), (.iload_n 1, 1, 0, 0, 0), (.iconst 4, 1, 0, 0, 0), (.if_icmp .ne 7, 3, 51, 0, 0), (.iconst 1, 1, 0, 0, 0), (.goto 4, 3, 52, 0, 0)]
set_option maxRecDepth 20000 in
theorem hX6_change_37 : zChk false 6 cX6_change 37 bX6_change_37 = true := by decide +kernel
def bX6_change_38 : List zI := [(.putfield 28, 3, 6, 5, 0), (.aload_n 0, 1, 0, 0, 0), (.iload_n 1, 1, 0, 0, 0), (.iconst 4, 1, 0, 0, 0), (.if_icmp .ne 7, 3, 51, 0, 0), (.iconst 1, 1, 0, 0, 0), (.goto 4, 3, 52, 0, 0)]
set_option maxRecDepth 20000 in
theorem hX6_change_38 : zChk false 6 cX6_change 38 bX6_change_38 = true := by decide +kernel
def bX6_change_51 : List zI := [(.iconst 0, 1, 0, 0, 0), (.putfield 31, 3, 6, 6, 0), (.aload_n 0, 1, 0, 0, 0), (.iload_n 1, 1, 0, 0, 0), (.iconst 3, 1, 0, 0, 0), (.if_icmp .ne 7, 3, 65, 0, 0), (.iload_n 2, 1, 0, 0, 0), (.goto 4, 3, 66, 0, 0)]
set_option maxRecDepth 20000 in
theorem hX6_change_51 : zChk false 6 cX6_change 51 bX6_change_51 = true := by decide +kernel
def bX6_change_52 : List zI := [(.putfield 31, 3, 6, 6, 0), (.aload_n 0, 1, 0, 0, 0), (.iload_n 1, 1, 0, 0, 0), (.iconst 3, 1, 0, 0, 0), (.if_icmp .ne 7, 3, 65, 0, 0), (.iload_n 2, 1, 0, 0, 0), (.goto 4, 3, 66, 0, 0)]
set_option maxRecDepth 20000 in
theorem hX6_change_52 : zChk false 6 cX6_change 52 bX6_change_52 = true := by decide +kernel
def bX6_change_65 : List zI := [(.iconst (-1), 1, 0, 0, 0), (.putfield 34, 3, 6, 7, 0), (.aload_n 0, 1, 0, 0, 0), (.iload_n 1, 1, 0, 0, 0), (.iconst 5, 1, 0, 0, 0), (.if_icmp .ne 7, 3, 79, 0, 0), (.iload_n 2, 1, 0, 0, 0), (.goto 4, 3, 80, 0, 0)]
set_option maxRecDepth 20000 in
theorem hX6_change_65 : zChk false 6 cX6_change 65 bX6_change_65 = true := by decide +kernel
def bX6_change_66 : List zI := [(.putfield 34, 3, 6, 7, 0), (.aload_n 0, 1, 0, 0, 0), (.iload_n 1, 1, 0, 0, 0), (.iconst 5, 1, 0, 0, 0), (.if_icmp .ne 7, 3, 79, 0, 0), (.iload_n 2, 1, 0, 0, 0), (.goto 4, 3, 80, 0, 0)]
set_option maxRecDepth 20000 in
theorem hX6_change_66 : zChk false 6 cX6_change 66 bX6_change_66 = true := by decide +kernel
def bX6_change_79 : List zI := [(.iconst (-1), 1, 0, 0, 0), (.putfield 37, 3, 6, 8, 0), (.return_, 1, 0, 0, 0)]
set_option maxRecDepth 20000 in
theorem hX6_change_79 : zChk false 6 cX6_change 79 bX6_change_79 = true := by decide +kernel
def bX6_change_80 : List zI := [(.putfield 37, 3, 6, 8, 0), (.return_, 1, 0, 0, 0)]
set_option maxRecDepth 20000 in
theorem hX6_change_80 : zChk false 6 cX6_change 80 bX6_change_80 = true := by decide +kernel
def bX7_init_0 : List zI := [(.aload_n 0, 1, 0, 0, 0)]
set_option maxRecDepth 20000 in
theorem hX7_init_0 : zChk true 7 cX7_init 0 bX7_init_0 = true := by decide +kernel
def bX7_init_4 : List zI := [(.aload_n 0, 1, 0, 0, 0), (.sipush 700, 3, 0, 0, 0)]
set_option maxRecDepth 20000 in
theorem hX7_init_4 : zChk true 7 cX7_init 4 bX7_init_4 = true := by decide +kernel
def bX7_init_10 : List zI := [(.putfield 9, 3, 7, 0, 0), (.aload_n 0, 1, 0, 0, 0), (.bipush 27, 2, 0, 0, 0)]
set_option maxRecDepth 20000 in
theorem hX7_init_10 : zChk true 7 cX7_init 10 bX7_init_10 = true := by decide +kernel
def bX7_init_18 : List zI := [(.putfield 15, 3, 7, 1, 0), (.iconst 0, 1, 0, 0, 0), (.istore_n 1, 1, 0, 0, 0), (.iconst 0, 1, 0, 0, 0), (.istore_n 2, 1, 0, 0, 0), (.iconst 0, 1, 0, 0, 0), (.istore_n 3, 1, 0, 0, 0)]
set_option maxRecDepth 20000 in
theorem hX7_init_18 : zChk true 7 cX7_init 18 bX7_init_18 = true := by decide +kernel
def bX7_init_27 : List zI := [(.iload_n 3, 1, 0, 0, 0)]
set_option maxRecDepth 20000 in
theorem hX7_init_27 : zChk true 7 cX7_init 27 bX7_init_27 = true := by decide +kernel
def bX7_init_33 : List zI := [(.if_icmp .ge 57, 3, 90, 0, 0), (.iload_n 1, 1, 0, 0, 0), (.bipush 27, 2, 0, 0, 0), (.if_icmp .ge 51, 3, 90, 0, 0)]
set_option maxRecDepth 20000 in
theorem hX7_init_33 : zChk true 7 cX7_init 33 bX7_init_33 = true := by decide +kernel
def bX7_init_44 : List zI := [(.iload_n 3, 1, 0, 0, 0)]
set_option maxRecDepth 20000 in
theorem hX7_init_44 : zChk true 7 cX7_init 44 bX7_init_44 = true := by decide +kernel
def bX7_init_48 : List zI := [(.bipush 32, 2, 0, 0, 0), (.if_icmp .eq 27, 3, 77, 0, 0), (.aload_n 0, 1, 0, 0, 0), (.getfield 15, 3, 7, 1, 0), (.iload_n 1, 1, 0, 0, 0), (.dup2, 1, 0, 0, 0), (.iaload, 1, 0, 0, 0)]
set_option maxRecDepth 20000 in
theorem hX7_init_48 : zChk true 7 cX7_init 48 bX7_init_48 = true := by decide +kernel
def bX7_init_62 : List zI := [(.iload_n 3, 1, 0, 0, 0)]
set_option maxRecDepth 20000 in
theorem hX7_init_62 : zChk true 7 cX7_init 62 bX7_init_62 = true := by decide +kernel
def bX7_init_66 : List zI := [(.iload_n 3, 1, 0, 0, 0), (.iload_n 2, 1, 0, 0, 0), (.isub, 1, 0, 0, 0)]
set_option maxRecDepth 20000 in
theorem hX7_init_66 : zChk true 7 cX7_init 66 bX7_init_66 = true := by decide +kernel
def bX7_init_72 : List zI := [(.ior, 1, 0, 0, 0), (.iastore, 1, 0, 0, 0), (.goto 10, 3, 84, 0, 0)]
set_option maxRecDepth 20000 in
theorem hX7_init_72 : zChk true 7 cX7_init 72 bX7_init_72 = true := by decide +kernel
def bX7_init_77 : List zI := [(.iinc 1 1, 3, 0, 0, 0), (.iload_n 3, 1, 0, 0, 0), (.iconst 1, 1, 0, 0, 0), (.iadd, 1, 0, 0, 0), (.istore_n 2, 1, 0, 0, 0), (.iinc 3 1, 3, 0, 0, 0), (.goto (-60), 3, 27, 0, 0)]
set_option maxRecDepth 20000 in
theorem hX7_init_77 : zChk true 7 cX7_init 77 bX7_init_77 = true := by decide +kernel
def bX7_init_84 : List zI := [(.iinc 3 1, 3, 0, 0, 0), (.goto (-60), 3, 27, 0, 0)]
set_option maxRecDepth 20000 in
theorem hX7_init_84 : zChk true 7 cX7_init 84 bX7_init_84 = true := by decide +kernel
def bX7_init_90 : List zI := [(.return_, 1, 0, 0, 0)]
set_option maxRecDepth 20000 in
theorem hX7_init_90 : zChk true 7 cX7_init 90 bX7_init_90 = true := by decide +kernel
def bX7_letterAt_0 : List zI := [(.iload_n 0, 1, 0, 0, 0), (.bipush 97, 2, 0, 0, 0), (.isub, 1, 0, 0, 0), (.iconst 1, 1, 0, 0, 0), (.iadd, 1, 0, 0, 0), (.iconst 5, 1, 0, 0, 0), (.iconst 5, 1, 0, 0, 0), (.iload_n 1, 1, 0, 0, 0), (.isub, 1, 0, 0, 0), (.imul, 1, 0, 0, 0), (.ishl, 1, 0, 0, 0), (.ireturn, 1, 0, 0, 0)]
set_option maxRecDepth 20000 in
theorem hX7_letterAt_0 : zChk false 7 cX7_letterAt 0 bX7_letterAt_0 = true := by decide +kernel
def bX7_append_0 : List zI := [(.bipush 24, 2, 0, 0, 0), (.istore_n 2, 1, 0, 0, 0)]
set_option maxRecDepth 20000 in
theorem hX7_append_0 : zChk false 7 cX7_append 0 bX7_append_0 = true := by decide +kernel
def bX7_append_3 : List zI := [(.iload_n 2, 1, 0, 0, 0), (.ifCond .lt 42, 3, 46, 0, 0), (.aload_n 0, 1, 0, 0, 0), (.getfield 35, 3, 7, 2, 0), (.sipush 700, 3, 0, 0, 0), (.if_icmp .ge 32, 3, 46, 0, 0), (.aload_n 0, 1, 0, 0, 0), (.getfield 9, 3, 7, 0, 0), (.aload_n 0, 1, 0, 0, 0), (.getfield 35, 3, 7, 2, 0), (.iload_n 1, 1, 0, 0, 0), (.iload_n 2, 1, 0, 0, 0), (.ishr, 1, 0, 0, 0), (.i2b, 1, 0, 0, 0), (.bastore, 1, 0, 0, 0), (.aload_n 0, 1, 0, 0, 0), (.dup, 1, 0, 0, 0), (.getfield 35, 3, 7, 2, 0), (.iconst 1, 1, 0, 0, 0), (.iadd, 1, 0, 0, 0), (.putfield 35, 3, 7, 2, 0), (.iinc 2 (-8), 3, 0, 0, 0), (.goto (-40), 3, 3, 0, 0)]
set_option maxRecDepth 20000 in
theorem hX7_append_3 : zChk false 7 cX7_append 3 bX7_append_3 = true := by decide +kernel
def bX7_append_46 : List zI := [(.return_, 1, 0, 0, 0)]
set_option maxRecDepth 20000 in
theorem hX7_append_46 : zChk false 7 cX7_append 46 bX7_append_46 = true := by decide +kernel
def bX7_start_0 : List zI := [(.aload_n 0, 1, 0, 0, 0), (.iload_n 1, 1, 0, 0, 0), (.aload_n 0, 1, 0, 0, 0), (.getfield 35, 3, 7, 2, 0)]
set_option maxRecDepth 20000 in
theorem hX7_start_0 : zChk false 7 cX7_start 0 bX7_start_0 = true := by decide +kernel
def bX7_start_9 : List zI := [(.putfield 44, 3, 7, 3, 0), (.aload_n 0, 1, 0, 0, 0), (.iconst 0, 1, 0, 0, 0), (.putfield 46, 3, 7, 4, 0), (.aload_n 0, 1, 0, 0, 0)]
set_option maxRecDepth 20000 in
theorem hX7_start_9 : zChk false 7 cX7_start 9 bX7_start_9 = true := by decide +kernel
def bX7_start_21 : List zI := [(.return_, 1, 0, 0, 0)]
set_option maxRecDepth 20000 in
theorem hX7_start_21 : zChk false 7 cX7_start 21 bX7_start_21 = true := by decide +kernel
def bX7_advance_0 : List zI := [(.aload_n 0, 1, 0, 0, 0), (.getfield 46, 3, 7, 4, 0), (.aload_n 0, 1, 0, 0, 0), (.getfield 44, 3, 7, 3, 0), (.if_icmp .ge 44, 3, 52, 0, 0), (.aload_n 0, 1, 0, 0, 0), (.getfield 9, 3, 7, 0, 0), (.aload_n 0, 1, 0, 0, 0), (.getfield 46, 3, 7, 4, 0), (.baload, 1, 0, 0, 0), (.bipush 32, 2, 0, 0, 0), (.if_icmp .eq 17, 3, 39, 0, 0), (.aload_n 0, 1, 0, 0, 0), (.getfield 9, 3, 7, 0, 0), (.aload_n 0, 1, 0, 0, 0), (.getfield 46, 3, 7, 4, 0), (.baload, 1, 0, 0, 0), (.bipush 10, 2, 0, 0, 0), (.if_icmp .ne 16, 3, 52, 0, 0), (.aload_n 0, 1, 0, 0, 0), (.dup, 1, 0, 0, 0), (.getfield 46, 3, 7, 4, 0), (.iconst 1, 1, 0, 0, 0), (.iadd, 1, 0, 0, 0), (.putfield 46, 3, 7, 4, 0), (.goto (-49), 3, 0, 0, 0)]
set_option maxRecDepth 20000 in
theorem hX7_advance_0 : zChk false 7 cX7_advance 0 bX7_advance_0 = true := by decide +kernel
def bX7_advance_39 : List zI := [(.aload_n 0, 1, 0, 0, 0), (.dup, 1, 0, 0, 0), (.getfield 46, 3, 7, 4, 0), (.iconst 1, 1, 0, 0, 0), (.iadd, 1, 0, 0, 0), (.putfield 46, 3, 7, 4, 0), (.goto (-49), 3, 0, 0, 0)]
set_option maxRecDepth 20000 in
theorem hX7_advance_39 : zChk false 7 cX7_advance 39 bX7_advance_39 = true := by decide +kernel
def bX7_advance_52 : List zI := [(.aload_n 0, 1, 0, 0, 0), (.aload_n 0, 1, 0, 0, 0), (.getfield 46, 3, 7, 4, 0), (.putfield 52, 3, 7, 5, 0), (.aload_n 0, 1, 0, 0, 0), (.iconst 0, 1, 0, 0, 0), (.putfield 55, 3, 7, 7, 0), (.aload_n 0, 1, 0, 0, 0), (.getfield 46, 3, 7, 4, 0), (.aload_n 0, 1, 0, 0, 0), (.getfield 44, 3, 7, 3, 0), (.if_icmp .lt 11, 3, 84, 0, 0), (.aload_n 0, 1, 0, 0, 0), (.iconst 0, 1, 0, 0, 0), (.putfield 58, 3, 7, 6, 0), (.goto 60, 3, 141, 0, 0)]
set_option maxRecDepth 20000 in
theorem hX7_advance_52 : zChk false 7 cX7_advance 52 bX7_advance_52 = true := by decide +kernel
def bX7_advance_84 : List zI := [(.aload_n 0, 1, 0, 0, 0), (.getfield 9, 3, 7, 0, 0), (.aload_n 0, 1, 0, 0, 0), (.getfield 46, 3, 7, 4, 0), (.baload, 1, 0, 0, 0)]
set_option maxRecDepth 20000 in
theorem hX7_advance_84 : zChk false 7 cX7_advance 84 bX7_advance_84 = true := by decide +kernel
def bX7_advance_96 : List zI := [(.ifCond .eq 10, 3, 106, 0, 0), (.aload_n 0, 1, 0, 0, 0)]
set_option maxRecDepth 20000 in
theorem hX7_advance_96 : zChk false 7 cX7_advance 96 bX7_advance_96 = true := by decide +kernel
def bX7_advance_103 : List zI := [(.goto 38, 3, 141, 0, 0)]
set_option maxRecDepth 20000 in
theorem hX7_advance_103 : zChk false 7 cX7_advance 103 bX7_advance_103 = true := by decide +kernel
def bX7_advance_106 : List zI := [(.aload_n 0, 1, 0, 0, 0), (.getfield 9, 3, 7, 0, 0), (.aload_n 0, 1, 0, 0, 0), (.getfield 46, 3, 7, 4, 0), (.baload, 1, 0, 0, 0)]
set_option maxRecDepth 20000 in
theorem hX7_advance_106 : zChk false 7 cX7_advance 106 bX7_advance_106 = true := by decide +kernel
def bX7_advance_118 : List zI := [(.ifCond .eq 10, 3, 128, 0, 0), (.aload_n 0, 1, 0, 0, 0)]
set_option maxRecDepth 20000 in
theorem hX7_advance_118 : zChk false 7 cX7_advance 118 bX7_advance_118 = true := by decide +kernel
def bX7_advance_125 : List zI := [(.goto 16, 3, 141, 0, 0)]
set_option maxRecDepth 20000 in
theorem hX7_advance_125 : zChk false 7 cX7_advance 125 bX7_advance_125 = true := by decide +kernel
def bX7_advance_128 : List zI := [(.aload_n 0, 1, 0, 0, 0), (.aload_n 0, 1, 0, 0, 0), (.getfield 9, 3, 7, 0, 0), (.aload_n 0, 1, 0, 0, 0), (.getfield 46, 3, 7, 4, 0), (.baload, 1, 0, 0, 0)]
set_option maxRecDepth 20000 in
theorem hX7_advance_128 : zChk false 7 cX7_advance 128 bX7_advance_128 = true := by decide +kernel
def bX7_advance_141 : List zI := [(.return_, 1, 0, 0, 0)]
set_option maxRecDepth 20000 in
theorem hX7_advance_141 : zChk false 7 cX7_advance 141 bX7_advance_141 = true := by decide +kernel
def bX7_isLetter_0 : List zI := [(.iload_n 0, 1, 0, 0, 0), (.bipush 97, 2, 0, 0, 0), (.if_icmp .lt 13, 3, 16, 0, 0), (.iload_n 0, 1, 0, 0, 0), (.bipush 122, 2, 0, 0, 0), (.if_icmp .gt 7, 3, 16, 0, 0), (.iconst 1, 1, 0, 0, 0), (.goto 4, 3, 17, 0, 0)]
set_option maxRecDepth 20000 in
theorem hX7_isLetter_0 : zChk false 7 cX7_isLetter 0 bX7_isLetter_0 = true := by decide +kernel
def bX7_isLetter_16 : List zI := [(.iconst 0, 1, 0, 0, 0), (.ireturn, 1, 0, 0, 0)]
set_option maxRecDepth 20000 in
theorem hX7_isLetter_16 : zChk false 7 cX7_isLetter 16 bX7_isLetter_16 = true := by decide +kernel
def bX7_isLetter_17 : List zI := [(.ireturn, 1, 0, 0, 0)]
set_option maxRecDepth 20000 in
theorem hX7_isLetter_17 : zChk false 7 cX7_isLetter 17 bX7_isLetter_17 = true := by decide +kernel
def bX7_isDigit_0 : List zI := [(.iload_n 0, 1, 0, 0, 0), (.bipush 48, 2, 0, 0, 0), (.if_icmp .lt 13, 3, 16, 0, 0), (.iload_n 0, 1, 0, 0, 0), (.bipush 57, 2, 0, 0, 0), (.if_icmp .gt 7, 3, 16, 0, 0), (.iconst 1, 1, 0, 0, 0), (.goto 4, 3, 17, 0, 0)]
set_option maxRecDepth 20000 in
theorem hX7_isDigit_0 : zChk false 7 cX7_isDigit 0 bX7_isDigit_0 = true := by decide +kernel
def bX7_isDigit_16 : List zI := [(.iconst 0, 1, 0, 0, 0), (.ireturn, 1, 0, 0, 0)]
set_option maxRecDepth 20000 in
theorem hX7_isDigit_16 : zChk false 7 cX7_isDigit 16 bX7_isDigit_16 = true := by decide +kernel
def bX7_isDigit_17 : List zI := [(.ireturn, 1, 0, 0, 0)]
set_option maxRecDepth 20000 in
theorem hX7_isDigit_17 : zChk false 7 cX7_isDigit 17 bX7_isDigit_17 = true := by decide +kernel
def bX7_readWord_0 : List zI := [(.iconst 0, 1, 0, 0, 0), (.istore_n 1, 1, 0, 0, 0)]
set_option maxRecDepth 20000 in
theorem hX7_readWord_0 : zChk false 7 cX7_readWord 0 bX7_readWord_0 = true := by decide +kernel
def bX7_readWord_2 : List zI := [(.aload_n 0, 1, 0, 0, 0), (.getfield 46, 3, 7, 4, 0), (.aload_n 0, 1, 0, 0, 0), (.getfield 44, 3, 7, 3, 0), (.if_icmp .ge 62, 3, 72, 0, 0), (.aload_n 0, 1, 0, 0, 0), (.getfield 9, 3, 7, 0, 0), (.aload_n 0, 1, 0, 0, 0), (.getfield 46, 3, 7, 4, 0), (.baload, 1, 0, 0, 0)]
set_option maxRecDepth 20000 in
theorem hX7_readWord_2 : zChk false 7 cX7_readWord 2 bX7_readWord_2 = true := by decide +kernel
def bX7_readWord_25 : List zI := [(.ifCond .eq 47, 3, 72, 0, 0), (.iload_n 1, 1, 0, 0, 0), (.bipush 6, 2, 0, 0, 0), (.if_icmp .ge 25, 3, 56, 0, 0), (.aload_n 0, 1, 0, 0, 0), (.dup, 1, 0, 0, 0), (.getfield 55, 3, 7, 7, 0), (.aload_n 0, 1, 0, 0, 0), (.getfield 9, 3, 7, 0, 0), (.aload_n 0, 1, 0, 0, 0), (.getfield 46, 3, 7, 4, 0), (.baload, 1, 0, 0, 0), (.iload_n 1, 1, 0, 0, 0)]
set_option maxRecDepth 20000 in
theorem hX7_readWord_25 : zChk false 7 cX7_readWord 25 bX7_readWord_25 = true := by decide +kernel
def bX7_readWord_52 : List zI := [(.ior, 1, 0, 0, 0), (.putfield 55, 3, 7, 7, 0), (.iinc 1 1, 3, 0, 0, 0), (.aload_n 0, 1, 0, 0, 0), (.dup, 1, 0, 0, 0), (.getfield 46, 3, 7, 4, 0), (.iconst 1, 1, 0, 0, 0), (.iadd, 1, 0, 0, 0), (.putfield 46, 3, 7, 4, 0), (.goto (-67), 3, 2, 0, 0)]
set_option maxRecDepth 20000 in
theorem hX7_readWord_52 : zChk false 7 cX7_readWord 52 bX7_readWord_52 = true := by decide +kernel
def bX7_readWord_56 : List zI := [(.iinc 1 1, 3, 0, 0, 0), (.aload_n 0, 1, 0, 0, 0), (.dup, 1, 0, 0, 0), (.getfield 46, 3, 7, 4, 0), (.iconst 1, 1, 0, 0, 0), (.iadd, 1, 0, 0, 0), (.putfield 46, 3, 7, 4, 0), (.goto (-67), 3, 2, 0, 0)]
set_option maxRecDepth 20000 in
theorem hX7_readWord_56 : zChk false 7 cX7_readWord 56 bX7_readWord_56 = true := by decide +kernel
def bX7_readWord_72 : List zI := [(.aload_n 0, 1, 0, 0, 0), (.iload_n 1, 1, 0, 0, 0), (.bipush 6, 2, 0, 0, 0), (.if_icmp .le 7, 3, 83, 0, 0), (.iconst 1, 1, 0, 0, 0), (.goto 7, 3, 87, 0, 0)]
set_option maxRecDepth 20000 in
theorem hX7_readWord_72 : zChk false 7 cX7_readWord 72 bX7_readWord_72 = true := by decide +kernel
def bX7_readWord_83 : List zI := [(.aload_n 0, 1, 0, 0, 0)]
set_option maxRecDepth 20000 in
theorem hX7_readWord_83 : zChk false 7 cX7_readWord 83 bX7_readWord_83 = true := by decide +kernel
def bX7_readWord_87 : List zI := [(.putfield 58, 3, 7, 6, 0), (.return_, 1, 0, 0, 0)]
set_option maxRecDepth 20000 in
theorem hX7_readWord_87 : zChk false 7 cX7_readWord 87 bX7_readWord_87 = true := by decide +kernel
def bX7_wordKind_0 : List zI := [(.iconst 0, 1, 0, 0, 0), (.istore_n 1, 1, 0, 0, 0)]
set_option maxRecDepth 20000 in
theorem hX7_wordKind_0 : zChk false 7 cX7_wordKind 0 bX7_wordKind_0 = true := by decide +kernel
def bX7_wordKind_2 : List zI := [(.iload_n 1, 1, 0, 0, 0), (.bipush 27, 2, 0, 0, 0), (.if_icmp .ge 27, 3, 32, 0, 0), (.aload_n 0, 1, 0, 0, 0), (.getfield 15, 3, 7, 1, 0), (.iload_n 1, 1, 0, 0, 0), (.iaload, 1, 0, 0, 0), (.aload_n 0, 1, 0, 0, 0), (.getfield 55, 3, 7, 7, 0), (.if_icmp .ne 8, 3, 26, 0, 0), (.bipush 20, 2, 0, 0, 0), (.iload_n 1, 1, 0, 0, 0), (.iadd, 1, 0, 0, 0), (.ireturn, 1, 0, 0, 0)]
set_option maxRecDepth 20000 in
theorem hX7_wordKind_2 : zChk false 7 cX7_wordKind 2 bX7_wordKind_2 = true := by decide +kernel
def bX7_wordKind_26 : List zI := [(.iinc 1 1, 3, 0, 0, 0), (.goto (-27), 3, 2, 0, 0)]
set_option maxRecDepth 20000 in
theorem hX7_wordKind_26 : zChk false 7 cX7_wordKind 26 bX7_wordKind_26 = true := by decide +kernel
def bX7_wordKind_32 : List zI := [(.iconst 3, 1, 0, 0, 0), (.ireturn, 1, 0, 0, 0)]
set_option maxRecDepth 20000 in
theorem hX7_wordKind_32 : zChk false 7 cX7_wordKind 32 bX7_wordKind_32 = true := by decide +kernel
def bX7_readNumber_0 : List zI := [(.aload_n 0, 1, 0, 0, 0), (.getfield 46, 3, 7, 4, 0), (.aload_n 0, 1, 0, 0, 0), (.getfield 44, 3, 7, 3, 0), (.if_icmp .ge 60, 3, 68, 0, 0), (.aload_n 0, 1, 0, 0, 0), (.getfield 9, 3, 7, 0, 0), (.aload_n 0, 1, 0, 0, 0), (.getfield 46, 3, 7, 4, 0), (.baload, 1, 0, 0, 0)]
set_option maxRecDepth 20000 in
theorem hX7_readNumber_0 : zChk false 7 cX7_readNumber 0 bX7_readNumber_0 = true := by decide +kernel
def bX7_readNumber_23 : List zI := [(.ifCond .eq 45, 3, 68, 0, 0), (.aload_n 0, 1, 0, 0, 0), (.ldc 81, 2, 0, 0, 1000000), (.aload_n 0, 1, 0, 0, 0), (.getfield 55, 3, 7, 7, 0), (.bipush 10, 2, 0, 0, 0), (.imul, 1, 0, 0, 0), (.aload_n 0, 1, 0, 0, 0), (.getfield 9, 3, 7, 0, 0), (.aload_n 0, 1, 0, 0, 0), (.getfield 46, 3, 7, 4, 0), (.baload, 1, 0, 0, 0), (.iadd, 1, 0, 0, 0), (.bipush 48, 2, 0, 0, 0), (.isub, 1, 0, 0, 0)]
set_option maxRecDepth 20000 in
theorem hX7_readNumber_23 : zChk false 7 cX7_readNumber 23 bX7_readNumber_23 = true := by decide +kernel
def bX7_readNumber_52 : List zI := [(.putfield 55, 3, 7, 7, 0), (.aload_n 0, 1, 0, 0, 0), (.dup, 1, 0, 0, 0), (.getfield 46, 3, 7, 4, 0), (.iconst 1, 1, 0, 0, 0), (.iadd, 1, 0, 0, 0), (.putfield 46, 3, 7, 4, 0), (.goto (-65), 3, 0, 0, 0)]
set_option maxRecDepth 20000 in
theorem hX7_readNumber_52 : zChk false 7 cX7_readNumber 52 bX7_readNumber_52 = true := by decide +kernel
def bX7_readNumber_68 : List zI := [(.aload_n 0, 1, 0, 0, 0), (.iconst 2, 1, 0, 0, 0), (.putfield 58, 3, 7, 6, 0), (.return_, 1, 0, 0, 0)]
set_option maxRecDepth 20000 in
theorem hX7_readNumber_68 : zChk false 7 cX7_readNumber 68 bX7_readNumber_68 = true := by decide +kernel
def bX7_readMark_0 : List zI := [(.aload_n 0, 1, 0, 0, 0), (.dup, 1, 0, 0, 0), (.getfield 46, 3, 7, 4, 0), (.iconst 1, 1, 0, 0, 0), (.iadd, 1, 0, 0, 0), (.putfield 46, 3, 7, 4, 0), (.iload_n 1, 1, 0, 0, 0), (.bipush 60, 2, 0, 0, 0), (.if_icmp .eq 9, 3, 22, 0, 0), (.iload_n 1, 1, 0, 0, 0), (.bipush 62, 2, 0, 0, 0), (.if_icmp .ne 67, 3, 86, 0, 0), (.aload_n 0, 1, 0, 0, 0), (.iload_n 1, 1, 0, 0, 0), (.aload_n 0, 1, 0, 0, 0), (.getfield 46, 3, 7, 4, 0), (.aload_n 0, 1, 0, 0, 0), (.getfield 44, 3, 7, 3, 0), (.if_icmp .ge 15, 3, 47, 0, 0), (.aload_n 0, 1, 0, 0, 0), (.getfield 9, 3, 7, 0, 0), (.aload_n 0, 1, 0, 0, 0), (.getfield 46, 3, 7, 4, 0), (.baload, 1, 0, 0, 0), (.goto 5, 3, 49, 0, 0)]
set_option maxRecDepth 20000 in
theorem hX7_readMark_0 : zChk false 7 cX7_readMark 0 bX7_readMark_0 = true := by decide +kernel
def bX7_readMark_22 : List zI := [(.aload_n 0, 1, 0, 0, 0), (.iload_n 1, 1, 0, 0, 0), (.aload_n 0, 1, 0, 0, 0), (.getfield 46, 3, 7, 4, 0), (.aload_n 0, 1, 0, 0, 0), (.getfield 44, 3, 7, 3, 0), (.if_icmp .ge 15, 3, 47, 0, 0), (.aload_n 0, 1, 0, 0, 0), (.getfield 9, 3, 7, 0, 0), (.aload_n 0, 1, 0, 0, 0), (.getfield 46, 3, 7, 4, 0), (.baload, 1, 0, 0, 0), (.goto 5, 3, 49, 0, 0)]
set_option maxRecDepth 20000 in
theorem hX7_readMark_22 : zChk false 7 cX7_readMark 22 bX7_readMark_22 = true := by decide +kernel
def bX7_readMark_47 : List zI := [(.bipush 32, 2, 0, 0, 0)]
set_option maxRecDepth 20000 in
theorem hX7_readMark_47 : zChk false 7 cX7_readMark 47 bX7_readMark_47 = true := by decide +kernel
def bX7_readMark_52 : List zI := [(.putfield 58, 3, 7, 6, 0), (.aload_n 0, 1, 0, 0, 0), (.getfield 58, 3, 7, 6, 0), (.bipush 7, 2, 0, 0, 0), (.if_icmp .eq 33, 3, 94, 0, 0), (.aload_n 0, 1, 0, 0, 0), (.getfield 58, 3, 7, 6, 0), (.bipush 12, 2, 0, 0, 0), (.if_icmp .eq 24, 3, 94, 0, 0), (.aload_n 0, 1, 0, 0, 0), (.dup, 1, 0, 0, 0), (.getfield 46, 3, 7, 4, 0), (.iconst 1, 1, 0, 0, 0), (.iadd, 1, 0, 0, 0), (.putfield 46, 3, 7, 4, 0), (.goto 11, 3, 94, 0, 0)]
set_option maxRecDepth 20000 in
theorem hX7_readMark_52 : zChk false 7 cX7_readMark 52 bX7_readMark_52 = true := by decide +kernel
def bX7_readMark_86 : List zI := [(.aload_n 0, 1, 0, 0, 0), (.iload_n 1, 1, 0, 0, 0)]
set_option maxRecDepth 20000 in
theorem hX7_readMark_86 : zChk false 7 cX7_readMark 86 bX7_readMark_86 = true := by decide +kernel
def bX7_readMark_91 : List zI := [(.putfield 58, 3, 7, 6, 0), (.return_, 1, 0, 0, 0)]
set_option maxRecDepth 20000 in
theorem hX7_readMark_91 : zChk false 7 cX7_readMark 91 bX7_readMark_91 = true := by decide +kernel
def bX7_readMark_94 : List zI := [(.return_, 1, 0, 0, 0)]
set_option maxRecDepth 20000 in
theorem hX7_readMark_94 : zChk false 7 cX7_readMark 94 bX7_readMark_94 = true := by decide +kernel
def bX7_comparison_0 : List zI := [(.iload_n 0, 1, 0, 0, 0), (.bipush 62, 2, 0, 0, 0), (.if_icmp .ne 17, 3, 20, 0, 0), (.iload_n 1, 1, 0, 0, 0), (.bipush 61, 2, 0, 0, 0), (.if_icmp .ne 8, 3, 17, 0, 0), (.bipush 11, 2, 0, 0, 0), (.goto 5, 3, 19, 0, 0)]
set_option maxRecDepth 20000 in
theorem hX7_comparison_0 : zChk false 7 cX7_comparison 0 bX7_comparison_0 = true := by decide +kernel
def bX7_comparison_17 : List zI := [(.bipush 12, 2, 0, 0, 0), (.ireturn, 1, 0, 0, 0)]
set_option maxRecDepth 20000 in
theorem hX7_comparison_17 : zChk false 7 cX7_comparison 17 bX7_comparison_17 = true := by decide +kernel
def bX7_comparison_19 : List zI := [(.ireturn, 1, 0, 0, 0)]
set_option maxRecDepth 20000 in
theorem hX7_comparison_19 : zChk false 7 cX7_comparison 19 bX7_comparison_19 = true := by decide +kernel
def bX7_comparison_20 : List zI := [(.iload_n 1, 1, 0, 0, 0), (.bipush 61, 2, 0, 0, 0), (.if_icmp .ne 8, 3, 31, 0, 0), (.bipush 8, 2, 0, 0, 0), (.goto 16, 3, 44, 0, 0)]
set_option maxRecDepth 20000 in
theorem hX7_comparison_20 : zChk false 7 cX7_comparison 20 bX7_comparison_20 = true := by decide +kernel
def bX7_comparison_31 : List zI := [(.iload_n 1, 1, 0, 0, 0), (.bipush 62, 2, 0, 0, 0), (.if_icmp .ne 8, 3, 42, 0, 0), (.bipush 10, 2, 0, 0, 0), (.goto 5, 3, 44, 0, 0)]
set_option maxRecDepth 20000 in
theorem hX7_comparison_31 : zChk false 7 cX7_comparison 31 bX7_comparison_31 = true := by decide +kernel
def bX7_comparison_42 : List zI := [(.bipush 7, 2, 0, 0, 0), (.ireturn, 1, 0, 0, 0)]
set_option maxRecDepth 20000 in
theorem hX7_comparison_42 : zChk false 7 cX7_comparison 42 bX7_comparison_42 = true := by decide +kernel
def bX7_comparison_44 : List zI := [(.ireturn, 1, 0, 0, 0)]
set_option maxRecDepth 20000 in
theorem hX7_comparison_44 : zChk false 7 cX7_comparison 44 bX7_comparison_44 = true := by decide +kernel
def bX7_markKind_0 : List zI := [(.iload_n 0, 1, 0, 0, 0)]
set_option maxRecDepth 20000 in
theorem hX7_markKind_0 : zChk false 7 cX7_markKind 0 bX7_markKind_0 = true := by decide +kernel
def bX7_markKind_104 : List zI := [(.iconst 4, 1, 0, 0, 0), (.ireturn, 1, 0, 0, 0)]
set_option maxRecDepth 20000 in
theorem hX7_markKind_104 : zChk false 7 cX7_markKind 104 bX7_markKind_104 = true := by decide +kernel
def bX7_markKind_106 : List zI := [(.iconst 5, 1, 0, 0, 0), (.ireturn, 1, 0, 0, 0)]
set_option maxRecDepth 20000 in
theorem hX7_markKind_106 : zChk false 7 cX7_markKind 106 bX7_markKind_106 = true := by decide +kernel
def bX7_markKind_108 : List zI := [(.bipush 6, 2, 0, 0, 0), (.ireturn, 1, 0, 0, 0)]
set_option maxRecDepth 20000 in
theorem hX7_markKind_108 : zChk false 7 cX7_markKind 108 bX7_markKind_108 = true := by decide +kernel
def bX7_markKind_111 : List zI := [(.bipush 9, 2, 0, 0, 0), (.ireturn, 1, 0, 0, 0)]
set_option maxRecDepth 20000 in
theorem hX7_markKind_111 : zChk false 7 cX7_markKind 111 bX7_markKind_111 = true := by decide +kernel
def bX7_markKind_114 : List zI := [(.bipush 13, 2, 0, 0, 0), (.ireturn, 1, 0, 0, 0)]
set_option maxRecDepth 20000 in
theorem hX7_markKind_114 : zChk false 7 cX7_markKind 114 bX7_markKind_114 = true := by decide +kernel
def bX7_markKind_117 : List zI := [(.bipush 14, 2, 0, 0, 0), (.ireturn, 1, 0, 0, 0)]
set_option maxRecDepth 20000 in
theorem hX7_markKind_117 : zChk false 7 cX7_markKind 117 bX7_markKind_117 = true := by decide +kernel
def bX7_markKind_120 : List zI := [(.bipush 15, 2, 0, 0, 0), (.ireturn, 1, 0, 0, 0)]
set_option maxRecDepth 20000 in
theorem hX7_markKind_120 : zChk false 7 cX7_markKind 120 bX7_markKind_120 = true := by decide +kernel
def bX7_markKind_123 : List zI := [(.bipush 16, 2, 0, 0, 0), (.ireturn, 1, 0, 0, 0)]
set_option maxRecDepth 20000 in
theorem hX7_markKind_123 : zChk false 7 cX7_markKind 123 bX7_markKind_123 = true := by decide +kernel
def bX7_markKind_126 : List zI := [(.iconst 1, 1, 0, 0, 0), (.ireturn, 1, 0, 0, 0)]
set_option maxRecDepth 20000 in
theorem hX7_markKind_126 : zChk false 7 cX7_markKind 126 bX7_markKind_126 = true := by decide +kernel
def bX8_init_0 : List zI := [(.aload_n 0, 1, 0, 0, 0)]
set_option maxRecDepth 20000 in
theorem hX8_init_0 : zChk true 8 cX8_init 0 bX8_init_0 = true := by decide +kernel
def bX8_init_4 : List zI := [(.aload_n 0, 1, 0, 0, 0), (.bipush 64, 2, 0, 0, 0)]
set_option maxRecDepth 20000 in
theorem hX8_init_4 : zChk true 8 cX8_init 4 bX8_init_4 = true := by decide +kernel
def bX8_init_9 : List zI := [(.putfield 9, 3, 8, 2, 0), (.aload_n 0, 1, 0, 0, 0), (.iconst 5, 1, 0, 0, 0)]
set_option maxRecDepth 20000 in
theorem hX8_init_9 : zChk true 8 cX8_init 9 bX8_init_9 = true := by decide +kernel
def bX8_init_16 : List zI := [(.putfield 15, 3, 8, 3, 0), (.aload_n 0, 1, 0, 0, 0), (.aload_n 1, 1, 0, 0, 0), (.putfield 18, 3, 8, 0, 0), (.aload_n 0, 1, 0, 0, 0), (.aload_n 2, 1, 0, 0, 0), (.putfield 22, 3, 8, 1, 0), (.return_, 1, 0, 0, 0)]
set_option maxRecDepth 20000 in
theorem hX8_init_16 : zChk true 8 cX8_init 16 bX8_init_16 = true := by decide +kernel
def bX8_advance_0 : List zI := [(.iconst 0, 1, 0, 0, 0), (.istore_n 2, 1, 0, 0, 0)]
set_option maxRecDepth 20000 in
theorem hX8_advance_0 : zChk false 8 cX8_advance 0 bX8_advance_0 = true := by decide +kernel
def bX8_advance_2 : List zI := [(.iload_n 2, 1, 0, 0, 0), (.iload_n 1, 1, 0, 0, 0), (.if_icmp .ge 108, 3, 112, 0, 0), (.aload_n 0, 1, 0, 0, 0), (.getfield 18, 3, 8, 0, 0), (.getfield 26, 3, 2, 10, 0), (.bipush 96, 2, 0, 0, 0), (.if_icmp .ge 96, 3, 112, 0, 0), (.aload_n 0, 1, 0, 0, 0), (.getfield 22, 3, 8, 1, 0), (.getfield 32, 3, 6, 2, 0), (.aload_n 0, 1, 0, 0, 0), (.getfield 18, 3, 8, 0, 0), (.getfield 26, 3, 2, 10, 0), (.if_icmp .ne 10, 3, 43, 0, 0), (.aload_n 0, 1, 0, 0, 0), (.getfield 18, 3, 8, 0, 0)]
set_option maxRecDepth 20000 in
theorem hX8_advance_2 : zChk false 8 cX8_advance 2 bX8_advance_2 = true := by decide +kernel
def bX8_advance_43 : List zI := [(.aload_n 0, 1, 0, 0, 0)]
set_option maxRecDepth 20000 in
theorem hX8_advance_43 : zChk false 8 cX8_advance 43 bX8_advance_43 = true := by decide +kernel
def bX8_advance_47 : List zI := [(.aload_n 0, 1, 0, 0, 0)]
set_option maxRecDepth 20000 in
theorem hX8_advance_47 : zChk false 8 cX8_advance 47 bX8_advance_47 = true := by decide +kernel
def bX8_advance_51 : List zI := [(.iconst 2, 1, 0, 0, 0), (.if_icmp .ne 7, 3, 59, 0, 0), (.iconst 1, 1, 0, 0, 0), (.goto 4, 3, 60, 0, 0)]
set_option maxRecDepth 20000 in
theorem hX8_advance_51 : zChk false 8 cX8_advance 51 bX8_advance_51 = true := by decide +kernel
def bX8_advance_59 : List zI := [(.iconst 0, 1, 0, 0, 0), (.istore_n 3, 1, 0, 0, 0), (.iload_n 3, 1, 0, 0, 0), (.ifCond .eq 7, 3, 69, 0, 0), (.aload_n 0, 1, 0, 0, 0)]
set_option maxRecDepth 20000 in
theorem hX8_advance_59 : zChk false 8 cX8_advance 59 bX8_advance_59 = true := by decide +kernel
def bX8_advance_60 : List zI := [(.istore_n 3, 1, 0, 0, 0), (.iload_n 3, 1, 0, 0, 0), (.ifCond .eq 7, 3, 69, 0, 0), (.aload_n 0, 1, 0, 0, 0)]
set_option maxRecDepth 20000 in
theorem hX8_advance_60 : zChk false 8 cX8_advance 60 bX8_advance_60 = true := by decide +kernel
def bX8_advance_69 : List zI := [(.aload_n 0, 1, 0, 0, 0)]
set_option maxRecDepth 20000 in
theorem hX8_advance_69 : zChk false 8 cX8_advance 69 bX8_advance_69 = true := by decide +kernel
def bX8_advance_73 : List zI := [(.iload_n 3, 1, 0, 0, 0), (.ifCond .ne 7, 3, 81, 0, 0), (.aload_n 0, 1, 0, 0, 0)]
set_option maxRecDepth 20000 in
theorem hX8_advance_73 : zChk false 8 cX8_advance 73 bX8_advance_73 = true := by decide +kernel
def bX8_advance_81 : List zI := [(.aload_n 0, 1, 0, 0, 0)]
set_option maxRecDepth 20000 in
theorem hX8_advance_81 : zChk false 8 cX8_advance 81 bX8_advance_81 = true := by decide +kernel
def bX8_advance_85 : List zI := [(.aload_n 0, 1, 0, 0, 0), (.getfield 18, 3, 8, 0, 0), (.dup, 1, 0, 0, 0), (.getfield 26, 3, 2, 10, 0), (.iconst 1, 1, 0, 0, 0), (.iadd, 1, 0, 0, 0), (.putfield 26, 3, 2, 10, 0), (.aload_n 0, 1, 0, 0, 0), (.getfield 18, 3, 8, 0, 0), (.iconst 0, 1, 0, 0, 0), (.putfield 59, 3, 2, 11, 0), (.iinc 2 1, 3, 0, 0, 0), (.goto (-107), 3, 2, 0, 0)]
set_option maxRecDepth 20000 in
theorem hX8_advance_85 : zChk false 8 cX8_advance 85 bX8_advance_85 = true := by decide +kernel
def bX8_advance_112 : List zI := [(.return_, 1, 0, 0, 0)]
set_option maxRecDepth 20000 in
theorem hX8_advance_112 : zChk false 8 cX8_advance 112 bX8_advance_112 = true := by decide +kernel
def bX8_skyNow_0 : List zI := [(.aload_n 0, 1, 0, 0, 0), (.getfield 18, 3, 8, 0, 0), (.getfield 26, 3, 2, 10, 0), (.istore_n 1, 1, 0, 0, 0), (.iload_n 1, 1, 0, 0, 0), (.ifCond .lt 21, 3, 30, 0, 0), (.iload_n 1, 1, 0, 0, 0), (.bipush 96, 2, 0, 0, 0), (.if_icmp .ge 15, 3, 30, 0, 0), (.aload_n 0, 1, 0, 0, 0), (.getfield 62, 3, 8, 4, 0), (.getfield 66, 3, 4, 8, 0), (.iload_n 1, 1, 0, 0, 0), (.iaload, 1, 0, 0, 0), (.goto 4, 3, 31, 0, 0)]
set_option maxRecDepth 20000 in
theorem hX8_skyNow_0 : zChk false 8 cX8_skyNow 0 bX8_skyNow_0 = true := by decide +kernel
def bX8_skyNow_30 : List zI := [(.iconst 0, 1, 0, 0, 0), (.istore_n 2, 1, 0, 0, 0), (.iload_n 2, 1, 0, 0, 0), (.iconst 2, 1, 0, 0, 0), (.if_icmp .ne 17, 3, 51, 0, 0), (.aload_n 0, 1, 0, 0, 0), (.getfield 22, 3, 8, 1, 0), (.getfield 72, 3, 6, 3, 0), (.ifCond .eq 7, 3, 51, 0, 0), (.iconst 1, 1, 0, 0, 0), (.goto 4, 3, 52, 0, 0)]
set_option maxRecDepth 20000 in
theorem hX8_skyNow_30 : zChk false 8 cX8_skyNow 30 bX8_skyNow_30 = true := by decide +kernel
def bX8_skyNow_31 : List zI := [(.istore_n 2, 1, 0, 0, 0), (.iload_n 2, 1, 0, 0, 0), (.iconst 2, 1, 0, 0, 0), (.if_icmp .ne 17, 3, 51, 0, 0), (.aload_n 0, 1, 0, 0, 0), (.getfield 22, 3, 8, 1, 0), (.getfield 72, 3, 6, 3, 0), (.ifCond .eq 7, 3, 51, 0, 0), (.iconst 1, 1, 0, 0, 0), (.goto 4, 3, 52, 0, 0)]
set_option maxRecDepth 20000 in
theorem hX8_skyNow_31 : zChk false 8 cX8_skyNow 31 bX8_skyNow_31 = true := by decide +kernel
def bX8_skyNow_51 : List zI := [(.iload_n 2, 1, 0, 0, 0), (.ireturn, 1, 0, 0, 0)]
set_option maxRecDepth 20000 in
theorem hX8_skyNow_51 : zChk false 8 cX8_skyNow 51 bX8_skyNow_51 = true := by decide +kernel
def bX8_skyNow_52 : List zI := [(.ireturn, 1, 0, 0, 0)]
set_option maxRecDepth 20000 in
theorem hX8_skyNow_52 : zChk false 8 cX8_skyNow 52 bX8_skyNow_52 = true := by decide +kernel
def bX8_letTideCome_0 : List zI := [(.iconst 0, 1, 0, 0, 0), (.istore_n 1, 1, 0, 0, 0)]
set_option maxRecDepth 20000 in
theorem hX8_letTideCome_0 : zChk false 8 cX8_letTideCome 0 bX8_letTideCome_0 = true := by decide +kernel
def bX8_letTideCome_2 : List zI := [(.iload_n 1, 1, 0, 0, 0), (.aload_n 0, 1, 0, 0, 0), (.getfield 62, 3, 8, 4, 0), (.getfield 76, 3, 4, 0, 0), (.if_icmp .ge 57, 3, 67, 0, 0), (.aload_n 0, 1, 0, 0, 0), (.getfield 18, 3, 8, 0, 0), (.getfield 79, 3, 2, 5, 0), (.iload_n 1, 1, 0, 0, 0), (.iaload, 1, 0, 0, 0), (.aload_n 0, 1, 0, 0, 0), (.getfield 18, 3, 8, 0, 0), (.getfield 82, 3, 2, 6, 0), (.iload_n 1, 1, 0, 0, 0), (.iaload, 1, 0, 0, 0), (.iadd, 1, 0, 0, 0), (.ifCond .le 29, 3, 61, 0, 0), (.aload_n 0, 1, 0, 0, 0), (.getfield 62, 3, 8, 4, 0), (.iload_n 1, 1, 0, 0, 0), (.aload_n 0, 1, 0, 0, 0), (.getfield 18, 3, 8, 0, 0), (.getfield 26, 3, 2, 10, 0)]
set_option maxRecDepth 20000 in
theorem hX8_letTideCome_2 : zChk false 8 cX8_letTideCome 2 bX8_letTideCome_2 = true := by decide +kernel
def bX8_letTideCome_50 : List zI := [(.ifCond .eq 11, 3, 61, 0, 0), (.aload_n 0, 1, 0, 0, 0), (.getfield 18, 3, 8, 0, 0), (.iload_n 1, 1, 0, 0, 0)]
set_option maxRecDepth 20000 in
theorem hX8_letTideCome_50 : zChk false 8 cX8_letTideCome 50 bX8_letTideCome_50 = true := by decide +kernel
def bX8_letTideCome_61 : List zI := [(.iinc 1 1, 3, 0, 0, 0), (.goto (-62), 3, 2, 0, 0)]
set_option maxRecDepth 20000 in
theorem hX8_letTideCome_61 : zChk false 8 cX8_letTideCome 61 bX8_letTideCome_61 = true := by decide +kernel
def bX8_letTideCome_67 : List zI := [(.return_, 1, 0, 0, 0)]
set_option maxRecDepth 20000 in
theorem hX8_letTideCome_67 : zChk false 8 cX8_letTideCome 67 bX8_letTideCome_67 = true := by decide +kernel
def bX8_letRainFall_0 : List zI := [(.iconst 0, 1, 0, 0, 0), (.istore_n 1, 1, 0, 0, 0)]
set_option maxRecDepth 20000 in
theorem hX8_letRainFall_0 : zChk false 8 cX8_letRainFall 0 bX8_letRainFall_0 = true := by decide +kernel
def bX8_letRainFall_2 : List zI := [(.iload_n 1, 1, 0, 0, 0), (.aload_n 0, 1, 0, 0, 0), (.getfield 18, 3, 8, 0, 0), (.getfield 93, 3, 2, 8, 0), (.if_icmp .ge 58, 3, 68, 0, 0), (.aload_n 0, 1, 0, 0, 0), (.getfield 18, 3, 8, 0, 0), (.getfield 96, 3, 2, 0, 0), (.iload_n 1, 1, 0, 0, 0), (.iaload, 1, 0, 0, 0), (.iconst 1, 1, 0, 0, 0), (.if_icmp .eq 16, 3, 39, 0, 0), (.aload_n 0, 1, 0, 0, 0), (.getfield 18, 3, 8, 0, 0), (.getfield 96, 3, 2, 0, 0), (.iload_n 1, 1, 0, 0, 0), (.iaload, 1, 0, 0, 0), (.iconst 2, 1, 0, 0, 0), (.if_icmp .ne 26, 3, 62, 0, 0), (.aload_n 0, 1, 0, 0, 0), (.getfield 18, 3, 8, 0, 0), (.iload_n 1, 1, 0, 0, 0)]
set_option maxRecDepth 20000 in
theorem hX8_letRainFall_2 : zChk false 8 cX8_letRainFall 2 bX8_letRainFall_2 = true := by decide +kernel
def bX8_letRainFall_39 : List zI := [(.aload_n 0, 1, 0, 0, 0), (.getfield 18, 3, 8, 0, 0), (.iload_n 1, 1, 0, 0, 0)]
set_option maxRecDepth 20000 in
theorem hX8_letRainFall_39 : zChk false 8 cX8_letRainFall 39 bX8_letRainFall_39 = true := by decide +kernel
def bX8_letRainFall_47 : List zI := [(.aload_n 0, 1, 0, 0, 0), (.getfield 22, 3, 8, 1, 0), (.getfield 102, 3, 6, 6, 0), (.ifCond .ne 8, 3, 62, 0, 0), (.aload_n 0, 1, 0, 0, 0), (.iload_n 1, 1, 0, 0, 0)]
set_option maxRecDepth 20000 in
theorem hX8_letRainFall_47 : zChk false 8 cX8_letRainFall 47 bX8_letRainFall_47 = true := by decide +kernel
def bX8_letRainFall_62 : List zI := [(.iinc 1 1, 3, 0, 0, 0), (.goto (-63), 3, 2, 0, 0)]
set_option maxRecDepth 20000 in
theorem hX8_letRainFall_62 : zChk false 8 cX8_letRainFall 62 bX8_letRainFall_62 = true := by decide +kernel
def bX8_letRainFall_68 : List zI := [(.return_, 1, 0, 0, 0)]
set_option maxRecDepth 20000 in
theorem hX8_letRainFall_68 : zChk false 8 cX8_letRainFall 68 bX8_letRainFall_68 = true := by decide +kernel
def bX8_wet_0 : List zI := [(.aload_n 0, 1, 0, 0, 0), (.getfield 18, 3, 8, 0, 0), (.getfield 108, 3, 2, 2, 0), (.iload_n 1, 1, 0, 0, 0), (.dup2, 1, 0, 0, 0), (.iaload, 1, 0, 0, 0), (.iconst 1, 1, 0, 0, 0), (.iadd, 1, 0, 0, 0), (.iastore, 1, 0, 0, 0), (.aload_n 0, 1, 0, 0, 0), (.getfield 18, 3, 8, 0, 0), (.getfield 108, 3, 2, 2, 0), (.iload_n 1, 1, 0, 0, 0), (.iaload, 1, 0, 0, 0), (.aload_n 0, 1, 0, 0, 0), (.getfield 62, 3, 8, 4, 0), (.getfield 111, 3, 4, 13, 0), (.iconst 4, 1, 0, 0, 0), (.iaload, 1, 0, 0, 0), (.if_icmp .lt 25, 3, 56, 0, 0), (.aload_n 0, 1, 0, 0, 0), (.getfield 18, 3, 8, 0, 0), (.iload_n 1, 1, 0, 0, 0)]
set_option maxRecDepth 20000 in
theorem hX8_wet_0 : zChk false 8 cX8_wet 0 bX8_wet_0 = true := by decide +kernel
def bX8_wet_42 : List zI := [(.aload_n 0, 1, 0, 0, 0), (.getfield 18, 3, 8, 0, 0), (.getfield 117, 3, 2, 7, 0), (.bipush 6, 2, 0, 0, 0), (.dup2, 1, 0, 0, 0), (.iaload, 1, 0, 0, 0), (.iconst 1, 1, 0, 0, 0), (.iadd, 1, 0, 0, 0), (.iastore, 1, 0, 0, 0), (.return_, 1, 0, 0, 0)]
set_option maxRecDepth 20000 in
theorem hX8_wet_42 : zChk false 8 cX8_wet 42 bX8_wet_42 = true := by decide +kernel
def bX8_wet_56 : List zI := [(.return_, 1, 0, 0, 0)]
set_option maxRecDepth 20000 in
theorem hX8_wet_56 : zChk false 8 cX8_wet 56 bX8_wet_56 = true := by decide +kernel
def bX8_letSittersGo_0 : List zI := [(.iconst 0, 1, 0, 0, 0), (.istore_n 1, 1, 0, 0, 0)]
set_option maxRecDepth 20000 in
theorem hX8_letSittersGo_0 : zChk false 8 cX8_letSittersGo 0 bX8_letSittersGo_0 = true := by decide +kernel
def bX8_letSittersGo_2 : List zI := [(.iload_n 1, 1, 0, 0, 0), (.aload_n 0, 1, 0, 0, 0), (.getfield 18, 3, 8, 0, 0), (.getfield 93, 3, 2, 8, 0), (.if_icmp .ge 49, 3, 59, 0, 0), (.aload_n 0, 1, 0, 0, 0), (.getfield 18, 3, 8, 0, 0), (.getfield 96, 3, 2, 0, 0), (.iload_n 1, 1, 0, 0, 0), (.iaload, 1, 0, 0, 0), (.iconst 2, 1, 0, 0, 0), (.if_icmp .ne 30, 3, 53, 0, 0), (.aload_n 0, 1, 0, 0, 0), (.getfield 18, 3, 8, 0, 0), (.getfield 120, 3, 2, 3, 0), (.iload_n 1, 1, 0, 0, 0), (.iaload, 1, 0, 0, 0), (.aload_n 0, 1, 0, 0, 0), (.getfield 18, 3, 8, 0, 0), (.getfield 26, 3, 2, 10, 0), (.if_icmp .ne 11, 3, 53, 0, 0), (.aload_n 0, 1, 0, 0, 0), (.getfield 18, 3, 8, 0, 0), (.iload_n 1, 1, 0, 0, 0)]
set_option maxRecDepth 20000 in
theorem hX8_letSittersGo_2 : zChk false 8 cX8_letSittersGo 2 bX8_letSittersGo_2 = true := by decide +kernel
def bX8_letSittersGo_53 : List zI := [(.iinc 1 1, 3, 0, 0, 0), (.goto (-54), 3, 2, 0, 0)]
set_option maxRecDepth 20000 in
theorem hX8_letSittersGo_53 : zChk false 8 cX8_letSittersGo 53 bX8_letSittersGo_53 = true := by decide +kernel
def bX8_letSittersGo_59 : List zI := [(.return_, 1, 0, 0, 0)]
set_option maxRecDepth 20000 in
theorem hX8_letSittersGo_59 : zChk false 8 cX8_letSittersGo 59 bX8_letSittersGo_59 = true := by decide +kernel
def bX8_letSittersCome_0 : List zI := [(.aload_n 0, 1, 0, 0, 0), (.getfield 62, 3, 8, 4, 0), (.aload_n 0, 1, 0, 0, 0), (.getfield 18, 3, 8, 0, 0), (.getfield 26, 3, 2, 10, 0), (.aload_n 0, 1, 0, 0, 0), (.getfield 22, 3, 8, 1, 0), (.getfield 123, 3, 6, 8, 0)]
set_option maxRecDepth 20000 in
theorem hX8_letSittersCome_0 : zChk false 8 cX8_letSittersCome 0 bX8_letSittersCome_0 = true := by decide +kernel
def bX8_letSittersCome_21 : List zI := [(.istore_n 1, 1, 0, 0, 0), (.iconst 0, 1, 0, 0, 0), (.istore_n 2, 1, 0, 0, 0)]
set_option maxRecDepth 20000 in
theorem hX8_letSittersCome_21 : zChk false 8 cX8_letSittersCome 21 bX8_letSittersCome_21 = true := by decide +kernel
def bX8_letSittersCome_24 : List zI := [(.iload_n 2, 1, 0, 0, 0), (.aload_n 0, 1, 0, 0, 0), (.getfield 62, 3, 8, 4, 0), (.getfield 76, 3, 4, 0, 0), (.if_icmp .ge 18, 3, 50, 0, 0), (.iload_n 1, 1, 0, 0, 0), (.ifCond .le 14, 3, 50, 0, 0), (.aload_n 0, 1, 0, 0, 0), (.iload_n 2, 1, 0, 0, 0)]
set_option maxRecDepth 20000 in
theorem hX8_letSittersCome_24 : zChk false 8 cX8_letSittersCome 24 bX8_letSittersCome_24 = true := by decide +kernel
def bX8_letSittersCome_44 : List zI := [(.iinc 2 1, 3, 0, 0, 0), (.goto (-23), 3, 24, 0, 0)]
set_option maxRecDepth 20000 in
theorem hX8_letSittersCome_44 : zChk false 8 cX8_letSittersCome 44 bX8_letSittersCome_44 = true := by decide +kernel
def bX8_letSittersCome_50 : List zI := [(.iconst 0, 1, 0, 0, 0), (.istore_n 2, 1, 0, 0, 0)]
set_option maxRecDepth 20000 in
theorem hX8_letSittersCome_50 : zChk false 8 cX8_letSittersCome 50 bX8_letSittersCome_50 = true := by decide +kernel
def bX8_letSittersCome_52 : List zI := [(.iload_n 2, 1, 0, 0, 0), (.iload_n 1, 1, 0, 0, 0), (.if_icmp .ge 61, 3, 115, 0, 0), (.aload_n 0, 1, 0, 0, 0)]
set_option maxRecDepth 20000 in
theorem hX8_letSittersCome_52 : zChk false 8 cX8_letSittersCome 52 bX8_letSittersCome_52 = true := by decide +kernel
def bX8_letSittersCome_61 : List zI := [(.istore_n 3, 1, 0, 0, 0), (.iload_n 3, 1, 0, 0, 0), (.iconst (-1), 1, 0, 0, 0), (.if_icmp .ne 19, 3, 83, 0, 0), (.aload_n 0, 1, 0, 0, 0), (.getfield 18, 3, 8, 0, 0), (.getfield 117, 3, 2, 7, 0), (.iconst 4, 1, 0, 0, 0), (.dup2, 1, 0, 0, 0), (.iaload, 1, 0, 0, 0), (.iload_n 1, 1, 0, 0, 0), (.iload_n 2, 1, 0, 0, 0), (.isub, 1, 0, 0, 0), (.iadd, 1, 0, 0, 0), (.iastore, 1, 0, 0, 0), (.return_, 1, 0, 0, 0)]
set_option maxRecDepth 20000 in
theorem hX8_letSittersCome_61 : zChk false 8 cX8_letSittersCome 61 bX8_letSittersCome_61 = true := by decide +kernel
def bX8_letSittersCome_83 : List zI := [(.aload_n 0, 1, 0, 0, 0), (.getfield 18, 3, 8, 0, 0), (.iload_n 3, 1, 0, 0, 0), (.aload_n 0, 1, 0, 0, 0), (.getfield 18, 3, 8, 0, 0), (.getfield 26, 3, 2, 10, 0), (.aload_n 0, 1, 0, 0, 0), (.iload_n 3, 1, 0, 0, 0)]
set_option maxRecDepth 20000 in
theorem hX8_letSittersCome_83 : zChk false 8 cX8_letSittersCome 83 bX8_letSittersCome_83 = true := by decide +kernel
def bX8_letSittersCome_100 : List zI := [(.iadd, 1, 0, 0, 0)]
set_option maxRecDepth 20000 in
theorem hX8_letSittersCome_100 : zChk false 8 cX8_letSittersCome 100 bX8_letSittersCome_100 = true := by decide +kernel
def bX8_letSittersCome_104 : List zI := [(.aload_n 0, 1, 0, 0, 0), (.iload_n 3, 1, 0, 0, 0)]
set_option maxRecDepth 20000 in
theorem hX8_letSittersCome_104 : zChk false 8 cX8_letSittersCome 104 bX8_letSittersCome_104 = true := by decide +kernel
def bX8_letSittersCome_109 : List zI := [(.iinc 2 1, 3, 0, 0, 0), (.goto (-60), 3, 52, 0, 0)]
set_option maxRecDepth 20000 in
theorem hX8_letSittersCome_109 : zChk false 8 cX8_letSittersCome 109 bX8_letSittersCome_109 = true := by decide +kernel
def bX8_letSittersCome_115 : List zI := [(.return_, 1, 0, 0, 0)]
set_option maxRecDepth 20000 in
theorem hX8_letSittersCome_115 : zChk false 8 cX8_letSittersCome 115 bX8_letSittersCome_115 = true := by decide +kernel
def bX8_weigh_0 : List zI := [(.aload_n 0, 1, 0, 0, 0), (.getfield 18, 3, 8, 0, 0), (.getfield 79, 3, 2, 5, 0), (.iload_n 1, 1, 0, 0, 0), (.iaload, 1, 0, 0, 0), (.ifCond .le 53, 3, 62, 0, 0), (.aload_n 0, 1, 0, 0, 0), (.getfield 62, 3, 8, 4, 0), (.iconst 0, 1, 0, 0, 0)]
set_option maxRecDepth 20000 in
theorem hX8_weigh_0 : zChk false 8 cX8_weigh 0 bX8_weigh_0 = true := by decide +kernel
def bX8_weigh_20 : List zI := [(.ifCond .eq 12, 3, 32, 0, 0), (.aload_n 0, 1, 0, 0, 0), (.iconst 0, 1, 0, 0, 0), (.iload_n 1, 1, 0, 0, 0)]
set_option maxRecDepth 20000 in
theorem hX8_weigh_20 : zChk false 8 cX8_weigh 20 bX8_weigh_20 = true := by decide +kernel
def bX8_weigh_29 : List zI := [(.goto 13, 3, 42, 0, 0)]
set_option maxRecDepth 20000 in
theorem hX8_weigh_29 : zChk false 8 cX8_weigh 29 bX8_weigh_29 = true := by decide +kernel
def bX8_weigh_32 : List zI := [(.aload_n 0, 1, 0, 0, 0), (.getfield 62, 3, 8, 4, 0), (.getfield 152, 3, 4, 2, 0), (.iload_n 1, 1, 0, 0, 0), (.iaload, 1, 0, 0, 0), (.i2l, 1, 0, 0, 0), (.lstore_n 2, 1, 0, 0, 0), (.aload_n 0, 1, 0, 0, 0), (.getfield 15, 3, 8, 3, 0), (.iload_n 1, 1, 0, 0, 0), (.lload_n 2, 1, 0, 0, 0), (.ldc2_w 155, 3, 0, 0, -9223372036854775808), (.lcmp, 1, 0, 0, 0), (.ifCond .ne 7, 3, 60, 0, 0), (.lconst 0, 1, 0, 0, 0), (.goto 4, 3, 61, 0, 0)]
set_option maxRecDepth 20000 in
theorem hX8_weigh_32 : zChk false 8 cX8_weigh 32 bX8_weigh_32 = true := by decide +kernel
def bX8_weigh_42 : List zI := [(.lstore_n 2, 1, 0, 0, 0), (.aload_n 0, 1, 0, 0, 0), (.getfield 15, 3, 8, 3, 0), (.iload_n 1, 1, 0, 0, 0), (.lload_n 2, 1, 0, 0, 0), (.ldc2_w 155, 3, 0, 0, -9223372036854775808), (.lcmp, 1, 0, 0, 0), (.ifCond .ne 7, 3, 60, 0, 0), (.lconst 0, 1, 0, 0, 0), (.goto 4, 3, 61, 0, 0)]
set_option maxRecDepth 20000 in
theorem hX8_weigh_42 : zChk false 8 cX8_weigh 42 bX8_weigh_42 = true := by decide +kernel
def bX8_weigh_60 : List zI := [(.lload_n 2, 1, 0, 0, 0), (.lastore, 1, 0, 0, 0), (.return_, 1, 0, 0, 0)]
set_option maxRecDepth 20000 in
theorem hX8_weigh_60 : zChk false 8 cX8_weigh 60 bX8_weigh_60 = true := by decide +kernel
def bX8_weigh_61 : List zI := [(.lastore, 1, 0, 0, 0), (.return_, 1, 0, 0, 0)]
set_option maxRecDepth 20000 in
theorem hX8_weigh_61 : zChk false 8 cX8_weigh 61 bX8_weigh_61 = true := by decide +kernel
def bX8_weigh_62 : List zI := [(.return_, 1, 0, 0, 0)]
set_option maxRecDepth 20000 in
theorem hX8_weigh_62 : zChk false 8 cX8_weigh 62 bX8_weigh_62 = true := by decide +kernel
def bX8_dearestPlace_0 : List zI := [(.iconst (-1), 1, 0, 0, 0), (.istore_n 1, 1, 0, 0, 0), (.iconst 0, 1, 0, 0, 0), (.istore_n 2, 1, 0, 0, 0)]
set_option maxRecDepth 20000 in
theorem hX8_dearestPlace_0 : zChk false 8 cX8_dearestPlace 0 bX8_dearestPlace_0 = true := by decide +kernel
def bX8_dearestPlace_4 : List zI := [(.iload_n 2, 1, 0, 0, 0), (.aload_n 0, 1, 0, 0, 0), (.getfield 62, 3, 8, 4, 0), (.getfield 76, 3, 4, 0, 0), (.if_icmp .ge 65, 3, 77, 0, 0), (.aload_n 0, 1, 0, 0, 0), (.getfield 18, 3, 8, 0, 0), (.getfield 79, 3, 2, 5, 0), (.iload_n 2, 1, 0, 0, 0), (.iaload, 1, 0, 0, 0), (.ifCond .le 18, 3, 42, 0, 0), (.iload_n 2, 1, 0, 0, 0), (.aload_n 0, 1, 0, 0, 0), (.getfield 22, 3, 8, 1, 0), (.getfield 157, 3, 6, 7, 0), (.if_icmp .eq 7, 3, 42, 0, 0), (.iconst 1, 1, 0, 0, 0), (.goto 4, 3, 43, 0, 0)]
set_option maxRecDepth 20000 in
theorem hX8_dearestPlace_4 : zChk false 8 cX8_dearestPlace 4 bX8_dearestPlace_4 = true := by decide +kernel
def bX8_dearestPlace_42 : List zI := [(.iconst 0, 1, 0, 0, 0), (.istore_n 3, 1, 0, 0, 0), (.iload_n 3, 1, 0, 0, 0), (.ifCond .eq 26, 3, 71, 0, 0), (.iload_n 1, 1, 0, 0, 0), (.iconst (-1), 1, 0, 0, 0), (.if_icmp .eq 19, 3, 69, 0, 0), (.aload_n 0, 1, 0, 0, 0), (.getfield 15, 3, 8, 3, 0), (.iload_n 2, 1, 0, 0, 0), (.laload, 1, 0, 0, 0), (.aload_n 0, 1, 0, 0, 0), (.getfield 15, 3, 8, 3, 0), (.iload_n 1, 1, 0, 0, 0), (.laload, 1, 0, 0, 0), (.lcmp, 1, 0, 0, 0), (.ifCond .le 5, 3, 71, 0, 0), (.iload_n 2, 1, 0, 0, 0), (.istore_n 1, 1, 0, 0, 0), (.iinc 2 1, 3, 0, 0, 0), (.goto (-70), 3, 4, 0, 0)]
set_option maxRecDepth 20000 in
theorem hX8_dearestPlace_42 : zChk false 8 cX8_dearestPlace 42 bX8_dearestPlace_42 = true := by decide +kernel
def bX8_dearestPlace_43 : List zI := [(.istore_n 3, 1, 0, 0, 0), (.iload_n 3, 1, 0, 0, 0), (.ifCond .eq 26, 3, 71, 0, 0), (.iload_n 1, 1, 0, 0, 0), (.iconst (-1), 1, 0, 0, 0), (.if_icmp .eq 19, 3, 69, 0, 0), (.aload_n 0, 1, 0, 0, 0), (.getfield 15, 3, 8, 3, 0), (.iload_n 2, 1, 0, 0, 0), (.laload, 1, 0, 0, 0), (.aload_n 0, 1, 0, 0, 0), (.getfield 15, 3, 8, 3, 0), (.iload_n 1, 1, 0, 0, 0), (.laload, 1, 0, 0, 0), (.lcmp, 1, 0, 0, 0), (.ifCond .le 5, 3, 71, 0, 0), (.iload_n 2, 1, 0, 0, 0), (.istore_n 1, 1, 0, 0, 0), (.iinc 2 1, 3, 0, 0, 0), (.goto (-70), 3, 4, 0, 0)]
set_option maxRecDepth 20000 in
theorem hX8_dearestPlace_43 : zChk false 8 cX8_dearestPlace 43 bX8_dearestPlace_43 = true := by decide +kernel
def bX8_dearestPlace_69 : List zI := [(.iload_n 2, 1, 0, 0, 0), (.istore_n 1, 1, 0, 0, 0), (.iinc 2 1, 3, 0, 0, 0), (.goto (-70), 3, 4, 0, 0)]
set_option maxRecDepth 20000 in
theorem hX8_dearestPlace_69 : zChk false 8 cX8_dearestPlace 69 bX8_dearestPlace_69 = true := by decide +kernel
def bX8_dearestPlace_71 : List zI := [(.iinc 2 1, 3, 0, 0, 0), (.goto (-70), 3, 4, 0, 0)]
set_option maxRecDepth 20000 in
theorem hX8_dearestPlace_71 : zChk false 8 cX8_dearestPlace 71 bX8_dearestPlace_71 = true := by decide +kernel
def bX8_dearestPlace_77 : List zI := [(.iload_n 1, 1, 0, 0, 0), (.ireturn, 1, 0, 0, 0)]
set_option maxRecDepth 20000 in
theorem hX8_dearestPlace_77 : zChk false 8 cX8_dearestPlace 77 bX8_dearestPlace_77 = true := by decide +kernel
def bX8_stayAt_0 : List zI := [(.aload_n 0, 1, 0, 0, 0), (.iconst 1, 1, 0, 0, 0), (.iload_n 1, 1, 0, 0, 0)]
set_option maxRecDepth 20000 in
theorem hX8_stayAt_0 : zChk false 8 cX8_stayAt 0 bX8_stayAt_0 = true := by decide +kernel
def bX8_stayAt_6 : List zI := [(.lstore_n 2, 1, 0, 0, 0), (.lload_n 2, 1, 0, 0, 0), (.ldc2_w 155, 3, 0, 0, -9223372036854775808), (.lcmp, 1, 0, 0, 0), (.ifCond .ne 8, 3, 20, 0, 0), (.bipush 8, 2, 0, 0, 0), (.goto 15, 3, 32, 0, 0)]
set_option maxRecDepth 20000 in
theorem hX8_stayAt_6 : zChk false 8 cX8_stayAt 6 bX8_stayAt_6 = true := by decide +kernel
def bX8_stayAt_20 : List zI := [(.lconst 1, 1, 0, 0, 0), (.ldc2_w 160, 3, 0, 0, 95), (.lload_n 2, 1, 0, 0, 0)]
set_option maxRecDepth 20000 in
theorem hX8_stayAt_20 : zChk false 8 cX8_stayAt 20 bX8_stayAt_20 = true := by decide +kernel
def bX8_stayAt_31 : List zI := [(.l2i, 1, 0, 0, 0), (.ireturn, 1, 0, 0, 0)]
set_option maxRecDepth 20000 in
theorem hX8_stayAt_31 : zChk false 8 cX8_stayAt 31 bX8_stayAt_31 = true := by decide +kernel
def bX8_stayAt_32 : List zI := [(.ireturn, 1, 0, 0, 0)]
set_option maxRecDepth 20000 in
theorem hX8_stayAt_32 : zChk false 8 cX8_stayAt 32 bX8_stayAt_32 = true := by decide +kernel
def bX8_goRound_0 : List zI := [(.aload_n 0, 1, 0, 0, 0), (.getfield 18, 3, 8, 0, 0), (.getfield 171, 3, 2, 12, 0), (.istore_n 1, 1, 0, 0, 0), (.iload_n 1, 1, 0, 0, 0), (.ifCond .gt 4, 3, 13, 0, 0), (.return_, 1, 0, 0, 0)]
set_option maxRecDepth 20000 in
theorem hX8_goRound_0 : zChk false 8 cX8_goRound 0 bX8_goRound_0 = true := by decide +kernel
def bX8_goRound_13 : List zI := [(.aload_n 0, 1, 0, 0, 0), (.getfield 18, 3, 8, 0, 0), (.getfield 26, 3, 2, 10, 0), (.aload_n 0, 1, 0, 0, 0), (.getfield 18, 3, 8, 0, 0), (.getfield 174, 3, 2, 13, 0), (.isub, 1, 0, 0, 0), (.iload_n 1, 1, 0, 0, 0)]
set_option maxRecDepth 20000 in
theorem hX8_goRound_13 : zChk false 8 cX8_goRound 13 bX8_goRound_13 = true := by decide +kernel
def bX8_goRound_32 : List zI := [(.istore_n 2, 1, 0, 0, 0), (.aload_n 0, 1, 0, 0, 0), (.aload_n 0, 1, 0, 0, 0), (.getfield 18, 3, 8, 0, 0), (.getfield 180, 3, 2, 14, 0), (.iconst 4, 1, 0, 0, 0), (.iload_n 2, 1, 0, 0, 0), (.imul, 1, 0, 0, 0), (.lshr, 1, 0, 0, 0), (.l2i, 1, 0, 0, 0), (.bipush 15, 2, 0, 0, 0), (.iand, 1, 0, 0, 0)]
set_option maxRecDepth 20000 in
theorem hX8_goRound_32 : zChk false 8 cX8_goRound 32 bX8_goRound_32 = true := by decide +kernel
def bX8_goRound_52 : List zI := [(.aload_n 0, 1, 0, 0, 0), (.getfield 22, 3, 8, 1, 0), (.getfield 187, 3, 6, 1, 0), (.ifCond .eq 26, 3, 85, 0, 0), (.aload_n 0, 1, 0, 0, 0), (.aload_n 0, 1, 0, 0, 0), (.getfield 18, 3, 8, 0, 0), (.getfield 180, 3, 2, 14, 0), (.iconst 4, 1, 0, 0, 0), (.iload_n 1, 1, 0, 0, 0), (.iconst 1, 1, 0, 0, 0), (.isub, 1, 0, 0, 0), (.iload_n 2, 1, 0, 0, 0), (.isub, 1, 0, 0, 0), (.imul, 1, 0, 0, 0), (.lshr, 1, 0, 0, 0), (.l2i, 1, 0, 0, 0), (.bipush 15, 2, 0, 0, 0), (.iand, 1, 0, 0, 0)]
set_option maxRecDepth 20000 in
theorem hX8_goRound_52 : zChk false 8 cX8_goRound 52 bX8_goRound_52 = true := by decide +kernel
def bX8_goRound_85 : List zI := [(.return_, 1, 0, 0, 0)]
set_option maxRecDepth 20000 in
theorem hX8_goRound_85 : zChk false 8 cX8_goRound 85 bX8_goRound_85 = true := by decide +kernel
def bX8_askAt_0 : List zI := [(.aload_n 0, 1, 0, 0, 0), (.getfield 62, 3, 8, 4, 0), (.iload_n 1, 1, 0, 0, 0)]
set_option maxRecDepth 20000 in
theorem hX8_askAt_0 : zChk false 8 cX8_askAt 0 bX8_askAt_0 = true := by decide +kernel
def bX8_askAt_8 : List zI := [(.ifCond .eq 15, 3, 23, 0, 0), (.aload_n 0, 1, 0, 0, 0), (.getfield 18, 3, 8, 0, 0), (.getfield 82, 3, 2, 6, 0), (.iload_n 1, 1, 0, 0, 0), (.iaload, 1, 0, 0, 0), (.ifCond .ne 4, 3, 24, 0, 0), (.return_, 1, 0, 0, 0)]
set_option maxRecDepth 20000 in
theorem hX8_askAt_8 : zChk false 8 cX8_askAt 8 bX8_askAt_8 = true := by decide +kernel
def bX8_askAt_23 : List zI := [(.return_, 1, 0, 0, 0)]
set_option maxRecDepth 20000 in
theorem hX8_askAt_23 : zChk false 8 cX8_askAt 23 bX8_askAt_23 = true := by decide +kernel
def bX8_askAt_24 : List zI := [(.aload_n 0, 1, 0, 0, 0), (.getfield 22, 3, 8, 1, 0), (.getfield 193, 3, 6, 5, 0), (.ifCond .eq 7, 3, 38, 0, 0), (.lconst 0, 1, 0, 0, 0), (.goto 9, 3, 44, 0, 0)]
set_option maxRecDepth 20000 in
theorem hX8_askAt_24 : zChk false 8 cX8_askAt 24 bX8_askAt_24 = true := by decide +kernel
def bX8_askAt_38 : List zI := [(.aload_n 0, 1, 0, 0, 0), (.iconst 2, 1, 0, 0, 0), (.iload_n 1, 1, 0, 0, 0)]
set_option maxRecDepth 20000 in
theorem hX8_askAt_38 : zChk false 8 cX8_askAt 38 bX8_askAt_38 = true := by decide +kernel
def bX8_askAt_44 : List zI := [(.lstore_n 2, 1, 0, 0, 0), (.iconst 0, 1, 0, 0, 0), (.istore 4, 2, 0, 0, 0)]
set_option maxRecDepth 20000 in
theorem hX8_askAt_44 : zChk false 8 cX8_askAt 44 bX8_askAt_44 = true := by decide +kernel
def bX8_askAt_48 : List zI := [(.iload 4, 2, 0, 0, 0), (.aload_n 0, 1, 0, 0, 0), (.getfield 18, 3, 8, 0, 0), (.getfield 93, 3, 2, 8, 0), (.if_icmp .ge 145, 3, 202, 0, 0), (.aload_n 0, 1, 0, 0, 0), (.getfield 18, 3, 8, 0, 0), (.getfield 96, 3, 2, 0, 0), (.iload 4, 2, 0, 0, 0), (.iaload, 1, 0, 0, 0), (.iconst 2, 1, 0, 0, 0), (.if_icmp .ne 125, 3, 196, 0, 0), (.aload_n 0, 1, 0, 0, 0), (.getfield 18, 3, 8, 0, 0), (.getfield 196, 3, 2, 1, 0), (.iload 4, 2, 0, 0, 0), (.iaload, 1, 0, 0, 0), (.iload_n 1, 1, 0, 0, 0), (.if_icmp .ne 111, 3, 196, 0, 0), (.aload_n 0, 1, 0, 0, 0), (.getfield 18, 3, 8, 0, 0), (.getfield 199, 3, 2, 4, 0), (.iload 4, 2, 0, 0, 0), (.iaload, 1, 0, 0, 0), (.ifCond .ne 98, 3, 196, 0, 0), (.aload_n 0, 1, 0, 0, 0), (.getfield 18, 3, 8, 0, 0), (.aload_n 0, 1, 0, 0, 0), (.getfield 18, 3, 8, 0, 0), (.getfield 202, 3, 2, 15, 0)]
set_option maxRecDepth 20000 in
theorem hX8_askAt_48 : zChk false 8 cX8_askAt 48 bX8_askAt_48 = true := by decide +kernel
def bX8_askAt_115 : List zI := [(.putfield 202, 3, 2, 15, 0), (.aload_n 0, 1, 0, 0, 0), (.getfield 18, 3, 8, 0, 0), (.getfield 202, 3, 2, 15, 0)]
set_option maxRecDepth 20000 in
theorem hX8_askAt_115 : zChk false 8 cX8_askAt 115 bX8_askAt_115 = true := by decide +kernel
def bX8_askAt_128 : List zI := [(.ldc2_w 212, 3, 0, 0, 100), (.lrem, 1, 0, 0, 0), (.lload_n 2, 1, 0, 0, 0), (.lcmp, 1, 0, 0, 0), (.ifCond .ge 19, 3, 153, 0, 0), (.aload_n 0, 1, 0, 0, 0), (.getfield 18, 3, 8, 0, 0), (.getfield 117, 3, 2, 7, 0), (.iconst 2, 1, 0, 0, 0), (.dup2, 1, 0, 0, 0), (.iaload, 1, 0, 0, 0), (.iconst 1, 1, 0, 0, 0), (.iadd, 1, 0, 0, 0), (.iastore, 1, 0, 0, 0), (.goto 46, 3, 196, 0, 0)]
set_option maxRecDepth 20000 in
theorem hX8_askAt_128 : zChk false 8 cX8_askAt 128 bX8_askAt_128 = true := by decide +kernel
def bX8_askAt_153 : List zI := [(.aload_n 0, 1, 0, 0, 0), (.getfield 18, 3, 8, 0, 0), (.getfield 199, 3, 2, 4, 0), (.iload 4, 2, 0, 0, 0), (.iconst 1, 1, 0, 0, 0), (.iastore, 1, 0, 0, 0), (.aload_n 0, 1, 0, 0, 0), (.getfield 18, 3, 8, 0, 0), (.getfield 117, 3, 2, 7, 0), (.iconst 1, 1, 0, 0, 0), (.dup2, 1, 0, 0, 0), (.iaload, 1, 0, 0, 0), (.iconst 1, 1, 0, 0, 0), (.iadd, 1, 0, 0, 0), (.iastore, 1, 0, 0, 0), (.aload_n 0, 1, 0, 0, 0), (.getfield 18, 3, 8, 0, 0), (.getfield 117, 3, 2, 7, 0), (.iconst 0, 1, 0, 0, 0), (.dup2, 1, 0, 0, 0), (.iaload, 1, 0, 0, 0), (.aload_n 0, 1, 0, 0, 0), (.getfield 22, 3, 8, 1, 0), (.getfield 214, 3, 6, 0, 0), (.iadd, 1, 0, 0, 0), (.iastore, 1, 0, 0, 0), (.iinc 4 1, 3, 0, 0, 0), (.goto (-151), 3, 48, 0, 0)]
set_option maxRecDepth 20000 in
theorem hX8_askAt_153 : zChk false 8 cX8_askAt 153 bX8_askAt_153 = true := by decide +kernel
def bX8_askAt_196 : List zI := [(.iinc 4 1, 3, 0, 0, 0), (.goto (-151), 3, 48, 0, 0)]
set_option maxRecDepth 20000 in
theorem hX8_askAt_196 : zChk false 8 cX8_askAt 196 bX8_askAt_196 = true := by decide +kernel
def bX8_askAt_202 : List zI := [(.return_, 1, 0, 0, 0)]
set_option maxRecDepth 20000 in
theorem hX8_askAt_202 : zChk false 8 cX8_askAt 202 bX8_askAt_202 = true := by decide +kernel
def bX8_valueOf_0 : List zI := [(.aload_n 0, 1, 0, 0, 0), (.getfield 62, 3, 8, 4, 0), (.iload_n 1, 1, 0, 0, 0)]
set_option maxRecDepth 20000 in
theorem hX8_valueOf_0 : zChk false 8 cX8_valueOf 0 bX8_valueOf_0 = true := by decide +kernel
def bX8_valueOf_8 : List zI := [(.ifCond .eq 14, 3, 22, 0, 0), (.aload_n 0, 1, 0, 0, 0), (.getfield 62, 3, 8, 4, 0), (.iload_n 2, 1, 0, 0, 0)]
set_option maxRecDepth 20000 in
theorem hX8_valueOf_8 : zChk false 8 cX8_valueOf 8 bX8_valueOf_8 = true := by decide +kernel
def bX8_valueOf_19 : List zI := [(.ifCond .ne 7, 3, 26, 0, 0), (.ldc2_w 155, 3, 0, 0, -9223372036854775808), (.lreturn, 1, 0, 0, 0)]
set_option maxRecDepth 20000 in
theorem hX8_valueOf_19 : zChk false 8 cX8_valueOf 19 bX8_valueOf_19 = true := by decide +kernel
def bX8_valueOf_22 : List zI := [(.ldc2_w 155, 3, 0, 0, -9223372036854775808), (.lreturn, 1, 0, 0, 0)]
set_option maxRecDepth 20000 in
theorem hX8_valueOf_22 : zChk false 8 cX8_valueOf 22 bX8_valueOf_22 = true := by decide +kernel
def bX8_valueOf_26 : List zI := [(.iconst 0, 1, 0, 0, 0), (.istore_n 3, 1, 0, 0, 0), (.aload_n 0, 1, 0, 0, 0), (.getfield 62, 3, 8, 4, 0), (.getfield 217, 3, 4, 18, 0), (.iload_n 1, 1, 0, 0, 0), (.iaload, 1, 0, 0, 0), (.istore 4, 2, 0, 0, 0)]
set_option maxRecDepth 20000 in
theorem hX8_valueOf_26 : zChk false 8 cX8_valueOf 26 bX8_valueOf_26 = true := by decide +kernel
def bX8_valueOf_39 : List zI := [(.iload 4, 2, 0, 0, 0), (.aload_n 0, 1, 0, 0, 0), (.getfield 62, 3, 8, 4, 0), (.getfield 220, 3, 4, 19, 0), (.iload_n 1, 1, 0, 0, 0), (.iaload, 1, 0, 0, 0), (.if_icmp .ge 170, 3, 220, 0, 0), (.aload_n 0, 1, 0, 0, 0), (.getfield 62, 3, 8, 4, 0), (.getfield 223, 3, 4, 17, 0), (.iload 4, 2, 0, 0, 0), (.iaload, 1, 0, 0, 0), (.istore 5, 2, 0, 0, 0), (.iload 5, 2, 0, 0, 0), (.ifCond .ge 12, 3, 79, 0, 0), (.iload 5, 2, 0, 0, 0), (.ineg, 1, 0, 0, 0)]
set_option maxRecDepth 20000 in
theorem hX8_valueOf_39 : zChk false 8 cX8_valueOf 39 bX8_valueOf_39 = true := by decide +kernel
def bX8_valueOf_76 : List zI := [(.ifCond .eq 44, 3, 120, 0, 0), (.iload_n 3, 1, 0, 0, 0), (.bipush 64, 2, 0, 0, 0), (.if_icmp .lt 7, 3, 89, 0, 0), (.ldc2_w 155, 3, 0, 0, -9223372036854775808), (.lreturn, 1, 0, 0, 0)]
set_option maxRecDepth 20000 in
theorem hX8_valueOf_76 : zChk false 8 cX8_valueOf 76 bX8_valueOf_76 = true := by decide +kernel
def bX8_valueOf_79 : List zI := [(.iload_n 3, 1, 0, 0, 0), (.bipush 64, 2, 0, 0, 0), (.if_icmp .lt 7, 3, 89, 0, 0), (.ldc2_w 155, 3, 0, 0, -9223372036854775808), (.lreturn, 1, 0, 0, 0)]
set_option maxRecDepth 20000 in
theorem hX8_valueOf_79 : zChk false 8 cX8_valueOf 79 bX8_valueOf_79 = true := by decide +kernel
def bX8_valueOf_89 : List zI := [(.aload_n 0, 1, 0, 0, 0), (.getfield 9, 3, 8, 2, 0), (.iload_n 3, 1, 0, 0, 0), (.iload 5, 2, 0, 0, 0), (.ifCond .lt 9, 3, 105, 0, 0), (.iload 5, 2, 0, 0, 0), (.i2l, 1, 0, 0, 0), (.goto 11, 3, 113, 0, 0)]
set_option maxRecDepth 20000 in
theorem hX8_valueOf_89 : zChk false 8 cX8_valueOf 89 bX8_valueOf_89 = true := by decide +kernel
def bX8_valueOf_105 : List zI := [(.aload_n 0, 1, 0, 0, 0), (.iload 5, 2, 0, 0, 0), (.ineg, 1, 0, 0, 0), (.iload_n 2, 1, 0, 0, 0)]
set_option maxRecDepth 20000 in
theorem hX8_valueOf_105 : zChk false 8 cX8_valueOf 105 bX8_valueOf_105 = true := by decide +kernel
def bX8_valueOf_113 : List zI := [(.lastore, 1, 0, 0, 0), (.iinc 3 1, 3, 0, 0, 0), (.goto 97, 3, 214, 0, 0)]
set_option maxRecDepth 20000 in
theorem hX8_valueOf_113 : zChk false 8 cX8_valueOf 113 bX8_valueOf_113 = true := by decide +kernel
def bX8_valueOf_120 : List zI := [(.iload 5, 2, 0, 0, 0), (.bipush (-46), 2, 0, 0, 0), (.if_icmp .ne 37, 3, 161, 0, 0), (.iload_n 3, 1, 0, 0, 0), (.iconst 1, 1, 0, 0, 0), (.if_icmp .lt 32, 3, 161, 0, 0), (.aload_n 0, 1, 0, 0, 0), (.getfield 9, 3, 8, 2, 0), (.iload_n 3, 1, 0, 0, 0), (.iconst 1, 1, 0, 0, 0), (.isub, 1, 0, 0, 0), (.aload_n 0, 1, 0, 0, 0), (.getfield 9, 3, 8, 2, 0), (.iload_n 3, 1, 0, 0, 0), (.iconst 1, 1, 0, 0, 0), (.isub, 1, 0, 0, 0), (.laload, 1, 0, 0, 0), (.lconst 0, 1, 0, 0, 0), (.lcmp, 1, 0, 0, 0), (.ifCond .ne 7, 3, 156, 0, 0), (.lconst 1, 1, 0, 0, 0), (.goto 4, 3, 157, 0, 0)]
set_option maxRecDepth 20000 in
theorem hX8_valueOf_120 : zChk false 8 cX8_valueOf 120 bX8_valueOf_120 = true := by decide +kernel
def bX8_valueOf_156 : List zI := [(.lconst 0, 1, 0, 0, 0), (.lastore, 1, 0, 0, 0), (.goto 56, 3, 214, 0, 0)]
set_option maxRecDepth 20000 in
theorem hX8_valueOf_156 : zChk false 8 cX8_valueOf 156 bX8_valueOf_156 = true := by decide +kernel
def bX8_valueOf_157 : List zI := [(.lastore, 1, 0, 0, 0), (.goto 56, 3, 214, 0, 0)]
set_option maxRecDepth 20000 in
theorem hX8_valueOf_157 : zChk false 8 cX8_valueOf 157 bX8_valueOf_157 = true := by decide +kernel
def bX8_valueOf_161 : List zI := [(.iload_n 3, 1, 0, 0, 0), (.iconst 2, 1, 0, 0, 0), (.if_icmp .lt 51, 3, 214, 0, 0), (.iinc 3 (-1), 3, 0, 0, 0), (.iload 5, 2, 0, 0, 0), (.ineg, 1, 0, 0, 0), (.aload_n 0, 1, 0, 0, 0), (.getfield 9, 3, 8, 2, 0), (.iload_n 3, 1, 0, 0, 0), (.iconst 1, 1, 0, 0, 0), (.isub, 1, 0, 0, 0), (.laload, 1, 0, 0, 0), (.aload_n 0, 1, 0, 0, 0), (.getfield 9, 3, 8, 2, 0), (.iload_n 3, 1, 0, 0, 0), (.laload, 1, 0, 0, 0)]
set_option maxRecDepth 20000 in
theorem hX8_valueOf_161 : zChk false 8 cX8_valueOf 161 bX8_valueOf_161 = true := by decide +kernel
def bX8_valueOf_189 : List zI := [(.lstore 6, 2, 0, 0, 0), (.lload 6, 2, 0, 0, 0), (.ldc2_w 155, 3, 0, 0, -9223372036854775808), (.lcmp, 1, 0, 0, 0), (.ifCond .ne 7, 3, 204, 0, 0), (.ldc2_w 155, 3, 0, 0, -9223372036854775808), (.lreturn, 1, 0, 0, 0)]
set_option maxRecDepth 20000 in
theorem hX8_valueOf_189 : zChk false 8 cX8_valueOf 189 bX8_valueOf_189 = true := by decide +kernel
def bX8_valueOf_204 : List zI := [(.aload_n 0, 1, 0, 0, 0), (.getfield 9, 3, 8, 2, 0), (.iload_n 3, 1, 0, 0, 0), (.iconst 1, 1, 0, 0, 0), (.isub, 1, 0, 0, 0), (.lload 6, 2, 0, 0, 0), (.lastore, 1, 0, 0, 0), (.iinc 4 1, 3, 0, 0, 0), (.goto (-178), 3, 39, 0, 0)]
set_option maxRecDepth 20000 in
theorem hX8_valueOf_204 : zChk false 8 cX8_valueOf 204 bX8_valueOf_204 = true := by decide +kernel
def bX8_valueOf_214 : List zI := [(.iinc 4 1, 3, 0, 0, 0), (.goto (-178), 3, 39, 0, 0)]
set_option maxRecDepth 20000 in
theorem hX8_valueOf_214 : zChk false 8 cX8_valueOf 214 bX8_valueOf_214 = true := by decide +kernel
def bX8_valueOf_220 : List zI := [(.iload_n 3, 1, 0, 0, 0), (.iconst 1, 1, 0, 0, 0), (.if_icmp .ne 12, 3, 234, 0, 0), (.aload_n 0, 1, 0, 0, 0), (.getfield 9, 3, 8, 2, 0), (.iconst 0, 1, 0, 0, 0), (.laload, 1, 0, 0, 0), (.goto 6, 3, 237, 0, 0)]
set_option maxRecDepth 20000 in
theorem hX8_valueOf_220 : zChk false 8 cX8_valueOf 220 bX8_valueOf_220 = true := by decide +kernel
def bX8_valueOf_234 : List zI := [(.ldc2_w 155, 3, 0, 0, -9223372036854775808), (.lreturn, 1, 0, 0, 0)]
set_option maxRecDepth 20000 in
theorem hX8_valueOf_234 : zChk false 8 cX8_valueOf 234 bX8_valueOf_234 = true := by decide +kernel
def bX8_valueOf_237 : List zI := [(.lreturn, 1, 0, 0, 0)]
set_option maxRecDepth 20000 in
theorem hX8_valueOf_237 : zChk false 8 cX8_valueOf 237 bX8_valueOf_237 = true := by decide +kernel
def bX8_nameValue_0 : List zI := [(.iload_n 1, 1, 0, 0, 0)]
set_option maxRecDepth 20000 in
theorem hX8_nameValue_0 : zChk false 8 cX8_nameValue 0 bX8_nameValue_0 = true := by decide +kernel
def bX8_nameValue_44 : List zI := [(.aload_n 0, 1, 0, 0, 0), (.getfield 62, 3, 8, 4, 0), (.getfield 152, 3, 4, 2, 0), (.iload_n 2, 1, 0, 0, 0), (.iaload, 1, 0, 0, 0), (.i2l, 1, 0, 0, 0), (.lreturn, 1, 0, 0, 0)]
set_option maxRecDepth 20000 in
theorem hX8_nameValue_44 : zChk false 8 cX8_nameValue 44 bX8_nameValue_44 = true := by decide +kernel
def bX8_nameValue_55 : List zI := [(.aload_n 0, 1, 0, 0, 0), (.getfield 62, 3, 8, 4, 0), (.getfield 236, 3, 4, 3, 0), (.iload_n 2, 1, 0, 0, 0), (.iaload, 1, 0, 0, 0), (.i2l, 1, 0, 0, 0), (.lreturn, 1, 0, 0, 0)]
set_option maxRecDepth 20000 in
theorem hX8_nameValue_55 : zChk false 8 cX8_nameValue 55 bX8_nameValue_55 = true := by decide +kernel
def bX8_nameValue_66 : List zI := [(.aload_n 0, 1, 0, 0, 0)]
set_option maxRecDepth 20000 in
theorem hX8_nameValue_66 : zChk false 8 cX8_nameValue 66 bX8_nameValue_66 = true := by decide +kernel
def bX8_nameValue_70 : List zI := [(.ifCond .ne 7, 3, 77, 0, 0), (.lconst 1, 1, 0, 0, 0), (.goto 4, 3, 78, 0, 0)]
set_option maxRecDepth 20000 in
theorem hX8_nameValue_70 : zChk false 8 cX8_nameValue 70 bX8_nameValue_70 = true := by decide +kernel
def bX8_nameValue_77 : List zI := [(.lconst 0, 1, 0, 0, 0), (.lreturn, 1, 0, 0, 0)]
set_option maxRecDepth 20000 in
theorem hX8_nameValue_77 : zChk false 8 cX8_nameValue 77 bX8_nameValue_77 = true := by decide +kernel
def bX8_nameValue_78 : List zI := [(.lreturn, 1, 0, 0, 0)]
set_option maxRecDepth 20000 in
theorem hX8_nameValue_78 : zChk false 8 cX8_nameValue 78 bX8_nameValue_78 = true := by decide +kernel
def bX8_nameValue_79 : List zI := [(.aload_n 0, 1, 0, 0, 0), (.getfield 22, 3, 8, 1, 0), (.getfield 239, 3, 6, 4, 0), (.ifCond .ne 25, 3, 111, 0, 0), (.aload_n 0, 1, 0, 0, 0), (.getfield 62, 3, 8, 4, 0), (.iload_n 2, 1, 0, 0, 0), (.aload_n 0, 1, 0, 0, 0), (.getfield 18, 3, 8, 0, 0), (.getfield 26, 3, 2, 10, 0)]
set_option maxRecDepth 20000 in
theorem hX8_nameValue_79 : zChk false 8 cX8_nameValue 79 bX8_nameValue_79 = true := by decide +kernel
def bX8_nameValue_104 : List zI := [(.ifCond .eq 7, 3, 111, 0, 0), (.lconst 1, 1, 0, 0, 0), (.goto 4, 3, 112, 0, 0)]
set_option maxRecDepth 20000 in
theorem hX8_nameValue_104 : zChk false 8 cX8_nameValue 104 bX8_nameValue_104 = true := by decide +kernel
def bX8_nameValue_111 : List zI := [(.lconst 0, 1, 0, 0, 0), (.lreturn, 1, 0, 0, 0)]
set_option maxRecDepth 20000 in
theorem hX8_nameValue_111 : zChk false 8 cX8_nameValue 111 bX8_nameValue_111 = true := by decide +kernel
def bX8_nameValue_112 : List zI := [(.lreturn, 1, 0, 0, 0)]
set_option maxRecDepth 20000 in
theorem hX8_nameValue_112 : zChk false 8 cX8_nameValue 112 bX8_nameValue_112 = true := by decide +kernel
def bX8_nameValue_113 : List zI := [(.aload_n 0, 1, 0, 0, 0), (.getfield 18, 3, 8, 0, 0), (.getfield 82, 3, 2, 6, 0), (.iload_n 2, 1, 0, 0, 0), (.iaload, 1, 0, 0, 0), (.i2l, 1, 0, 0, 0), (.lreturn, 1, 0, 0, 0)]
set_option maxRecDepth 20000 in
theorem hX8_nameValue_113 : zChk false 8 cX8_nameValue 113 bX8_nameValue_113 = true := by decide +kernel
def bX8_nameValue_124 : List zI := [(.aload_n 0, 1, 0, 0, 0), (.getfield 18, 3, 8, 0, 0), (.getfield 79, 3, 2, 5, 0), (.iload_n 2, 1, 0, 0, 0), (.iaload, 1, 0, 0, 0), (.i2l, 1, 0, 0, 0), (.lreturn, 1, 0, 0, 0)]
set_option maxRecDepth 20000 in
theorem hX8_nameValue_124 : zChk false 8 cX8_nameValue 124 bX8_nameValue_124 = true := by decide +kernel
def bX8_nameValue_135 : List zI := [(.aload_n 0, 1, 0, 0, 0), (.getfield 18, 3, 8, 0, 0), (.getfield 26, 3, 2, 10, 0), (.i2l, 1, 0, 0, 0), (.lreturn, 1, 0, 0, 0)]
set_option maxRecDepth 20000 in
theorem hX8_nameValue_135 : zChk false 8 cX8_nameValue 135 bX8_nameValue_135 = true := by decide +kernel
def bX8_nameValue_144 : List zI := [(.aload_n 0, 1, 0, 0, 0), (.getfield 22, 3, 8, 1, 0), (.getfield 214, 3, 6, 0, 0), (.i2l, 1, 0, 0, 0), (.lreturn, 1, 0, 0, 0)]
set_option maxRecDepth 20000 in
theorem hX8_nameValue_144 : zChk false 8 cX8_nameValue 144 bX8_nameValue_144 = true := by decide +kernel
def bX8_join_0 : List zI := [(.iload_n 0, 1, 0, 0, 0)]
set_option maxRecDepth 20000 in
theorem hX8_join_0 : zChk false 8 cX8_join 0 bX8_join_0 = true := by decide +kernel
def bX8_join_172 : List zI := [(.lload_n 1, 1, 0, 0, 0), (.lconst 0, 1, 0, 0, 0), (.lcmp, 1, 0, 0, 0), (.ifCond .ne 9, 3, 184, 0, 0), (.lload_n 3, 1, 0, 0, 0), (.lconst 0, 1, 0, 0, 0), (.lcmp, 1, 0, 0, 0), (.ifCond .eq 7, 3, 188, 0, 0), (.lconst 1, 1, 0, 0, 0), (.goto 4, 3, 189, 0, 0)]
set_option maxRecDepth 20000 in
theorem hX8_join_172 : zChk false 8 cX8_join 172 bX8_join_172 = true := by decide +kernel
def bX8_join_184 : List zI := [(.lconst 1, 1, 0, 0, 0), (.goto 4, 3, 189, 0, 0)]
set_option maxRecDepth 20000 in
theorem hX8_join_184 : zChk false 8 cX8_join 184 bX8_join_184 = true := by decide +kernel
def bX8_join_188 : List zI := [(.lconst 0, 1, 0, 0, 0), (.lreturn, 1, 0, 0, 0)]
set_option maxRecDepth 20000 in
theorem hX8_join_188 : zChk false 8 cX8_join 188 bX8_join_188 = true := by decide +kernel
def bX8_join_189 : List zI := [(.lreturn, 1, 0, 0, 0)]
set_option maxRecDepth 20000 in
theorem hX8_join_189 : zChk false 8 cX8_join 189 bX8_join_189 = true := by decide +kernel
def bX8_join_190 : List zI := [(.lload_n 1, 1, 0, 0, 0), (.lconst 0, 1, 0, 0, 0), (.lcmp, 1, 0, 0, 0), (.ifCond .eq 13, 3, 206, 0, 0), (.lload_n 3, 1, 0, 0, 0), (.lconst 0, 1, 0, 0, 0), (.lcmp, 1, 0, 0, 0), (.ifCond .eq 7, 3, 206, 0, 0), (.lconst 1, 1, 0, 0, 0), (.goto 4, 3, 207, 0, 0)]
set_option maxRecDepth 20000 in
theorem hX8_join_190 : zChk false 8 cX8_join 190 bX8_join_190 = true := by decide +kernel
def bX8_join_206 : List zI := [(.lconst 0, 1, 0, 0, 0), (.lreturn, 1, 0, 0, 0)]
set_option maxRecDepth 20000 in
theorem hX8_join_206 : zChk false 8 cX8_join 206 bX8_join_206 = true := by decide +kernel
def bX8_join_207 : List zI := [(.lreturn, 1, 0, 0, 0)]
set_option maxRecDepth 20000 in
theorem hX8_join_207 : zChk false 8 cX8_join 207 bX8_join_207 = true := by decide +kernel
def bX8_join_208 : List zI := [(.lload_n 1, 1, 0, 0, 0), (.lload_n 3, 1, 0, 0, 0), (.lcmp, 1, 0, 0, 0), (.ifCond .ge 7, 3, 218, 0, 0), (.lconst 1, 1, 0, 0, 0), (.goto 4, 3, 219, 0, 0)]
set_option maxRecDepth 20000 in
theorem hX8_join_208 : zChk false 8 cX8_join 208 bX8_join_208 = true := by decide +kernel
def bX8_join_218 : List zI := [(.lconst 0, 1, 0, 0, 0), (.lreturn, 1, 0, 0, 0)]
set_option maxRecDepth 20000 in
theorem hX8_join_218 : zChk false 8 cX8_join 218 bX8_join_218 = true := by decide +kernel
def bX8_join_219 : List zI := [(.lreturn, 1, 0, 0, 0)]
set_option maxRecDepth 20000 in
theorem hX8_join_219 : zChk false 8 cX8_join 219 bX8_join_219 = true := by decide +kernel
def bX8_join_220 : List zI := [(.lload_n 1, 1, 0, 0, 0), (.lload_n 3, 1, 0, 0, 0), (.lcmp, 1, 0, 0, 0), (.ifCond .gt 7, 3, 230, 0, 0), (.lconst 1, 1, 0, 0, 0), (.goto 4, 3, 231, 0, 0)]
set_option maxRecDepth 20000 in
theorem hX8_join_220 : zChk false 8 cX8_join 220 bX8_join_220 = true := by decide +kernel
def bX8_join_230 : List zI := [(.lconst 0, 1, 0, 0, 0), (.lreturn, 1, 0, 0, 0)]
set_option maxRecDepth 20000 in
theorem hX8_join_230 : zChk false 8 cX8_join 230 bX8_join_230 = true := by decide +kernel
def bX8_join_231 : List zI := [(.lreturn, 1, 0, 0, 0)]
set_option maxRecDepth 20000 in
theorem hX8_join_231 : zChk false 8 cX8_join 231 bX8_join_231 = true := by decide +kernel
def bX8_join_232 : List zI := [(.lload_n 1, 1, 0, 0, 0), (.lload_n 3, 1, 0, 0, 0), (.lcmp, 1, 0, 0, 0), (.ifCond .ne 7, 3, 242, 0, 0), (.lconst 1, 1, 0, 0, 0), (.goto 4, 3, 243, 0, 0)]
set_option maxRecDepth 20000 in
theorem hX8_join_232 : zChk false 8 cX8_join 232 bX8_join_232 = true := by decide +kernel
def bX8_join_242 : List zI := [(.lconst 0, 1, 0, 0, 0), (.lreturn, 1, 0, 0, 0)]
set_option maxRecDepth 20000 in
theorem hX8_join_242 : zChk false 8 cX8_join 242 bX8_join_242 = true := by decide +kernel
def bX8_join_243 : List zI := [(.lreturn, 1, 0, 0, 0)]
set_option maxRecDepth 20000 in
theorem hX8_join_243 : zChk false 8 cX8_join 243 bX8_join_243 = true := by decide +kernel
def bX8_join_244 : List zI := [(.lload_n 1, 1, 0, 0, 0), (.lload_n 3, 1, 0, 0, 0), (.lcmp, 1, 0, 0, 0), (.ifCond .eq 7, 3, 254, 0, 0), (.lconst 1, 1, 0, 0, 0), (.goto 4, 3, 255, 0, 0)]
set_option maxRecDepth 20000 in
theorem hX8_join_244 : zChk false 8 cX8_join 244 bX8_join_244 = true := by decide +kernel
def bX8_join_254 : List zI := [(.lconst 0, 1, 0, 0, 0), (.lreturn, 1, 0, 0, 0)]
set_option maxRecDepth 20000 in
theorem hX8_join_254 : zChk false 8 cX8_join 254 bX8_join_254 = true := by decide +kernel
def bX8_join_255 : List zI := [(.lreturn, 1, 0, 0, 0)]
set_option maxRecDepth 20000 in
theorem hX8_join_255 : zChk false 8 cX8_join 255 bX8_join_255 = true := by decide +kernel
def bX8_join_256 : List zI := [(.lload_n 1, 1, 0, 0, 0), (.lload_n 3, 1, 0, 0, 0), (.lcmp, 1, 0, 0, 0), (.ifCond .lt 7, 3, 266, 0, 0), (.lconst 1, 1, 0, 0, 0), (.goto 4, 3, 267, 0, 0)]
set_option maxRecDepth 20000 in
theorem hX8_join_256 : zChk false 8 cX8_join 256 bX8_join_256 = true := by decide +kernel
def bX8_join_266 : List zI := [(.lconst 0, 1, 0, 0, 0), (.lreturn, 1, 0, 0, 0)]
set_option maxRecDepth 20000 in
theorem hX8_join_266 : zChk false 8 cX8_join 266 bX8_join_266 = true := by decide +kernel
def bX8_join_267 : List zI := [(.lreturn, 1, 0, 0, 0)]
set_option maxRecDepth 20000 in
theorem hX8_join_267 : zChk false 8 cX8_join 267 bX8_join_267 = true := by decide +kernel
def bX8_join_268 : List zI := [(.lload_n 1, 1, 0, 0, 0), (.lload_n 3, 1, 0, 0, 0), (.lcmp, 1, 0, 0, 0), (.ifCond .le 7, 3, 278, 0, 0), (.lconst 1, 1, 0, 0, 0), (.goto 4, 3, 279, 0, 0)]
set_option maxRecDepth 20000 in
theorem hX8_join_268 : zChk false 8 cX8_join 268 bX8_join_268 = true := by decide +kernel
def bX8_join_278 : List zI := [(.lconst 0, 1, 0, 0, 0), (.lreturn, 1, 0, 0, 0)]
set_option maxRecDepth 20000 in
theorem hX8_join_278 : zChk false 8 cX8_join 278 bX8_join_278 = true := by decide +kernel
def bX8_join_279 : List zI := [(.lreturn, 1, 0, 0, 0)]
set_option maxRecDepth 20000 in
theorem hX8_join_279 : zChk false 8 cX8_join 279 bX8_join_279 = true := by decide +kernel
def bX8_join_280 : List zI := [(.lload_n 1, 1, 0, 0, 0), (.lload_n 3, 1, 0, 0, 0), (.ladd, 1, 0, 0, 0)]
set_option maxRecDepth 20000 in
theorem hX8_join_280 : zChk false 8 cX8_join 280 bX8_join_280 = true := by decide +kernel
def bX8_join_286 : List zI := [(.ldc2_w 248, 3, 0, 0, 1000000000000), (.lcmp, 1, 0, 0, 0), (.ifCond .le 9, 3, 299, 0, 0), (.ldc2_w 155, 3, 0, 0, -9223372036854775808), (.goto 6, 3, 302, 0, 0)]
set_option maxRecDepth 20000 in
theorem hX8_join_286 : zChk false 8 cX8_join 286 bX8_join_286 = true := by decide +kernel
def bX8_join_299 : List zI := [(.lload_n 1, 1, 0, 0, 0), (.lload_n 3, 1, 0, 0, 0), (.ladd, 1, 0, 0, 0), (.lreturn, 1, 0, 0, 0)]
set_option maxRecDepth 20000 in
theorem hX8_join_299 : zChk false 8 cX8_join 299 bX8_join_299 = true := by decide +kernel
def bX8_join_302 : List zI := [(.lreturn, 1, 0, 0, 0)]
set_option maxRecDepth 20000 in
theorem hX8_join_302 : zChk false 8 cX8_join 302 bX8_join_302 = true := by decide +kernel
def bX8_join_303 : List zI := [(.lload_n 1, 1, 0, 0, 0), (.lload_n 3, 1, 0, 0, 0), (.lsub, 1, 0, 0, 0)]
set_option maxRecDepth 20000 in
theorem hX8_join_303 : zChk false 8 cX8_join 303 bX8_join_303 = true := by decide +kernel
def bX8_join_309 : List zI := [(.ldc2_w 248, 3, 0, 0, 1000000000000), (.lcmp, 1, 0, 0, 0), (.ifCond .le 9, 3, 322, 0, 0), (.ldc2_w 155, 3, 0, 0, -9223372036854775808), (.goto 6, 3, 325, 0, 0)]
set_option maxRecDepth 20000 in
theorem hX8_join_309 : zChk false 8 cX8_join 309 bX8_join_309 = true := by decide +kernel
def bX8_join_322 : List zI := [(.lload_n 1, 1, 0, 0, 0), (.lload_n 3, 1, 0, 0, 0), (.lsub, 1, 0, 0, 0), (.lreturn, 1, 0, 0, 0)]
set_option maxRecDepth 20000 in
theorem hX8_join_322 : zChk false 8 cX8_join 322 bX8_join_322 = true := by decide +kernel
def bX8_join_325 : List zI := [(.lreturn, 1, 0, 0, 0)]
set_option maxRecDepth 20000 in
theorem hX8_join_325 : zChk false 8 cX8_join 325 bX8_join_325 = true := by decide +kernel
def bX8_join_326 : List zI := [(.lload_n 1, 1, 0, 0, 0), (.lconst 0, 1, 0, 0, 0), (.lcmp, 1, 0, 0, 0), (.ifCond .eq 23, 3, 352, 0, 0), (.lload_n 3, 1, 0, 0, 0)]
set_option maxRecDepth 20000 in
theorem hX8_join_326 : zChk false 8 cX8_join 326 bX8_join_326 = true := by decide +kernel
def bX8_join_336 : List zI := [(.ldc2_w 248, 3, 0, 0, 1000000000000), (.lload_n 1, 1, 0, 0, 0)]
set_option maxRecDepth 20000 in
theorem hX8_join_336 : zChk false 8 cX8_join 336 bX8_join_336 = true := by decide +kernel
def bX8_join_343 : List zI := [(.ldiv, 1, 0, 0, 0), (.lcmp, 1, 0, 0, 0), (.ifCond .le 7, 3, 352, 0, 0), (.iconst 1, 1, 0, 0, 0), (.goto 4, 3, 353, 0, 0)]
set_option maxRecDepth 20000 in
theorem hX8_join_343 : zChk false 8 cX8_join 343 bX8_join_343 = true := by decide +kernel
def bX8_join_352 : List zI := [(.iconst 0, 1, 0, 0, 0), (.istore 5, 2, 0, 0, 0), (.iload 5, 2, 0, 0, 0), (.ifCond .eq 9, 3, 366, 0, 0), (.ldc2_w 155, 3, 0, 0, -9223372036854775808), (.goto 6, 3, 369, 0, 0)]
set_option maxRecDepth 20000 in
theorem hX8_join_352 : zChk false 8 cX8_join 352 bX8_join_352 = true := by decide +kernel
def bX8_join_353 : List zI := [(.istore 5, 2, 0, 0, 0), (.iload 5, 2, 0, 0, 0), (.ifCond .eq 9, 3, 366, 0, 0), (.ldc2_w 155, 3, 0, 0, -9223372036854775808), (.goto 6, 3, 369, 0, 0)]
set_option maxRecDepth 20000 in
theorem hX8_join_353 : zChk false 8 cX8_join 353 bX8_join_353 = true := by decide +kernel
def bX8_join_366 : List zI := [(.lload_n 1, 1, 0, 0, 0), (.lload_n 3, 1, 0, 0, 0), (.lmul, 1, 0, 0, 0), (.lreturn, 1, 0, 0, 0)]
set_option maxRecDepth 20000 in
theorem hX8_join_366 : zChk false 8 cX8_join 366 bX8_join_366 = true := by decide +kernel
def bX8_join_369 : List zI := [(.lreturn, 1, 0, 0, 0)]
set_option maxRecDepth 20000 in
theorem hX8_join_369 : zChk false 8 cX8_join 369 bX8_join_369 = true := by decide +kernel
def bX8_join_370 : List zI := [(.lload_n 3, 1, 0, 0, 0), (.lconst 0, 1, 0, 0, 0), (.lcmp, 1, 0, 0, 0), (.ifCond .ne 9, 3, 382, 0, 0), (.ldc2_w 155, 3, 0, 0, -9223372036854775808), (.goto 6, 3, 385, 0, 0)]
set_option maxRecDepth 20000 in
theorem hX8_join_370 : zChk false 8 cX8_join 370 bX8_join_370 = true := by decide +kernel
def bX8_join_382 : List zI := [(.lload_n 1, 1, 0, 0, 0), (.lload_n 3, 1, 0, 0, 0), (.ldiv, 1, 0, 0, 0), (.lreturn, 1, 0, 0, 0)]
set_option maxRecDepth 20000 in
theorem hX8_join_382 : zChk false 8 cX8_join 382 bX8_join_382 = true := by decide +kernel
def bX8_join_385 : List zI := [(.lreturn, 1, 0, 0, 0)]
set_option maxRecDepth 20000 in
theorem hX8_join_385 : zChk false 8 cX8_join 385 bX8_join_385 = true := by decide +kernel
