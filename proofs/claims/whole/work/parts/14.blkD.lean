/-! ===== BLOCKS of code (written by a program) ===== -/
def bX10_init_0 : List zI := [(.aload_n 0, 1, 0, 0, 0)]
set_option maxRecDepth 20000 in
theorem hX10_init_0 : zChk true 10 cX10_init 0 bX10_init_0 = true := by decide +kernel
def bX10_init_4 : List zI := [(.aload_n 0, 1, 0, 0, 0), (.sipush 700, 3, 0, 0, 0)]
set_option maxRecDepth 20000 in
theorem hX10_init_4 : zChk true 10 cX10_init 4 bX10_init_4 = true := by decide +kernel
def bX10_init_10 : List zI := [(.putfield 7, 3, 10, 0, 0), (.aload_n 0, 1, 0, 0, 0), (.sipush 136, 3, 0, 0, 0)]
set_option maxRecDepth 20000 in
theorem hX10_init_10 : zChk true 10 cX10_init 10 bX10_init_10 = true := by decide +kernel
def bX10_init_19 : List zI := [(.dup, 1, 0, 0, 0), (.iconst 0, 1, 0, 0, 0), (.bipush 112, 2, 0, 0, 0), (.iastore, 1, 0, 0, 0), (.dup, 1, 0, 0, 0), (.iconst 1, 1, 0, 0, 0), (.bipush 108, 2, 0, 0, 0), (.iastore, 1, 0, 0, 0), (.dup, 1, 0, 0, 0), (.iconst 2, 1, 0, 0, 0), (.bipush 97, 2, 0, 0, 0), (.iastore, 1, 0, 0, 0), (.dup, 1, 0, 0, 0), (.iconst 3, 1, 0, 0, 0), (.bipush 99, 2, 0, 0, 0), (.iastore, 1, 0, 0, 0), (.dup, 1, 0, 0, 0), (.iconst 4, 1, 0, 0, 0), (.bipush 101, 2, 0, 0, 0), (.iastore, 1, 0, 0, 0), (.dup, 1, 0, 0, 0), (.iconst 5, 1, 0, 0, 0), (.bipush 32, 2, 0, 0, 0), (.iastore, 1, 0, 0, 0), (.dup, 1, 0, 0, 0), (.bipush 6, 2, 0, 0, 0), (.bipush 99, 2, 0, 0, 0), (.iastore, 1, 0, 0, 0), (.dup, 1, 0, 0, 0), (.bipush 7, 2, 0, 0, 0), (.bipush 104, 2, 0, 0, 0), (.iastore, 1, 0, 0, 0), (.dup, 1, 0, 0, 0), (.bipush 8, 2, 0, 0, 0), (.bipush 97, 2, 0, 0, 0), (.iastore, 1, 0, 0, 0), (.dup, 1, 0, 0, 0), (.bipush 9, 2, 0, 0, 0), (.bipush 105, 2, 0, 0, 0), (.iastore, 1, 0, 0, 0), (.dup, 1, 0, 0, 0), (.bipush 10, 2, 0, 0, 0), (.bipush 114, 2, 0, 0, 0), (.iastore, 1, 0, 0, 0), (.dup, 1, 0, 0, 0), (.bipush 11, 2, 0, 0, 0), (.bipush 115, 2, 0, 0, 0), (.iastore, 1, 0, 0, 0), (.dup, 1, 0, 0, 0), (.bipush 12, 2, 0, 0, 0), (.bipush 32, 2, 0, 0, 0), (.iastore, 1, 0, 0, 0), (.dup, 1, 0, 0, 0), (.bipush 13, 2, 0, 0, 0), (.bipush 99, 2, 0, 0, 0), (.iastore, 1, 0, 0, 0), (.dup, 1, 0, 0, 0), (.bipush 14, 2, 0, 0, 0), (.bipush 111, 2, 0, 0, 0), (.iastore, 1, 0, 0, 0), (.dup, 1, 0, 0, 0), (.bipush 15, 2, 0, 0, 0), (.bipush 109, 2, 0, 0, 0), (.iastore, 1, 0, 0, 0), (.dup, 1, 0, 0, 0), (.bipush 16, 2, 0, 0, 0), (.bipush 101, 2, 0, 0, 0), (.iastore, 1, 0, 0, 0), (.dup, 1, 0, 0, 0), (.bipush 17, 2, 0, 0, 0), (.bipush 32, 2, 0, 0, 0), (.iastore, 1, 0, 0, 0), (.dup, 1, 0, 0, 0), (.bipush 18, 2, 0, 0, 0), (.bipush 115, 2, 0, 0, 0), (.iastore, 1, 0, 0, 0), (.dup, 1, 0, 0, 0), (.bipush 19, 2, 0, 0, 0), (.bipush 107, 2, 0, 0, 0), (.iastore, 1, 0, 0, 0), (.dup, 1, 0, 0, 0), (.bipush 20, 2, 0, 0, 0), (.bipush 121, 2, 0, 0, 0), (.iastore, 1, 0, 0, 0), (.dup, 1, 0, 0, 0), (.bipush 21, 2, 0, 0, 0), (.bipush 32, 2, 0, 0, 0), (.iastore, 1, 0, 0, 0), (.dup, 1, 0, 0, 0), (.bipush 22, 2, 0, 0, 0), (.bipush 98, 2, 0, 0, 0), (.iastore, 1, 0, 0, 0), (.dup, 1, 0, 0, 0), (.bipush 23, 2, 0, 0, 0), (.bipush 97, 2, 0, 0, 0), (.iastore, 1, 0, 0, 0), (.dup, 1, 0, 0, 0), (.bipush 24, 2, 0, 0, 0), (.bipush 110, 2, 0, 0, 0), (.iastore, 1, 0, 0, 0), (.dup, 1, 0, 0, 0), (.bipush 25, 2, 0, 0, 0), (.bipush 100, 2, 0, 0, 0), (.iastore, 1, 0, 0, 0), (.dup, 1, 0, 0, 0), (.bipush 26, 2, 0, 0, 0), (.bipush 32, 2, 0, 0, 0), (.iastore, 1, 0, 0, 0), (.dup, 1, 0, 0, 0), (.bipush 27, 2, 0, 0, 0), (.bipush 112, 2, 0, 0, 0), (.iastore, 1, 0, 0, 0), (.dup, 1, 0, 0, 0), (.bipush 28, 2, 0, 0, 0), (.bipush 114, 2, 0, 0, 0), (.iastore, 1, 0, 0, 0), (.dup, 1, 0, 0, 0), (.bipush 29, 2, 0, 0, 0), (.bipush 105, 2, 0, 0, 0), (.iastore, 1, 0, 0, 0), (.dup, 1, 0, 0, 0), (.bipush 30, 2, 0, 0, 0), (.bipush 99, 2, 0, 0, 0), (.iastore, 1, 0, 0, 0), (.dup, 1, 0, 0, 0), (.bipush 31, 2, 0, 0, 0), (.bipush 101, 2, 0, 0, 0), (.iastore, 1, 0, 0, 0), (.dup, 1, 0, 0, 0), (.bipush 32, 2, 0, 0, 0), (.bipush 32, 2, 0, 0, 0), (.iastore, 1, 0, 0, 0), (.dup, 1, 0, 0, 0), (.bipush 33, 2, 0, 0, 0), (.bipush 119, 2, 0, 0, 0), (.iastore, 1, 0, 0, 0), (.dup, 1, 0, 0, 0), (.bipush 34, 2, 0, 0, 0), (.bipush 97, 2, 0, 0, 0), (.iastore, 1, 0, 0, 0), (.dup, 1, 0, 0, 0), (.bipush 35, 2, 0, 0, 0), (.bipush 103, 2, 0, 0, 0), (.iastore, 1, 0, 0, 0), (.dup, 1, 0, 0, 0), (.bipush 36, 2, 0, 0, 0), (.bipush 101, 2, 0, 0, 0), (.iastore, 1, 0, 0, 0), (.dup, 1, 0, 0, 0), (.bipush 37, 2, 0, 0, 0), (.bipush 32, 2, 0, 0, 0), (.iastore, 1, 0, 0, 0), (.dup, 1, 0, 0, 0), (.bipush 38, 2, 0, 0, 0), (.bipush 99, 2, 0, 0, 0), (.iastore, 1, 0, 0, 0), (.dup, 1, 0, 0, 0), (.bipush 39, 2, 0, 0, 0), (.bipush 97, 2, 0, 0, 0), (.iastore, 1, 0, 0, 0), (.dup, 1, 0, 0, 0), (.bipush 40, 2, 0, 0, 0), (.bipush 114, 2, 0, 0, 0), (.iastore, 1, 0, 0, 0), (.dup, 1, 0, 0, 0), (.bipush 41, 2, 0, 0, 0), (.bipush 114, 2, 0, 0, 0), (.iastore, 1, 0, 0, 0), (.dup, 1, 0, 0, 0), (.bipush 42, 2, 0, 0, 0), (.bipush 121, 2, 0, 0, 0), (.iastore, 1, 0, 0, 0), (.dup, 1, 0, 0, 0), (.bipush 43, 2, 0, 0, 0), (.bipush 32, 2, 0, 0, 0), (.iastore, 1, 0, 0, 0), (.dup, 1, 0, 0, 0), (.bipush 44, 2, 0, 0, 0), (.bipush 119, 2, 0, 0, 0), (.iastore, 1, 0, 0, 0), (.dup, 1, 0, 0, 0), (.bipush 45, 2, 0, 0, 0), (.bipush 101, 2, 0, 0, 0), (.iastore, 1, 0, 0, 0), (.dup, 1, 0, 0, 0), (.bipush 46, 2, 0, 0, 0), (.bipush 116, 2, 0, 0, 0), (.iastore, 1, 0, 0, 0), (.dup, 1, 0, 0, 0), (.bipush 47, 2, 0, 0, 0), (.bipush 115, 2, 0, 0, 0), (.iastore, 1, 0, 0, 0), (.dup, 1, 0, 0, 0), (.bipush 48, 2, 0, 0, 0), (.bipush 32, 2, 0, 0, 0), (.iastore, 1, 0, 0, 0), (.dup, 1, 0, 0, 0), (.bipush 49, 2, 0, 0, 0), (.bipush 99, 2, 0, 0, 0), (.iastore, 1, 0, 0, 0), (.dup, 1, 0, 0, 0), (.bipush 50, 2, 0, 0, 0), (.bipush 97, 2, 0, 0, 0), (.iastore, 1, 0, 0, 0), (.dup, 1, 0, 0, 0), (.bipush 51, 2, 0, 0, 0), (.bipush 110, 2, 0, 0, 0), (.iastore, 1, 0, 0, 0), (.dup, 1, 0, 0, 0), (.bipush 52, 2, 0, 0, 0), (.bipush 118, 2, 0, 0, 0), (.iastore, 1, 0, 0, 0), (.dup, 1, 0, 0, 0), (.bipush 53, 2, 0, 0, 0), (.bipush 97, 2, 0, 0, 0), (.iastore, 1, 0, 0, 0), (.dup, 1, 0, 0, 0), (.bipush 54, 2, 0, 0, 0), (.bipush 115, 2, 0, 0, 0), (.iastore, 1, 0, 0, 0), (.dup, 1, 0, 0, 0), (.bipush 55, 2, 0, 0, 0), (.bipush 32, 2, 0, 0, 0), (.iastore, 1, 0, 0, 0), (.dup, 1, 0, 0, 0), (.bipush 56, 2, 0, 0, 0), (.bipush 115, 2, 0, 0, 0), (.iastore, 1, 0, 0, 0), (.dup, 1, 0, 0, 0), (.bipush 57, 2, 0, 0, 0), (.bipush 101, 2, 0, 0, 0), (.iastore, 1, 0, 0, 0), (.dup, 1, 0, 0, 0), (.bipush 58, 2, 0, 0, 0), (.bipush 101, 2, 0, 0, 0), (.iastore, 1, 0, 0, 0), (.dup, 1, 0, 0, 0), (.bipush 59, 2, 0, 0, 0), (.bipush 100, 2, 0, 0, 0), (.iastore, 1, 0, 0, 0), (.dup, 1, 0, 0, 0), (.bipush 60, 2, 0, 0, 0), (.bipush 32, 2, 0, 0, 0), (.iastore, 1, 0, 0, 0), (.dup, 1, 0, 0, 0), (.bipush 61, 2, 0, 0, 0), (.bipush 115, 2, 0, 0, 0), (.iastore, 1, 0, 0, 0), (.dup, 1, 0, 0, 0), (.bipush 62, 2, 0, 0, 0), (.bipush 105, 2, 0, 0, 0), (.iastore, 1, 0, 0, 0), (.dup, 1, 0, 0, 0), (.bipush 63, 2, 0, 0, 0), (.bipush 103, 2, 0, 0, 0), (.iastore, 1, 0, 0, 0), (.dup, 1, 0, 0, 0), (.bipush 64, 2, 0, 0, 0), (.bipush 110, 2, 0, 0, 0), (.iastore, 1, 0, 0, 0), (.dup, 1, 0, 0, 0), (.bipush 65, 2, 0, 0, 0), (.bipush 32, 2, 0, 0, 0), (.iastore, 1, 0, 0, 0), (.dup, 1, 0, 0, 0), (.bipush 66, 2, 0, 0, 0), (.bipush 108, 2, 0, 0, 0), (.iastore, 1, 0, 0, 0), (.dup, 1, 0, 0, 0), (.bipush 67, 2, 0, 0, 0), (.bipush 97, 2, 0, 0, 0), (.iastore, 1, 0, 0, 0), (.dup, 1, 0, 0, 0), (.bipush 68, 2, 0, 0, 0), (.bipush 119, 2, 0, 0, 0), (.iastore, 1, 0, 0, 0), (.dup, 1, 0, 0, 0), (.bipush 69, 2, 0, 0, 0), (.bipush 32, 2, 0, 0, 0), (.iastore, 1, 0, 0, 0), (.dup, 1, 0, 0, 0), (.bipush 70, 2, 0, 0, 0), (.bipush 116, 2, 0, 0, 0), (.iastore, 1, 0, 0, 0), (.dup, 1, 0, 0, 0), (.bipush 71, 2, 0, 0, 0), (.bipush 105, 2, 0, 0, 0), (.iastore, 1, 0, 0, 0), (.dup, 1, 0, 0, 0), (.bipush 72, 2, 0, 0, 0), (.bipush 100, 2, 0, 0, 0), (.iastore, 1, 0, 0, 0), (.dup, 1, 0, 0, 0), (.bipush 73, 2, 0, 0, 0), (.bipush 101, 2, 0, 0, 0), (.iastore, 1, 0, 0, 0), (.dup, 1, 0, 0, 0), (.bipush 74, 2, 0, 0, 0), (.bipush 32, 2, 0, 0, 0), (.iastore, 1, 0, 0, 0), (.dup, 1, 0, 0, 0), (.bipush 75, 2, 0, 0, 0), (.bipush 115, 2, 0, 0, 0), (.iastore, 1, 0, 0, 0), (.dup, 1, 0, 0, 0), (.bipush 76, 2, 0, 0, 0), (.bipush 105, 2, 0, 0, 0), (.iastore, 1, 0, 0, 0), (.dup, 1, 0, 0, 0), (.bipush 77, 2, 0, 0, 0), (.bipush 116, 2, 0, 0, 0), (.iastore, 1, 0, 0, 0), (.dup, 1, 0, 0, 0), (.bipush 78, 2, 0, 0, 0), (.bipush 32, 2, 0, 0, 0), (.iastore, 1, 0, 0, 0), (.dup, 1, 0, 0, 0), (.bipush 79, 2, 0, 0, 0), (.bipush 115, 2, 0, 0, 0), (.iastore, 1, 0, 0, 0), (.dup, 1, 0, 0, 0), (.bipush 80, 2, 0, 0, 0), (.bipush 116, 2, 0, 0, 0), (.iastore, 1, 0, 0, 0), (.dup, 1, 0, 0, 0), (.bipush 81, 2, 0, 0, 0), (.bipush 97, 2, 0, 0, 0), (.iastore, 1, 0, 0, 0), (.dup, 1, 0, 0, 0), (.bipush 82, 2, 0, 0, 0), (.bipush 121, 2, 0, 0, 0), (.iastore, 1, 0, 0, 0), (.dup, 1, 0, 0, 0), (.bipush 83, 2, 0, 0, 0), (.bipush 32, 2, 0, 0, 0), (.iastore, 1, 0, 0, 0), (.dup, 1, 0, 0, 0), (.bipush 84, 2, 0, 0, 0), (.bipush 100, 2, 0, 0, 0), (.iastore, 1, 0, 0, 0), (.dup, 1, 0, 0, 0), (.bipush 85, 2, 0, 0, 0), (.bipush 111, 2, 0, 0, 0), (.iastore, 1, 0, 0, 0), (.dup, 1, 0, 0, 0), (.bipush 86, 2, 0, 0, 0), (.bipush 100, 2, 0, 0, 0), (.iastore, 1, 0, 0, 0), (.dup, 1, 0, 0, 0), (.bipush 87, 2, 0, 0, 0), (.bipush 103, 2, 0, 0, 0), (.iastore, 1, 0, 0, 0), (.dup, 1, 0, 0, 0), (.bipush 88, 2, 0, 0, 0), (.bipush 101, 2, 0, 0, 0), (.iastore, 1, 0, 0, 0), (.dup, 1, 0, 0, 0), (.bipush 89, 2, 0, 0, 0), (.bipush 32, 2, 0, 0, 0), (.iastore, 1, 0, 0, 0), (.dup, 1, 0, 0, 0), (.bipush 90, 2, 0, 0, 0), (.bipush 97, 2, 0, 0, 0), (.iastore, 1, 0, 0, 0), (.dup, 1, 0, 0, 0), (.bipush 91, 2, 0, 0, 0), (.bipush 110, 2, 0, 0, 0), (.iastore, 1, 0, 0, 0), (.dup, 1, 0, 0, 0), (.bipush 92, 2, 0, 0, 0), (.bipush 100, 2, 0, 0, 0), (.iastore, 1, 0, 0, 0), (.dup, 1, 0, 0, 0), (.bipush 93, 2, 0, 0, 0), (.bipush 32, 2, 0, 0, 0), (.iastore, 1, 0, 0, 0), (.dup, 1, 0, 0, 0), (.bipush 94, 2, 0, 0, 0), (.bipush 111, 2, 0, 0, 0), (.iastore, 1, 0, 0, 0), (.dup, 1, 0, 0, 0), (.bipush 95, 2, 0, 0, 0), (.bipush 114, 2, 0, 0, 0), (.iastore, 1, 0, 0, 0), (.dup, 1, 0, 0, 0), (.bipush 96, 2, 0, 0, 0), (.bipush 32, 2, 0, 0, 0), (.iastore, 1, 0, 0, 0), (.dup, 1, 0, 0, 0), (.bipush 97, 2, 0, 0, 0), (.bipush 110, 2, 0, 0, 0), (.iastore, 1, 0, 0, 0), (.dup, 1, 0, 0, 0), (.bipush 98, 2, 0, 0, 0), (.bipush 111, 2, 0, 0, 0), (.iastore, 1, 0, 0, 0), (.dup, 1, 0, 0, 0), (.bipush 99, 2, 0, 0, 0), (.bipush 116, 2, 0, 0, 0), (.iastore, 1, 0, 0, 0), (.dup, 1, 0, 0, 0), (.bipush 100, 2, 0, 0, 0), (.bipush 32, 2, 0, 0, 0), (.iastore, 1, 0, 0, 0), (.dup, 1, 0, 0, 0), (.bipush 101, 2, 0, 0, 0), (.bipush 118, 2, 0, 0, 0), (.iastore, 1, 0, 0, 0), (.dup, 1, 0, 0, 0), (.bipush 102, 2, 0, 0, 0), (.bipush 105, 2, 0, 0, 0), (.iastore, 1, 0, 0, 0), (.dup, 1, 0, 0, 0), (.bipush 103, 2, 0, 0, 0), (.bipush 101, 2, 0, 0, 0), (.iastore, 1, 0, 0, 0), (.dup, 1, 0, 0, 0), (.bipush 104, 2, 0, 0, 0), (.bipush 119, 2, 0, 0, 0), (.iastore, 1, 0, 0, 0), (.dup, 1, 0, 0, 0), (.bipush 105, 2, 0, 0, 0), (.bipush 32, 2, 0, 0, 0), (.iastore, 1, 0, 0, 0), (.dup, 1, 0, 0, 0), (.bipush 106, 2, 0, 0, 0), (.bipush 102, 2, 0, 0, 0), (.iastore, 1, 0, 0, 0), (.dup, 1, 0, 0, 0), (.bipush 107, 2, 0, 0, 0), (.bipush 97, 2, 0, 0, 0), (.iastore, 1, 0, 0, 0), (.dup, 1, 0, 0, 0), (.bipush 108, 2, 0, 0, 0), (.bipush 114, 2, 0, 0, 0), (.iastore, 1, 0, 0, 0), (.dup, 1, 0, 0, 0), (.bipush 109, 2, 0, 0, 0), (.bipush 32, 2, 0, 0, 0), (.iastore, 1, 0, 0, 0), (.dup, 1, 0, 0, 0), (.bipush 110, 2, 0, 0, 0), (.bipush 115, 2, 0, 0, 0), (.iastore, 1, 0, 0, 0), (.dup, 1, 0, 0, 0), (.bipush 111, 2, 0, 0, 0), (.bipush 117, 2, 0, 0, 0), (.iastore, 1, 0, 0, 0), (.dup, 1, 0, 0, 0), (.bipush 112, 2, 0, 0, 0), (.bipush 110, 2, 0, 0, 0), (.iastore, 1, 0, 0, 0), (.dup, 1, 0, 0, 0), (.bipush 113, 2, 0, 0, 0), (.bipush 32, 2, 0, 0, 0), (.iastore, 1, 0, 0, 0), (.dup, 1, 0, 0, 0), (.bipush 114, 2, 0, 0, 0), (.bipush 109, 2, 0, 0, 0), (.iastore, 1, 0, 0, 0), (.dup, 1, 0, 0, 0), (.bipush 115, 2, 0, 0, 0), (.bipush 117, 2, 0, 0, 0), (.iastore, 1, 0, 0, 0), (.dup, 1, 0, 0, 0), (.bipush 116, 2, 0, 0, 0), (.bipush 115, 2, 0, 0, 0), (.iastore, 1, 0, 0, 0), (.dup, 1, 0, 0, 0), (.bipush 117, 2, 0, 0, 0), (.bipush 105, 2, 0, 0, 0), (.iastore, 1, 0, 0, 0), (.dup, 1, 0, 0, 0), (.bipush 118, 2, 0, 0, 0), (.bipush 99, 2, 0, 0, 0), (.iastore, 1, 0, 0, 0), (.dup, 1, 0, 0, 0), (.bipush 119, 2, 0, 0, 0), (.bipush 32, 2, 0, 0, 0), (.iastore, 1, 0, 0, 0), (.dup, 1, 0, 0, 0), (.bipush 120, 2, 0, 0, 0), (.bipush 116, 2, 0, 0, 0), (.iastore, 1, 0, 0, 0), (.dup, 1, 0, 0, 0), (.bipush 121, 2, 0, 0, 0), (.bipush 97, 2, 0, 0, 0), (.iastore, 1, 0, 0, 0), (.dup, 1, 0, 0, 0), (.bipush 122, 2, 0, 0, 0), (.bipush 107, 2, 0, 0, 0), (.iastore, 1, 0, 0, 0), (.dup, 1, 0, 0, 0), (.bipush 123, 2, 0, 0, 0), (.bipush 101, 2, 0, 0, 0), (.iastore, 1, 0, 0, 0), (.dup, 1, 0, 0, 0), (.bipush 124, 2, 0, 0, 0), (.bipush 110, 2, 0, 0, 0), (.iastore, 1, 0, 0, 0), (.dup, 1, 0, 0, 0), (.bipush 125, 2, 0, 0, 0), (.bipush 32, 2, 0, 0, 0), (.iastore, 1, 0, 0, 0), (.dup, 1, 0, 0, 0), (.bipush 126, 2, 0, 0, 0), (.bipush 102, 2, 0, 0, 0), (.iastore, 1, 0, 0, 0), (.dup, 1, 0, 0, 0), (.bipush 127, 2, 0, 0, 0), (.bipush 114, 2, 0, 0, 0), (.iastore, 1, 0, 0, 0), (.dup, 1, 0, 0, 0), (.sipush 128, 3, 0, 0, 0), (.bipush 101, 2, 0, 0, 0), (.iastore, 1, 0, 0, 0), (.dup, 1, 0, 0, 0), (.sipush 129, 3, 0, 0, 0), (.bipush 101, 2, 0, 0, 0), (.iastore, 1, 0, 0, 0), (.dup, 1, 0, 0, 0), (.sipush 130, 3, 0, 0, 0), (.bipush 32, 2, 0, 0, 0), (.iastore, 1, 0, 0, 0), (.dup, 1, 0, 0, 0), (.sipush 131, 3, 0, 0, 0), (.bipush 116, 2, 0, 0, 0), (.iastore, 1, 0, 0, 0), (.dup, 1, 0, 0, 0), (.sipush 132, 3, 0, 0, 0), (.bipush 105, 2, 0, 0, 0), (.iastore, 1, 0, 0, 0), (.dup, 1, 0, 0, 0), (.sipush 133, 3, 0, 0, 0), (.bipush 99, 2, 0, 0, 0), (.iastore, 1, 0, 0, 0), (.dup, 1, 0, 0, 0), (.sipush 134, 3, 0, 0, 0), (.bipush 107, 2, 0, 0, 0), (.iastore, 1, 0, 0, 0), (.dup, 1, 0, 0, 0), (.sipush 135, 3, 0, 0, 0), (.bipush 32, 2, 0, 0, 0), (.iastore, 1, 0, 0, 0), (.putfield 13, 3, 10, 3, 0), (.aload_n 0, 1, 0, 0, 0), (.iconst (-1), 1, 0, 0, 0), (.putfield 16, 3, 10, 5, 0), (.aload_n 0, 1, 0, 0, 0), (.bipush 10, 2, 0, 0, 0)]
def bX10_init_19p0 : List zI := [(.dup, 1, 0, 0, 0), (.iconst 0, 1, 0, 0, 0), (.bipush 112, 2, 0, 0, 0), (.iastore, 1, 0, 0, 0), (.dup, 1, 0, 0, 0), (.iconst 1, 1, 0, 0, 0), (.bipush 108, 2, 0, 0, 0), (.iastore, 1, 0, 0, 0), (.dup, 1, 0, 0, 0), (.iconst 2, 1, 0, 0, 0), (.bipush 97, 2, 0, 0, 0), (.iastore, 1, 0, 0, 0), (.dup, 1, 0, 0, 0), (.iconst 3, 1, 0, 0, 0), (.bipush 99, 2, 0, 0, 0), (.iastore, 1, 0, 0, 0), (.dup, 1, 0, 0, 0), (.iconst 4, 1, 0, 0, 0), (.bipush 101, 2, 0, 0, 0), (.iastore, 1, 0, 0, 0), (.dup, 1, 0, 0, 0), (.iconst 5, 1, 0, 0, 0), (.bipush 32, 2, 0, 0, 0), (.iastore, 1, 0, 0, 0), (.dup, 1, 0, 0, 0), (.bipush 6, 2, 0, 0, 0), (.bipush 99, 2, 0, 0, 0), (.iastore, 1, 0, 0, 0), (.dup, 1, 0, 0, 0), (.bipush 7, 2, 0, 0, 0), (.bipush 104, 2, 0, 0, 0), (.iastore, 1, 0, 0, 0), (.dup, 1, 0, 0, 0), (.bipush 8, 2, 0, 0, 0), (.bipush 97, 2, 0, 0, 0), (.iastore, 1, 0, 0, 0), (.dup, 1, 0, 0, 0), (.bipush 9, 2, 0, 0, 0), (.bipush 105, 2, 0, 0, 0), (.iastore, 1, 0, 0, 0)]
set_option maxRecDepth 20000 in
theorem hX10_init_19p0 : zChk true 10 cX10_init 19 bX10_init_19p0 = true := by decide +kernel
def bX10_init_19p1 : List zI := [(.dup, 1, 0, 0, 0), (.bipush 10, 2, 0, 0, 0), (.bipush 114, 2, 0, 0, 0), (.iastore, 1, 0, 0, 0), (.dup, 1, 0, 0, 0), (.bipush 11, 2, 0, 0, 0), (.bipush 115, 2, 0, 0, 0), (.iastore, 1, 0, 0, 0), (.dup, 1, 0, 0, 0), (.bipush 12, 2, 0, 0, 0), (.bipush 32, 2, 0, 0, 0), (.iastore, 1, 0, 0, 0), (.dup, 1, 0, 0, 0), (.bipush 13, 2, 0, 0, 0), (.bipush 99, 2, 0, 0, 0), (.iastore, 1, 0, 0, 0), (.dup, 1, 0, 0, 0), (.bipush 14, 2, 0, 0, 0), (.bipush 111, 2, 0, 0, 0), (.iastore, 1, 0, 0, 0), (.dup, 1, 0, 0, 0), (.bipush 15, 2, 0, 0, 0), (.bipush 109, 2, 0, 0, 0), (.iastore, 1, 0, 0, 0), (.dup, 1, 0, 0, 0), (.bipush 16, 2, 0, 0, 0), (.bipush 101, 2, 0, 0, 0), (.iastore, 1, 0, 0, 0), (.dup, 1, 0, 0, 0), (.bipush 17, 2, 0, 0, 0), (.bipush 32, 2, 0, 0, 0), (.iastore, 1, 0, 0, 0), (.dup, 1, 0, 0, 0), (.bipush 18, 2, 0, 0, 0), (.bipush 115, 2, 0, 0, 0), (.iastore, 1, 0, 0, 0), (.dup, 1, 0, 0, 0), (.bipush 19, 2, 0, 0, 0), (.bipush 107, 2, 0, 0, 0), (.iastore, 1, 0, 0, 0)]
set_option maxRecDepth 20000 in
theorem hX10_init_19p1 : zChk true 10 cX10_init 73 bX10_init_19p1 = true := by decide +kernel
def bX10_init_19p2 : List zI := [(.dup, 1, 0, 0, 0), (.bipush 20, 2, 0, 0, 0), (.bipush 121, 2, 0, 0, 0), (.iastore, 1, 0, 0, 0), (.dup, 1, 0, 0, 0), (.bipush 21, 2, 0, 0, 0), (.bipush 32, 2, 0, 0, 0), (.iastore, 1, 0, 0, 0), (.dup, 1, 0, 0, 0), (.bipush 22, 2, 0, 0, 0), (.bipush 98, 2, 0, 0, 0), (.iastore, 1, 0, 0, 0), (.dup, 1, 0, 0, 0), (.bipush 23, 2, 0, 0, 0), (.bipush 97, 2, 0, 0, 0), (.iastore, 1, 0, 0, 0), (.dup, 1, 0, 0, 0), (.bipush 24, 2, 0, 0, 0), (.bipush 110, 2, 0, 0, 0), (.iastore, 1, 0, 0, 0), (.dup, 1, 0, 0, 0), (.bipush 25, 2, 0, 0, 0), (.bipush 100, 2, 0, 0, 0), (.iastore, 1, 0, 0, 0), (.dup, 1, 0, 0, 0), (.bipush 26, 2, 0, 0, 0), (.bipush 32, 2, 0, 0, 0), (.iastore, 1, 0, 0, 0), (.dup, 1, 0, 0, 0), (.bipush 27, 2, 0, 0, 0), (.bipush 112, 2, 0, 0, 0), (.iastore, 1, 0, 0, 0), (.dup, 1, 0, 0, 0), (.bipush 28, 2, 0, 0, 0), (.bipush 114, 2, 0, 0, 0), (.iastore, 1, 0, 0, 0), (.dup, 1, 0, 0, 0), (.bipush 29, 2, 0, 0, 0), (.bipush 105, 2, 0, 0, 0), (.iastore, 1, 0, 0, 0)]
set_option maxRecDepth 20000 in
theorem hX10_init_19p2 : zChk true 10 cX10_init 133 bX10_init_19p2 = true := by decide +kernel
def bX10_init_19p3 : List zI := [(.dup, 1, 0, 0, 0), (.bipush 30, 2, 0, 0, 0), (.bipush 99, 2, 0, 0, 0), (.iastore, 1, 0, 0, 0), (.dup, 1, 0, 0, 0), (.bipush 31, 2, 0, 0, 0), (.bipush 101, 2, 0, 0, 0), (.iastore, 1, 0, 0, 0), (.dup, 1, 0, 0, 0), (.bipush 32, 2, 0, 0, 0), (.bipush 32, 2, 0, 0, 0), (.iastore, 1, 0, 0, 0), (.dup, 1, 0, 0, 0), (.bipush 33, 2, 0, 0, 0), (.bipush 119, 2, 0, 0, 0), (.iastore, 1, 0, 0, 0), (.dup, 1, 0, 0, 0), (.bipush 34, 2, 0, 0, 0), (.bipush 97, 2, 0, 0, 0), (.iastore, 1, 0, 0, 0), (.dup, 1, 0, 0, 0), (.bipush 35, 2, 0, 0, 0), (.bipush 103, 2, 0, 0, 0), (.iastore, 1, 0, 0, 0), (.dup, 1, 0, 0, 0), (.bipush 36, 2, 0, 0, 0), (.bipush 101, 2, 0, 0, 0), (.iastore, 1, 0, 0, 0), (.dup, 1, 0, 0, 0), (.bipush 37, 2, 0, 0, 0), (.bipush 32, 2, 0, 0, 0), (.iastore, 1, 0, 0, 0), (.dup, 1, 0, 0, 0), (.bipush 38, 2, 0, 0, 0), (.bipush 99, 2, 0, 0, 0), (.iastore, 1, 0, 0, 0), (.dup, 1, 0, 0, 0), (.bipush 39, 2, 0, 0, 0), (.bipush 97, 2, 0, 0, 0), (.iastore, 1, 0, 0, 0)]
set_option maxRecDepth 20000 in
theorem hX10_init_19p3 : zChk true 10 cX10_init 193 bX10_init_19p3 = true := by decide +kernel
def bX10_init_19p4 : List zI := [(.dup, 1, 0, 0, 0), (.bipush 40, 2, 0, 0, 0), (.bipush 114, 2, 0, 0, 0), (.iastore, 1, 0, 0, 0), (.dup, 1, 0, 0, 0), (.bipush 41, 2, 0, 0, 0), (.bipush 114, 2, 0, 0, 0), (.iastore, 1, 0, 0, 0), (.dup, 1, 0, 0, 0), (.bipush 42, 2, 0, 0, 0), (.bipush 121, 2, 0, 0, 0), (.iastore, 1, 0, 0, 0), (.dup, 1, 0, 0, 0), (.bipush 43, 2, 0, 0, 0), (.bipush 32, 2, 0, 0, 0), (.iastore, 1, 0, 0, 0), (.dup, 1, 0, 0, 0), (.bipush 44, 2, 0, 0, 0), (.bipush 119, 2, 0, 0, 0), (.iastore, 1, 0, 0, 0), (.dup, 1, 0, 0, 0), (.bipush 45, 2, 0, 0, 0), (.bipush 101, 2, 0, 0, 0), (.iastore, 1, 0, 0, 0), (.dup, 1, 0, 0, 0), (.bipush 46, 2, 0, 0, 0), (.bipush 116, 2, 0, 0, 0), (.iastore, 1, 0, 0, 0), (.dup, 1, 0, 0, 0), (.bipush 47, 2, 0, 0, 0), (.bipush 115, 2, 0, 0, 0), (.iastore, 1, 0, 0, 0), (.dup, 1, 0, 0, 0), (.bipush 48, 2, 0, 0, 0), (.bipush 32, 2, 0, 0, 0), (.iastore, 1, 0, 0, 0), (.dup, 1, 0, 0, 0), (.bipush 49, 2, 0, 0, 0), (.bipush 99, 2, 0, 0, 0), (.iastore, 1, 0, 0, 0)]
set_option maxRecDepth 20000 in
theorem hX10_init_19p4 : zChk true 10 cX10_init 253 bX10_init_19p4 = true := by decide +kernel
def bX10_init_19p5 : List zI := [(.dup, 1, 0, 0, 0), (.bipush 50, 2, 0, 0, 0), (.bipush 97, 2, 0, 0, 0), (.iastore, 1, 0, 0, 0), (.dup, 1, 0, 0, 0), (.bipush 51, 2, 0, 0, 0), (.bipush 110, 2, 0, 0, 0), (.iastore, 1, 0, 0, 0), (.dup, 1, 0, 0, 0), (.bipush 52, 2, 0, 0, 0), (.bipush 118, 2, 0, 0, 0), (.iastore, 1, 0, 0, 0), (.dup, 1, 0, 0, 0), (.bipush 53, 2, 0, 0, 0), (.bipush 97, 2, 0, 0, 0), (.iastore, 1, 0, 0, 0), (.dup, 1, 0, 0, 0), (.bipush 54, 2, 0, 0, 0), (.bipush 115, 2, 0, 0, 0), (.iastore, 1, 0, 0, 0), (.dup, 1, 0, 0, 0), (.bipush 55, 2, 0, 0, 0), (.bipush 32, 2, 0, 0, 0), (.iastore, 1, 0, 0, 0), (.dup, 1, 0, 0, 0), (.bipush 56, 2, 0, 0, 0), (.bipush 115, 2, 0, 0, 0), (.iastore, 1, 0, 0, 0), (.dup, 1, 0, 0, 0), (.bipush 57, 2, 0, 0, 0), (.bipush 101, 2, 0, 0, 0), (.iastore, 1, 0, 0, 0), (.dup, 1, 0, 0, 0), (.bipush 58, 2, 0, 0, 0), (.bipush 101, 2, 0, 0, 0), (.iastore, 1, 0, 0, 0), (.dup, 1, 0, 0, 0), (.bipush 59, 2, 0, 0, 0), (.bipush 100, 2, 0, 0, 0), (.iastore, 1, 0, 0, 0)]
set_option maxRecDepth 20000 in
theorem hX10_init_19p5 : zChk true 10 cX10_init 313 bX10_init_19p5 = true := by decide +kernel
def bX10_init_19p6 : List zI := [(.dup, 1, 0, 0, 0), (.bipush 60, 2, 0, 0, 0), (.bipush 32, 2, 0, 0, 0), (.iastore, 1, 0, 0, 0), (.dup, 1, 0, 0, 0), (.bipush 61, 2, 0, 0, 0), (.bipush 115, 2, 0, 0, 0), (.iastore, 1, 0, 0, 0), (.dup, 1, 0, 0, 0), (.bipush 62, 2, 0, 0, 0), (.bipush 105, 2, 0, 0, 0), (.iastore, 1, 0, 0, 0), (.dup, 1, 0, 0, 0), (.bipush 63, 2, 0, 0, 0), (.bipush 103, 2, 0, 0, 0), (.iastore, 1, 0, 0, 0), (.dup, 1, 0, 0, 0), (.bipush 64, 2, 0, 0, 0), (.bipush 110, 2, 0, 0, 0), (.iastore, 1, 0, 0, 0), (.dup, 1, 0, 0, 0), (.bipush 65, 2, 0, 0, 0), (.bipush 32, 2, 0, 0, 0), (.iastore, 1, 0, 0, 0), (.dup, 1, 0, 0, 0), (.bipush 66, 2, 0, 0, 0), (.bipush 108, 2, 0, 0, 0), (.iastore, 1, 0, 0, 0), (.dup, 1, 0, 0, 0), (.bipush 67, 2, 0, 0, 0), (.bipush 97, 2, 0, 0, 0), (.iastore, 1, 0, 0, 0), (.dup, 1, 0, 0, 0), (.bipush 68, 2, 0, 0, 0), (.bipush 119, 2, 0, 0, 0), (.iastore, 1, 0, 0, 0), (.dup, 1, 0, 0, 0), (.bipush 69, 2, 0, 0, 0), (.bipush 32, 2, 0, 0, 0), (.iastore, 1, 0, 0, 0)]
set_option maxRecDepth 20000 in
theorem hX10_init_19p6 : zChk true 10 cX10_init 373 bX10_init_19p6 = true := by decide +kernel
def bX10_init_19p7 : List zI := [(.dup, 1, 0, 0, 0), (.bipush 70, 2, 0, 0, 0), (.bipush 116, 2, 0, 0, 0), (.iastore, 1, 0, 0, 0), (.dup, 1, 0, 0, 0), (.bipush 71, 2, 0, 0, 0), (.bipush 105, 2, 0, 0, 0), (.iastore, 1, 0, 0, 0), (.dup, 1, 0, 0, 0), (.bipush 72, 2, 0, 0, 0), (.bipush 100, 2, 0, 0, 0), (.iastore, 1, 0, 0, 0), (.dup, 1, 0, 0, 0), (.bipush 73, 2, 0, 0, 0), (.bipush 101, 2, 0, 0, 0), (.iastore, 1, 0, 0, 0), (.dup, 1, 0, 0, 0), (.bipush 74, 2, 0, 0, 0), (.bipush 32, 2, 0, 0, 0), (.iastore, 1, 0, 0, 0), (.dup, 1, 0, 0, 0), (.bipush 75, 2, 0, 0, 0), (.bipush 115, 2, 0, 0, 0), (.iastore, 1, 0, 0, 0), (.dup, 1, 0, 0, 0), (.bipush 76, 2, 0, 0, 0), (.bipush 105, 2, 0, 0, 0), (.iastore, 1, 0, 0, 0), (.dup, 1, 0, 0, 0), (.bipush 77, 2, 0, 0, 0), (.bipush 116, 2, 0, 0, 0), (.iastore, 1, 0, 0, 0), (.dup, 1, 0, 0, 0), (.bipush 78, 2, 0, 0, 0), (.bipush 32, 2, 0, 0, 0), (.iastore, 1, 0, 0, 0), (.dup, 1, 0, 0, 0), (.bipush 79, 2, 0, 0, 0), (.bipush 115, 2, 0, 0, 0), (.iastore, 1, 0, 0, 0)]
set_option maxRecDepth 20000 in
theorem hX10_init_19p7 : zChk true 10 cX10_init 433 bX10_init_19p7 = true := by decide +kernel
def bX10_init_19p8 : List zI := [(.dup, 1, 0, 0, 0), (.bipush 80, 2, 0, 0, 0), (.bipush 116, 2, 0, 0, 0), (.iastore, 1, 0, 0, 0), (.dup, 1, 0, 0, 0), (.bipush 81, 2, 0, 0, 0), (.bipush 97, 2, 0, 0, 0), (.iastore, 1, 0, 0, 0), (.dup, 1, 0, 0, 0), (.bipush 82, 2, 0, 0, 0), (.bipush 121, 2, 0, 0, 0), (.iastore, 1, 0, 0, 0), (.dup, 1, 0, 0, 0), (.bipush 83, 2, 0, 0, 0), (.bipush 32, 2, 0, 0, 0), (.iastore, 1, 0, 0, 0), (.dup, 1, 0, 0, 0), (.bipush 84, 2, 0, 0, 0), (.bipush 100, 2, 0, 0, 0), (.iastore, 1, 0, 0, 0), (.dup, 1, 0, 0, 0), (.bipush 85, 2, 0, 0, 0), (.bipush 111, 2, 0, 0, 0), (.iastore, 1, 0, 0, 0), (.dup, 1, 0, 0, 0), (.bipush 86, 2, 0, 0, 0), (.bipush 100, 2, 0, 0, 0), (.iastore, 1, 0, 0, 0), (.dup, 1, 0, 0, 0), (.bipush 87, 2, 0, 0, 0), (.bipush 103, 2, 0, 0, 0), (.iastore, 1, 0, 0, 0), (.dup, 1, 0, 0, 0), (.bipush 88, 2, 0, 0, 0), (.bipush 101, 2, 0, 0, 0), (.iastore, 1, 0, 0, 0), (.dup, 1, 0, 0, 0), (.bipush 89, 2, 0, 0, 0), (.bipush 32, 2, 0, 0, 0), (.iastore, 1, 0, 0, 0)]
set_option maxRecDepth 20000 in
theorem hX10_init_19p8 : zChk true 10 cX10_init 493 bX10_init_19p8 = true := by decide +kernel
def bX10_init_19p9 : List zI := [(.dup, 1, 0, 0, 0), (.bipush 90, 2, 0, 0, 0), (.bipush 97, 2, 0, 0, 0), (.iastore, 1, 0, 0, 0), (.dup, 1, 0, 0, 0), (.bipush 91, 2, 0, 0, 0), (.bipush 110, 2, 0, 0, 0), (.iastore, 1, 0, 0, 0), (.dup, 1, 0, 0, 0), (.bipush 92, 2, 0, 0, 0), (.bipush 100, 2, 0, 0, 0), (.iastore, 1, 0, 0, 0), (.dup, 1, 0, 0, 0), (.bipush 93, 2, 0, 0, 0), (.bipush 32, 2, 0, 0, 0), (.iastore, 1, 0, 0, 0), (.dup, 1, 0, 0, 0), (.bipush 94, 2, 0, 0, 0), (.bipush 111, 2, 0, 0, 0), (.iastore, 1, 0, 0, 0), (.dup, 1, 0, 0, 0), (.bipush 95, 2, 0, 0, 0), (.bipush 114, 2, 0, 0, 0), (.iastore, 1, 0, 0, 0), (.dup, 1, 0, 0, 0), (.bipush 96, 2, 0, 0, 0), (.bipush 32, 2, 0, 0, 0), (.iastore, 1, 0, 0, 0), (.dup, 1, 0, 0, 0), (.bipush 97, 2, 0, 0, 0), (.bipush 110, 2, 0, 0, 0), (.iastore, 1, 0, 0, 0), (.dup, 1, 0, 0, 0), (.bipush 98, 2, 0, 0, 0), (.bipush 111, 2, 0, 0, 0), (.iastore, 1, 0, 0, 0), (.dup, 1, 0, 0, 0), (.bipush 99, 2, 0, 0, 0), (.bipush 116, 2, 0, 0, 0), (.iastore, 1, 0, 0, 0)]
set_option maxRecDepth 20000 in
theorem hX10_init_19p9 : zChk true 10 cX10_init 553 bX10_init_19p9 = true := by decide +kernel
def bX10_init_19p10 : List zI := [(.dup, 1, 0, 0, 0), (.bipush 100, 2, 0, 0, 0), (.bipush 32, 2, 0, 0, 0), (.iastore, 1, 0, 0, 0), (.dup, 1, 0, 0, 0), (.bipush 101, 2, 0, 0, 0), (.bipush 118, 2, 0, 0, 0), (.iastore, 1, 0, 0, 0), (.dup, 1, 0, 0, 0), (.bipush 102, 2, 0, 0, 0), (.bipush 105, 2, 0, 0, 0), (.iastore, 1, 0, 0, 0), (.dup, 1, 0, 0, 0), (.bipush 103, 2, 0, 0, 0), (.bipush 101, 2, 0, 0, 0), (.iastore, 1, 0, 0, 0), (.dup, 1, 0, 0, 0), (.bipush 104, 2, 0, 0, 0), (.bipush 119, 2, 0, 0, 0), (.iastore, 1, 0, 0, 0), (.dup, 1, 0, 0, 0), (.bipush 105, 2, 0, 0, 0), (.bipush 32, 2, 0, 0, 0), (.iastore, 1, 0, 0, 0), (.dup, 1, 0, 0, 0), (.bipush 106, 2, 0, 0, 0), (.bipush 102, 2, 0, 0, 0), (.iastore, 1, 0, 0, 0), (.dup, 1, 0, 0, 0), (.bipush 107, 2, 0, 0, 0), (.bipush 97, 2, 0, 0, 0), (.iastore, 1, 0, 0, 0), (.dup, 1, 0, 0, 0), (.bipush 108, 2, 0, 0, 0), (.bipush 114, 2, 0, 0, 0), (.iastore, 1, 0, 0, 0), (.dup, 1, 0, 0, 0), (.bipush 109, 2, 0, 0, 0), (.bipush 32, 2, 0, 0, 0), (.iastore, 1, 0, 0, 0)]
set_option maxRecDepth 20000 in
theorem hX10_init_19p10 : zChk true 10 cX10_init 613 bX10_init_19p10 = true := by decide +kernel
def bX10_init_19p11 : List zI := [(.dup, 1, 0, 0, 0), (.bipush 110, 2, 0, 0, 0), (.bipush 115, 2, 0, 0, 0), (.iastore, 1, 0, 0, 0), (.dup, 1, 0, 0, 0), (.bipush 111, 2, 0, 0, 0), (.bipush 117, 2, 0, 0, 0), (.iastore, 1, 0, 0, 0), (.dup, 1, 0, 0, 0), (.bipush 112, 2, 0, 0, 0), (.bipush 110, 2, 0, 0, 0), (.iastore, 1, 0, 0, 0), (.dup, 1, 0, 0, 0), (.bipush 113, 2, 0, 0, 0), (.bipush 32, 2, 0, 0, 0), (.iastore, 1, 0, 0, 0), (.dup, 1, 0, 0, 0), (.bipush 114, 2, 0, 0, 0), (.bipush 109, 2, 0, 0, 0), (.iastore, 1, 0, 0, 0), (.dup, 1, 0, 0, 0), (.bipush 115, 2, 0, 0, 0), (.bipush 117, 2, 0, 0, 0), (.iastore, 1, 0, 0, 0), (.dup, 1, 0, 0, 0), (.bipush 116, 2, 0, 0, 0), (.bipush 115, 2, 0, 0, 0), (.iastore, 1, 0, 0, 0), (.dup, 1, 0, 0, 0), (.bipush 117, 2, 0, 0, 0), (.bipush 105, 2, 0, 0, 0), (.iastore, 1, 0, 0, 0), (.dup, 1, 0, 0, 0), (.bipush 118, 2, 0, 0, 0), (.bipush 99, 2, 0, 0, 0), (.iastore, 1, 0, 0, 0), (.dup, 1, 0, 0, 0), (.bipush 119, 2, 0, 0, 0), (.bipush 32, 2, 0, 0, 0), (.iastore, 1, 0, 0, 0)]
set_option maxRecDepth 20000 in
theorem hX10_init_19p11 : zChk true 10 cX10_init 673 bX10_init_19p11 = true := by decide +kernel
def bX10_init_19p12 : List zI := [(.dup, 1, 0, 0, 0), (.bipush 120, 2, 0, 0, 0), (.bipush 116, 2, 0, 0, 0), (.iastore, 1, 0, 0, 0), (.dup, 1, 0, 0, 0), (.bipush 121, 2, 0, 0, 0), (.bipush 97, 2, 0, 0, 0), (.iastore, 1, 0, 0, 0), (.dup, 1, 0, 0, 0), (.bipush 122, 2, 0, 0, 0), (.bipush 107, 2, 0, 0, 0), (.iastore, 1, 0, 0, 0), (.dup, 1, 0, 0, 0), (.bipush 123, 2, 0, 0, 0), (.bipush 101, 2, 0, 0, 0), (.iastore, 1, 0, 0, 0), (.dup, 1, 0, 0, 0), (.bipush 124, 2, 0, 0, 0), (.bipush 110, 2, 0, 0, 0), (.iastore, 1, 0, 0, 0), (.dup, 1, 0, 0, 0), (.bipush 125, 2, 0, 0, 0), (.bipush 32, 2, 0, 0, 0), (.iastore, 1, 0, 0, 0), (.dup, 1, 0, 0, 0), (.bipush 126, 2, 0, 0, 0), (.bipush 102, 2, 0, 0, 0), (.iastore, 1, 0, 0, 0), (.dup, 1, 0, 0, 0), (.bipush 127, 2, 0, 0, 0), (.bipush 114, 2, 0, 0, 0), (.iastore, 1, 0, 0, 0), (.dup, 1, 0, 0, 0), (.sipush 128, 3, 0, 0, 0), (.bipush 101, 2, 0, 0, 0), (.iastore, 1, 0, 0, 0), (.dup, 1, 0, 0, 0), (.sipush 129, 3, 0, 0, 0), (.bipush 101, 2, 0, 0, 0), (.iastore, 1, 0, 0, 0)]
set_option maxRecDepth 20000 in
theorem hX10_init_19p12 : zChk true 10 cX10_init 733 bX10_init_19p12 = true := by decide +kernel
def bX10_init_19p13 : List zI := [(.dup, 1, 0, 0, 0), (.sipush 130, 3, 0, 0, 0), (.bipush 32, 2, 0, 0, 0), (.iastore, 1, 0, 0, 0), (.dup, 1, 0, 0, 0), (.sipush 131, 3, 0, 0, 0), (.bipush 116, 2, 0, 0, 0), (.iastore, 1, 0, 0, 0), (.dup, 1, 0, 0, 0), (.sipush 132, 3, 0, 0, 0), (.bipush 105, 2, 0, 0, 0), (.iastore, 1, 0, 0, 0), (.dup, 1, 0, 0, 0), (.sipush 133, 3, 0, 0, 0), (.bipush 99, 2, 0, 0, 0), (.iastore, 1, 0, 0, 0), (.dup, 1, 0, 0, 0), (.sipush 134, 3, 0, 0, 0), (.bipush 107, 2, 0, 0, 0), (.iastore, 1, 0, 0, 0), (.dup, 1, 0, 0, 0), (.sipush 135, 3, 0, 0, 0), (.bipush 32, 2, 0, 0, 0), (.iastore, 1, 0, 0, 0), (.putfield 13, 3, 10, 3, 0), (.aload_n 0, 1, 0, 0, 0), (.iconst (-1), 1, 0, 0, 0), (.putfield 16, 3, 10, 5, 0), (.aload_n 0, 1, 0, 0, 0), (.bipush 10, 2, 0, 0, 0)]
set_option maxRecDepth 20000 in
theorem hX10_init_19p13 : zChk true 10 cX10_init 795 bX10_init_19p13 = true := by decide +kernel
set_option maxRecDepth 20000 in
theorem hhX10_init_19 : bX10_init_19 = bX10_init_19p0 ++ (bX10_init_19p1 ++ (bX10_init_19p2 ++ (bX10_init_19p3 ++ (bX10_init_19p4 ++ (bX10_init_19p5 ++ (bX10_init_19p6 ++ (bX10_init_19p7 ++ (bX10_init_19p8 ++ (bX10_init_19p9 ++ (bX10_init_19p10 ++ (bX10_init_19p11 ++ (bX10_init_19p12 ++ (bX10_init_19p13))))))))))))) := by simp only [bX10_init_19, bX10_init_19p0, bX10_init_19p1, bX10_init_19p2, bX10_init_19p3, bX10_init_19p4, bX10_init_19p5, bX10_init_19p6, bX10_init_19p7, bX10_init_19p8, bX10_init_19p9, bX10_init_19p10, bX10_init_19p11, bX10_init_19p12, bX10_init_19p13, List.cons_append, List.nil_append]
theorem hX10_init_19 : zChk true 10 cX10_init 19 bX10_init_19 = true := by rw [hhX10_init_19]; exact (zChk_app hX10_init_19p0 (by decide +kernel : 73 = 19 + (bX10_init_19p0.map (fun q => q.2.1)).sum) (zChk_app hX10_init_19p1 (by decide +kernel : 133 = 73 + (bX10_init_19p1.map (fun q => q.2.1)).sum) (zChk_app hX10_init_19p2 (by decide +kernel : 193 = 133 + (bX10_init_19p2.map (fun q => q.2.1)).sum) (zChk_app hX10_init_19p3 (by decide +kernel : 253 = 193 + (bX10_init_19p3.map (fun q => q.2.1)).sum) (zChk_app hX10_init_19p4 (by decide +kernel : 313 = 253 + (bX10_init_19p4.map (fun q => q.2.1)).sum) (zChk_app hX10_init_19p5 (by decide +kernel : 373 = 313 + (bX10_init_19p5.map (fun q => q.2.1)).sum) (zChk_app hX10_init_19p6 (by decide +kernel : 433 = 373 + (bX10_init_19p6.map (fun q => q.2.1)).sum) (zChk_app hX10_init_19p7 (by decide +kernel : 493 = 433 + (bX10_init_19p7.map (fun q => q.2.1)).sum) (zChk_app hX10_init_19p8 (by decide +kernel : 553 = 493 + (bX10_init_19p8.map (fun q => q.2.1)).sum) (zChk_app hX10_init_19p9 (by decide +kernel : 613 = 553 + (bX10_init_19p9.map (fun q => q.2.1)).sum) (zChk_app hX10_init_19p10 (by decide +kernel : 673 = 613 + (bX10_init_19p10.map (fun q => q.2.1)).sum) (zChk_app hX10_init_19p11 (by decide +kernel : 733 = 673 + (bX10_init_19p11.map (fun q => q.2.1)).sum) (zChk_app hX10_init_19p12 (by decide +kernel : 795 = 733 + (bX10_init_19p12.map (fun q => q.2.1)).sum) hX10_init_19p13)))))))))))))
def bX10_init_850 : List zI := [(.putfield 20, 3, 10, 24, 0), (.aload_n 0, 1, 0, 0, 0), (.bipush 10, 2, 0, 0, 0)]
set_option maxRecDepth 20000 in
theorem hX10_init_850 : zChk true 10 cX10_init 850 bX10_init_850 = true := by decide +kernel
def bX10_init_858 : List zI := [(.putfield 23, 3, 10, 25, 0), (.aload_n 0, 1, 0, 0, 0), (.bipush 10, 2, 0, 0, 0)]
set_option maxRecDepth 20000 in
theorem hX10_init_858 : zChk true 10 cX10_init 858 bX10_init_858 = true := by decide +kernel
def bX10_init_866 : List zI := [(.putfield 26, 3, 10, 26, 0), (.aload_n 0, 1, 0, 0, 0), (.bipush 10, 2, 0, 0, 0)]
set_option maxRecDepth 20000 in
theorem hX10_init_866 : zChk true 10 cX10_init 866 bX10_init_866 = true := by decide +kernel
def bX10_init_874 : List zI := [(.putfield 29, 3, 10, 27, 0), (.aload_n 0, 1, 0, 0, 0), (.bipush 32, 2, 0, 0, 0)]
set_option maxRecDepth 20000 in
theorem hX10_init_874 : zChk true 10 cX10_init 874 bX10_init_874 = true := by decide +kernel
def bX10_init_882 : List zI := [(.putfield 32, 3, 10, 28, 0), (.aload_n 0, 1, 0, 0, 0), (.bipush 32, 2, 0, 0, 0)]
set_option maxRecDepth 20000 in
theorem hX10_init_882 : zChk true 10 cX10_init 882 bX10_init_882 = true := by decide +kernel
def bX10_init_890 : List zI := [(.putfield 35, 3, 10, 29, 0), (.aload_n 0, 1, 0, 0, 0), (.bipush 24, 2, 0, 0, 0)]
set_option maxRecDepth 20000 in
theorem hX10_init_890 : zChk true 10 cX10_init 890 bX10_init_890 = true := by decide +kernel
def bX10_init_898 : List zI := [(.putfield 38, 3, 10, 30, 0), (.aload_n 0, 1, 0, 0, 0), (.bipush 24, 2, 0, 0, 0)]
set_option maxRecDepth 20000 in
theorem hX10_init_898 : zChk true 10 cX10_init 898 bX10_init_898 = true := by decide +kernel
def bX10_init_906 : List zI := [(.putfield 41, 3, 10, 31, 0), (.aload_n 0, 1, 0, 0, 0), (.iconst 4, 1, 0, 0, 0)]
set_option maxRecDepth 20000 in
theorem hX10_init_906 : zChk true 10 cX10_init 906 bX10_init_906 = true := by decide +kernel
def bX10_init_913 : List zI := [(.putfield 44, 3, 10, 32, 0), (.aload_n 0, 1, 0, 0, 0), (.iconst 4, 1, 0, 0, 0)]
set_option maxRecDepth 20000 in
theorem hX10_init_913 : zChk true 10 cX10_init 913 bX10_init_913 = true := by decide +kernel
def bX10_init_920 : List zI := [(.putfield 47, 3, 10, 33, 0), (.aload_n 0, 1, 0, 0, 0), (.iconst 4, 1, 0, 0, 0)]
set_option maxRecDepth 20000 in
theorem hX10_init_920 : zChk true 10 cX10_init 920 bX10_init_920 = true := by decide +kernel
def bX10_init_927 : List zI := [(.putfield 50, 3, 10, 34, 0), (.aload_n 0, 1, 0, 0, 0), (.bipush 8, 2, 0, 0, 0)]
set_option maxRecDepth 20000 in
theorem hX10_init_927 : zChk true 10 cX10_init 927 bX10_init_927 = true := by decide +kernel
def bX10_init_935 : List zI := [(.putfield 53, 3, 10, 35, 0), (.aload_n 0, 1, 0, 0, 0), (.bipush 32, 2, 0, 0, 0)]
set_option maxRecDepth 20000 in
theorem hX10_init_935 : zChk true 10 cX10_init 935 bX10_init_935 = true := by decide +kernel
def bX10_init_943 : List zI := [(.putfield 56, 3, 10, 36, 0), (.aload_n 0, 1, 0, 0, 0), (.bipush 16, 2, 0, 0, 0)]
set_option maxRecDepth 20000 in
theorem hX10_init_943 : zChk true 10 cX10_init 943 bX10_init_943 = true := by decide +kernel
def bX10_init_951 : List zI := [(.putfield 59, 3, 10, 37, 0), (.aload_n 0, 1, 0, 0, 0), (.bipush 6, 2, 0, 0, 0)]
set_option maxRecDepth 20000 in
theorem hX10_init_951 : zChk true 10 cX10_init 951 bX10_init_951 = true := by decide +kernel
def bX10_init_959 : List zI := [(.putfield 63, 3, 10, 38, 0), (.aload_n 0, 1, 0, 0, 0), (.bipush 6, 2, 0, 0, 0)]
set_option maxRecDepth 20000 in
theorem hX10_init_959 : zChk true 10 cX10_init 959 bX10_init_959 = true := by decide +kernel
def bX10_init_967 : List zI := [(.putfield 66, 3, 10, 39, 0), (.aload_n 0, 1, 0, 0, 0), (.bipush 6, 2, 0, 0, 0)]
set_option maxRecDepth 20000 in
theorem hX10_init_967 : zChk true 10 cX10_init 967 bX10_init_967 = true := by decide +kernel
def bX10_init_975 : List zI := [(.putfield 69, 3, 10, 40, 0), (.aload_n 0, 1, 0, 0, 0), (.sipush 128, 3, 0, 0, 0)]
set_option maxRecDepth 20000 in
theorem hX10_init_975 : zChk true 10 cX10_init 975 bX10_init_975 = true := by decide +kernel
def bX10_init_984 : List zI := [(.putfield 72, 3, 10, 41, 0), (.aload_n 0, 1, 0, 0, 0), (.sipush 128, 3, 0, 0, 0)]
set_option maxRecDepth 20000 in
theorem hX10_init_984 : zChk true 10 cX10_init 984 bX10_init_984 = true := by decide +kernel
def bX10_init_993 : List zI := [(.putfield 75, 3, 10, 42, 0), (.aload_n 0, 1, 0, 0, 0), (.sipush 128, 3, 0, 0, 0)]
set_option maxRecDepth 20000 in
theorem hX10_init_993 : zChk true 10 cX10_init 993 bX10_init_993 = true := by decide +kernel
def bX10_init_1002 : List zI := [(.putfield 78, 3, 10, 43, 0), (.aload_n 0, 1, 0, 0, 0), (.bipush 96, 2, 0, 0, 0)]
set_option maxRecDepth 20000 in
theorem hX10_init_1002 : zChk true 10 cX10_init 1002 bX10_init_1002 = true := by decide +kernel
def bX10_init_1010 : List zI := [(.putfield 81, 3, 10, 44, 0), (.aload_n 0, 1, 0, 0, 0), (.bipush 96, 2, 0, 0, 0)]
set_option maxRecDepth 20000 in
theorem hX10_init_1010 : zChk true 10 cX10_init 1010 bX10_init_1010 = true := by decide +kernel
def bX10_init_1018 : List zI := [(.putfield 84, 3, 10, 45, 0), (.aload_n 0, 1, 0, 0, 0), (.bipush 8, 2, 0, 0, 0)]
set_option maxRecDepth 20000 in
theorem hX10_init_1018 : zChk true 10 cX10_init 1018 bX10_init_1018 = true := by decide +kernel
def bX10_init_1026 : List zI := [(.putfield 87, 3, 10, 52, 0), (.aload_n 0, 1, 0, 0, 0), (.bipush 64, 2, 0, 0, 0)]
set_option maxRecDepth 20000 in
theorem hX10_init_1026 : zChk true 10 cX10_init 1026 bX10_init_1026 = true := by decide +kernel
def bX10_init_1034 : List zI := [(.putfield 91, 3, 10, 53, 0), (.aload_n 0, 1, 0, 0, 0), (.bipush 80, 2, 0, 0, 0)]
set_option maxRecDepth 20000 in
theorem hX10_init_1034 : zChk true 10 cX10_init 1034 bX10_init_1034 = true := by decide +kernel
def bX10_init_1042 : List zI := [(.putfield 94, 3, 10, 57, 0), (.aload_n 0, 1, 0, 0, 0), (.bipush 80, 2, 0, 0, 0)]
set_option maxRecDepth 20000 in
theorem hX10_init_1042 : zChk true 10 cX10_init 1042 bX10_init_1042 = true := by decide +kernel
def bX10_init_1050 : List zI := [(.putfield 97, 3, 10, 58, 0), (.aload_n 0, 1, 0, 0, 0), (.bipush 80, 2, 0, 0, 0)]
set_option maxRecDepth 20000 in
theorem hX10_init_1050 : zChk true 10 cX10_init 1050 bX10_init_1050 = true := by decide +kernel
def bX10_init_1058 : List zI := [(.putfield 100, 3, 10, 59, 0), (.aload_n 0, 1, 0, 0, 0), (.bipush 80, 2, 0, 0, 0)]
set_option maxRecDepth 20000 in
theorem hX10_init_1058 : zChk true 10 cX10_init 1058 bX10_init_1058 = true := by decide +kernel
def bX10_init_1066 : List zI := [(.putfield 103, 3, 10, 60, 0), (.aload_n 0, 1, 0, 0, 0), (.bipush 80, 2, 0, 0, 0)]
set_option maxRecDepth 20000 in
theorem hX10_init_1066 : zChk true 10 cX10_init 1066 bX10_init_1066 = true := by decide +kernel
def bX10_init_1074 : List zI := [(.putfield 106, 3, 10, 61, 0), (.aload_n 0, 1, 0, 0, 0), (.bipush 14, 2, 0, 0, 0)]
set_option maxRecDepth 20000 in
theorem hX10_init_1074 : zChk true 10 cX10_init 1074 bX10_init_1074 = true := by decide +kernel
def bX10_init_1082 : List zI := [(.putfield 109, 3, 10, 62, 0), (.aload_n 0, 1, 0, 0, 0), (.iconst 2, 1, 0, 0, 0)]
set_option maxRecDepth 20000 in
theorem hX10_init_1082 : zChk true 10 cX10_init 1082 bX10_init_1082 = true := by decide +kernel
def bX10_init_1089 : List zI := [(.putfield 112, 3, 10, 63, 0), (.aload_n 0, 1, 0, 0, 0), (.bipush 8, 2, 0, 0, 0)]
set_option maxRecDepth 20000 in
theorem hX10_init_1089 : zChk true 10 cX10_init 1089 bX10_init_1089 = true := by decide +kernel
def bX10_init_1097 : List zI := [(.putfield 115, 3, 10, 66, 0), (.aload_n 0, 1, 0, 0, 0), (.bipush 8, 2, 0, 0, 0)]
set_option maxRecDepth 20000 in
theorem hX10_init_1097 : zChk true 10 cX10_init 1097 bX10_init_1097 = true := by decide +kernel
def bX10_init_1105 : List zI := [(.putfield 118, 3, 10, 77, 0), (.aload_n 0, 1, 0, 0, 0), (.sipush 800, 3, 0, 0, 0)]
set_option maxRecDepth 20000 in
theorem hX10_init_1105 : zChk true 10 cX10_init 1105 bX10_init_1105 = true := by decide +kernel
def bX10_init_1114 : List zI := [(.putfield 121, 3, 10, 79, 0), (.aload_n 0, 1, 0, 0, 0), (.bipush 20, 2, 0, 0, 0)]
set_option maxRecDepth 20000 in
theorem hX10_init_1114 : zChk true 10 cX10_init 1114 bX10_init_1114 = true := by decide +kernel
def bX10_init_1122 : List zI := [(.putfield 124, 3, 10, 80, 0), (.aload_n 0, 1, 0, 0, 0), (.bipush 20, 2, 0, 0, 0)]
set_option maxRecDepth 20000 in
theorem hX10_init_1122 : zChk true 10 cX10_init 1122 bX10_init_1122 = true := by decide +kernel
def bX10_init_1130 : List zI := [(.putfield 127, 3, 10, 81, 0), (.aload_n 0, 1, 0, 0, 0), (.bipush 20, 2, 0, 0, 0)]
set_option maxRecDepth 20000 in
theorem hX10_init_1130 : zChk true 10 cX10_init 1130 bX10_init_1130 = true := by decide +kernel
def bX10_init_1138 : List zI := [(.putfield 130, 3, 10, 82, 0), (.aload_n 0, 1, 0, 0, 0), (.sipush 160, 3, 0, 0, 0)]
set_option maxRecDepth 20000 in
theorem hX10_init_1138 : zChk true 10 cX10_init 1138 bX10_init_1138 = true := by decide +kernel
def bX10_init_1147 : List zI := [(.putfield 133, 3, 10, 83, 0), (.aload_n 0, 1, 0, 0, 0), (.iconst 5, 1, 0, 0, 0)]
set_option maxRecDepth 20000 in
theorem hX10_init_1147 : zChk true 10 cX10_init 1147 bX10_init_1147 = true := by decide +kernel
def bX10_init_1154 : List zI := [(.putfield 136, 3, 10, 84, 0), (.aload_n 0, 1, 0, 0, 0), (.iconst (-1), 1, 0, 0, 0), (.putfield 139, 3, 10, 86, 0), (.aload_n 0, 1, 0, 0, 0), (.bipush 60, 2, 0, 0, 0)]
set_option maxRecDepth 20000 in
theorem hX10_init_1154 : zChk true 10 cX10_init 1154 bX10_init_1154 = true := by decide +kernel
def bX10_init_1167 : List zI := [(.putfield 142, 3, 10, 87, 0), (.aload_n 0, 1, 0, 0, 0), (.bipush 60, 2, 0, 0, 0)]
set_option maxRecDepth 20000 in
theorem hX10_init_1167 : zChk true 10 cX10_init 1167 bX10_init_1167 = true := by decide +kernel
def bX10_init_1175 : List zI := [(.putfield 145, 3, 10, 88, 0), (.aload_n 0, 1, 0, 0, 0), (.bipush 60, 2, 0, 0, 0)]
set_option maxRecDepth 20000 in
theorem hX10_init_1175 : zChk true 10 cX10_init 1175 bX10_init_1175 = true := by decide +kernel
def bX10_init_1183 : List zI := [(.putfield 148, 3, 10, 89, 0), (.aload_n 0, 1, 0, 0, 0), (.bipush 40, 2, 0, 0, 0)]
set_option maxRecDepth 20000 in
theorem hX10_init_1183 : zChk true 10 cX10_init 1183 bX10_init_1183 = true := by decide +kernel
def bX10_init_1191 : List zI := [(.putfield 151, 3, 10, 96, 0), (.aload_n 0, 1, 0, 0, 0), (.bipush 40, 2, 0, 0, 0)]
set_option maxRecDepth 20000 in
theorem hX10_init_1191 : zChk true 10 cX10_init 1191 bX10_init_1191 = true := by decide +kernel
def bX10_init_1199 : List zI := [(.putfield 154, 3, 10, 97, 0), (.aload_n 0, 1, 0, 0, 0), (.bipush 40, 2, 0, 0, 0)]
set_option maxRecDepth 20000 in
theorem hX10_init_1199 : zChk true 10 cX10_init 1199 bX10_init_1199 = true := by decide +kernel
def bX10_init_1207 : List zI := [(.putfield 157, 3, 10, 98, 0), (.aload_n 0, 1, 0, 0, 0), (.bipush 40, 2, 0, 0, 0)]
set_option maxRecDepth 20000 in
theorem hX10_init_1207 : zChk true 10 cX10_init 1207 bX10_init_1207 = true := by decide +kernel
def bX10_init_1215 : List zI := [(.putfield 160, 3, 10, 99, 0), (.aload_n 0, 1, 0, 0, 0), (.bipush 40, 2, 0, 0, 0)]
set_option maxRecDepth 20000 in
theorem hX10_init_1215 : zChk true 10 cX10_init 1215 bX10_init_1215 = true := by decide +kernel
def bX10_init_1223 : List zI := [(.putfield 163, 3, 10, 100, 0), (.aload_n 0, 1, 0, 0, 0), (.bipush 7, 2, 0, 0, 0)]
set_option maxRecDepth 20000 in
theorem hX10_init_1223 : zChk true 10 cX10_init 1223 bX10_init_1223 = true := by decide +kernel
def bX10_init_1231 : List zI := [(.putfield 166, 3, 10, 101, 0), (.aload_n 0, 1, 0, 0, 0), (.bipush 8, 2, 0, 0, 0)]
set_option maxRecDepth 20000 in
theorem hX10_init_1231 : zChk true 10 cX10_init 1231 bX10_init_1231 = true := by decide +kernel
def bX10_init_1239 : List zI := [(.putfield 169, 3, 10, 102, 0), (.aload_n 0, 1, 0, 0, 0)]
set_option maxRecDepth 20000 in
theorem hX10_init_1239 : zChk true 10 cX10_init 1239 bX10_init_1239 = true := by decide +kernel
def bX10_init_1246 : List zI := [(.aload_n 0, 1, 0, 0, 0)]
set_option maxRecDepth 20000 in
theorem hX10_init_1246 : zChk true 10 cX10_init 1246 bX10_init_1246 = true := by decide +kernel
def bX10_init_1250 : List zI := [(.return_, 1, 0, 0, 0)]
set_option maxRecDepth 20000 in
theorem hX10_init_1250 : zChk true 10 cX10_init 1250 bX10_init_1250 = true := by decide +kernel
def bX10_feed_0 : List zI := [(.aload_n 0, 1, 0, 0, 0), (.iconst 0, 1, 0, 0, 0), (.putfield 178, 3, 10, 2, 0), (.aload_n 0, 1, 0, 0, 0), (.getfield 181, 3, 10, 1, 0), (.bipush 20, 2, 0, 0, 0), (.iadd, 1, 0, 0, 0), (.sipush 700, 3, 0, 0, 0), (.if_icmp .le 5, 3, 20, 0, 0), (.iconst (-1), 1, 0, 0, 0), (.ireturn, 1, 0, 0, 0)]
set_option maxRecDepth 20000 in
theorem hX10_feed_0 : zChk false 10 cX10_feed 0 bX10_feed_0 = true := by decide +kernel
def bX10_feed_20 : List zI := [(.iconst 0, 1, 0, 0, 0), (.istore 6, 2, 0, 0, 0)]
set_option maxRecDepth 20000 in
theorem hX10_feed_20 : zChk false 10 cX10_feed 20 bX10_feed_20 = true := by decide +kernel
def bX10_feed_23 : List zI := [(.iload 6, 2, 0, 0, 0), (.bipush 20, 2, 0, 0, 0), (.if_icmp .ge 86, 3, 113, 0, 0), (.iload 6, 2, 0, 0, 0), (.iconst 4, 1, 0, 0, 0), (.if_icmp .ge 7, 3, 40, 0, 0), (.iload_n 1, 1, 0, 0, 0), (.goto 39, 3, 76, 0, 0)]
set_option maxRecDepth 20000 in
theorem hX10_feed_23 : zChk false 10 cX10_feed 23 bX10_feed_23 = true := by decide +kernel
def bX10_feed_40 : List zI := [(.iload 6, 2, 0, 0, 0), (.bipush 8, 2, 0, 0, 0), (.if_icmp .ge 7, 3, 51, 0, 0), (.iload_n 2, 1, 0, 0, 0), (.goto 28, 3, 76, 0, 0)]
set_option maxRecDepth 20000 in
theorem hX10_feed_40 : zChk false 10 cX10_feed 40 bX10_feed_40 = true := by decide +kernel
def bX10_feed_51 : List zI := [(.iload 6, 2, 0, 0, 0), (.bipush 12, 2, 0, 0, 0), (.if_icmp .ge 7, 3, 62, 0, 0), (.iload_n 3, 1, 0, 0, 0), (.goto 17, 3, 76, 0, 0)]
set_option maxRecDepth 20000 in
theorem hX10_feed_51 : zChk false 10 cX10_feed 51 bX10_feed_51 = true := by decide +kernel
def bX10_feed_62 : List zI := [(.iload 6, 2, 0, 0, 0), (.bipush 16, 2, 0, 0, 0), (.if_icmp .ge 8, 3, 74, 0, 0), (.iload 4, 2, 0, 0, 0), (.goto 5, 3, 76, 0, 0)]
set_option maxRecDepth 20000 in
theorem hX10_feed_62 : zChk false 10 cX10_feed 62 bX10_feed_62 = true := by decide +kernel
def bX10_feed_74 : List zI := [(.iload 5, 2, 0, 0, 0), (.istore 7, 2, 0, 0, 0), (.aload_n 0, 1, 0, 0, 0), (.getfield 7, 3, 10, 0, 0), (.aload_n 0, 1, 0, 0, 0), (.getfield 181, 3, 10, 1, 0), (.iload 6, 2, 0, 0, 0), (.iadd, 1, 0, 0, 0), (.iload 7, 2, 0, 0, 0), (.bipush 24, 2, 0, 0, 0), (.bipush 8, 2, 0, 0, 0), (.iload 6, 2, 0, 0, 0), (.iconst 4, 1, 0, 0, 0), (.irem, 1, 0, 0, 0), (.imul, 1, 0, 0, 0), (.isub, 1, 0, 0, 0), (.ishr, 1, 0, 0, 0), (.sipush 255, 3, 0, 0, 0), (.iand, 1, 0, 0, 0), (.iastore, 1, 0, 0, 0), (.iinc 6 1, 3, 0, 0, 0), (.goto (-87), 3, 23, 0, 0)]
set_option maxRecDepth 20000 in
theorem hX10_feed_74 : zChk false 10 cX10_feed 74 bX10_feed_74 = true := by decide +kernel
def bX10_feed_76 : List zI := [(.istore 7, 2, 0, 0, 0), (.aload_n 0, 1, 0, 0, 0), (.getfield 7, 3, 10, 0, 0), (.aload_n 0, 1, 0, 0, 0), (.getfield 181, 3, 10, 1, 0), (.iload 6, 2, 0, 0, 0), (.iadd, 1, 0, 0, 0), (.iload 7, 2, 0, 0, 0), (.bipush 24, 2, 0, 0, 0), (.bipush 8, 2, 0, 0, 0), (.iload 6, 2, 0, 0, 0), (.iconst 4, 1, 0, 0, 0), (.irem, 1, 0, 0, 0), (.imul, 1, 0, 0, 0), (.isub, 1, 0, 0, 0), (.ishr, 1, 0, 0, 0), (.sipush 255, 3, 0, 0, 0), (.iand, 1, 0, 0, 0), (.iastore, 1, 0, 0, 0), (.iinc 6 1, 3, 0, 0, 0), (.goto (-87), 3, 23, 0, 0)]
set_option maxRecDepth 20000 in
theorem hX10_feed_76 : zChk false 10 cX10_feed 76 bX10_feed_76 = true := by decide +kernel
def bX10_feed_113 : List zI := [(.aload_n 0, 1, 0, 0, 0), (.dup, 1, 0, 0, 0), (.getfield 181, 3, 10, 1, 0), (.bipush 20, 2, 0, 0, 0), (.iadd, 1, 0, 0, 0), (.putfield 181, 3, 10, 1, 0), (.aload_n 0, 1, 0, 0, 0), (.getfield 181, 3, 10, 1, 0), (.ireturn, 1, 0, 0, 0)]
set_option maxRecDepth 20000 in
theorem hX10_feed_113 : zChk false 10 cX10_feed 113 bX10_feed_113 = true := by decide +kernel
def bX10_isIn_0 : List zI := [(.iload_n 0, 1, 0, 0, 0), (.iload_n 1, 1, 0, 0, 0), (.if_icmp .lt 12, 3, 14, 0, 0), (.iload_n 0, 1, 0, 0, 0), (.iload_n 2, 1, 0, 0, 0), (.if_icmp .gt 7, 3, 14, 0, 0), (.iconst 1, 1, 0, 0, 0), (.goto 4, 3, 15, 0, 0)]
set_option maxRecDepth 20000 in
theorem hX10_isIn_0 : zChk false 10 cX10_isIn 0 bX10_isIn_0 = true := by decide +kernel
def bX10_isIn_14 : List zI := [(.iconst 0, 1, 0, 0, 0), (.ireturn, 1, 0, 0, 0)]
set_option maxRecDepth 20000 in
theorem hX10_isIn_14 : zChk false 10 cX10_isIn 14 bX10_isIn_14 = true := by decide +kernel
def bX10_isIn_15 : List zI := [(.ireturn, 1, 0, 0, 0)]
set_option maxRecDepth 20000 in
theorem hX10_isIn_15 : zChk false 10 cX10_isIn 15 bX10_isIn_15 = true := by decide +kernel
def bX10_isOf_0 : List zI := [(.iload_n 0, 1, 0, 0, 0), (.iload_n 1, 1, 0, 0, 0), (.ishr, 1, 0, 0, 0), (.iconst 1, 1, 0, 0, 0), (.iand, 1, 0, 0, 0), (.iconst 1, 1, 0, 0, 0), (.if_icmp .ne 7, 3, 13, 0, 0), (.iconst 1, 1, 0, 0, 0), (.goto 4, 3, 14, 0, 0)]
set_option maxRecDepth 20000 in
theorem hX10_isOf_0 : zChk false 10 cX10_isOf 0 bX10_isOf_0 = true := by decide +kernel
def bX10_isOf_13 : List zI := [(.iconst 0, 1, 0, 0, 0), (.ireturn, 1, 0, 0, 0)]
set_option maxRecDepth 20000 in
theorem hX10_isOf_13 : zChk false 10 cX10_isOf 13 bX10_isOf_13 = true := by decide +kernel
def bX10_isOf_14 : List zI := [(.ireturn, 1, 0, 0, 0)]
set_option maxRecDepth 20000 in
theorem hX10_isOf_14 : zChk false 10 cX10_isOf 14 bX10_isOf_14 = true := by decide +kernel
def bX10_isSmall_0 : List zI := [(.iload_n 1, 1, 0, 0, 0), (.aload_n 0, 1, 0, 0, 0), (.getfield 190, 3, 10, 6, 0), (.if_icmp .ge 29, 3, 34, 0, 0), (.aload_n 0, 1, 0, 0, 0), (.getfield 7, 3, 10, 0, 0), (.iload_n 1, 1, 0, 0, 0), (.iaload, 1, 0, 0, 0), (.bipush 97, 2, 0, 0, 0), (.if_icmp .lt 18, 3, 34, 0, 0), (.aload_n 0, 1, 0, 0, 0), (.getfield 7, 3, 10, 0, 0), (.iload_n 1, 1, 0, 0, 0), (.iaload, 1, 0, 0, 0), (.bipush 122, 2, 0, 0, 0), (.if_icmp .gt 7, 3, 34, 0, 0), (.iconst 1, 1, 0, 0, 0), (.goto 4, 3, 35, 0, 0)]
set_option maxRecDepth 20000 in
theorem hX10_isSmall_0 : zChk false 10 cX10_isSmall 0 bX10_isSmall_0 = true := by decide +kernel
def bX10_isSmall_34 : List zI := [(.iconst 0, 1, 0, 0, 0), (.ireturn, 1, 0, 0, 0)]
set_option maxRecDepth 20000 in
theorem hX10_isSmall_34 : zChk false 10 cX10_isSmall 34 bX10_isSmall_34 = true := by decide +kernel
def bX10_isSmall_35 : List zI := [(.ireturn, 1, 0, 0, 0)]
set_option maxRecDepth 20000 in
theorem hX10_isSmall_35 : zChk false 10 cX10_isSmall 35 bX10_isSmall_35 = true := by decide +kernel
def bX10_isDigit_0 : List zI := [(.iload_n 1, 1, 0, 0, 0), (.aload_n 0, 1, 0, 0, 0), (.getfield 190, 3, 10, 6, 0), (.if_icmp .ge 29, 3, 34, 0, 0), (.aload_n 0, 1, 0, 0, 0), (.getfield 7, 3, 10, 0, 0), (.iload_n 1, 1, 0, 0, 0), (.iaload, 1, 0, 0, 0), (.bipush 48, 2, 0, 0, 0), (.if_icmp .lt 18, 3, 34, 0, 0), (.aload_n 0, 1, 0, 0, 0), (.getfield 7, 3, 10, 0, 0), (.iload_n 1, 1, 0, 0, 0), (.iaload, 1, 0, 0, 0), (.bipush 57, 2, 0, 0, 0), (.if_icmp .gt 7, 3, 34, 0, 0), (.iconst 1, 1, 0, 0, 0), (.goto 4, 3, 35, 0, 0)]
set_option maxRecDepth 20000 in
theorem hX10_isDigit_0 : zChk false 10 cX10_isDigit 0 bX10_isDigit_0 = true := by decide +kernel
def bX10_isDigit_34 : List zI := [(.iconst 0, 1, 0, 0, 0), (.ireturn, 1, 0, 0, 0)]
set_option maxRecDepth 20000 in
theorem hX10_isDigit_34 : zChk false 10 cX10_isDigit 34 bX10_isDigit_34 = true := by decide +kernel
def bX10_isDigit_35 : List zI := [(.ireturn, 1, 0, 0, 0)]
set_option maxRecDepth 20000 in
theorem hX10_isDigit_35 : zChk false 10 cX10_isDigit 35 bX10_isDigit_35 = true := by decide +kernel
def bX10_isKey_0 : List zI := [(.aload_n 0, 1, 0, 0, 0), (.getfield 196, 3, 10, 8, 0), (.iconst 1, 1, 0, 0, 0), (.if_icmp .ne 15, 3, 20, 0, 0), (.aload_n 0, 1, 0, 0, 0), (.getfield 207, 3, 10, 9, 0), (.iload_n 1, 1, 0, 0, 0), (.if_icmp .ne 7, 3, 20, 0, 0), (.iconst 1, 1, 0, 0, 0), (.goto 4, 3, 21, 0, 0)]
set_option maxRecDepth 20000 in
theorem hX10_isKey_0 : zChk false 10 cX10_isKey 0 bX10_isKey_0 = true := by decide +kernel
def bX10_isKey_20 : List zI := [(.iconst 0, 1, 0, 0, 0), (.ireturn, 1, 0, 0, 0)]
set_option maxRecDepth 20000 in
theorem hX10_isKey_20 : zChk false 10 cX10_isKey 20 bX10_isKey_20 = true := by decide +kernel
def bX10_isKey_21 : List zI := [(.ireturn, 1, 0, 0, 0)]
set_option maxRecDepth 20000 in
theorem hX10_isKey_21 : zChk false 10 cX10_isKey 21 bX10_isKey_21 = true := by decide +kernel
def bX10_isSign_0 : List zI := [(.aload_n 0, 1, 0, 0, 0), (.getfield 196, 3, 10, 8, 0), (.iconst 4, 1, 0, 0, 0), (.if_icmp .ne 15, 3, 20, 0, 0), (.aload_n 0, 1, 0, 0, 0), (.getfield 207, 3, 10, 9, 0), (.iload_n 1, 1, 0, 0, 0), (.if_icmp .ne 7, 3, 20, 0, 0), (.iconst 1, 1, 0, 0, 0), (.goto 4, 3, 21, 0, 0)]
set_option maxRecDepth 20000 in
theorem hX10_isSign_0 : zChk false 10 cX10_isSign 0 bX10_isSign_0 = true := by decide +kernel
def bX10_isSign_20 : List zI := [(.iconst 0, 1, 0, 0, 0), (.ireturn, 1, 0, 0, 0)]
set_option maxRecDepth 20000 in
theorem hX10_isSign_20 : zChk false 10 cX10_isSign 20 bX10_isSign_20 = true := by decide +kernel
def bX10_isSign_21 : List zI := [(.ireturn, 1, 0, 0, 0)]
set_option maxRecDepth 20000 in
theorem hX10_isSign_21 : zChk false 10 cX10_isSign 21 bX10_isSign_21 = true := by decide +kernel
def bX10_copies_0 : List zI := [(.iconst 0, 1, 0, 0, 0), (.istore_n 2, 1, 0, 0, 0)]
set_option maxRecDepth 20000 in
theorem hX10_copies_0 : zChk false 10 cX10_copies 0 bX10_copies_0 = true := by decide +kernel
def bX10_copies_2 : List zI := [(.iload_n 2, 1, 0, 0, 0), (.iload_n 1, 1, 0, 0, 0), (.if_icmp .ge 17, 3, 21, 0, 0), (.aload_n 0, 1, 0, 0, 0), (.iload_n 2, 1, 0, 0, 0), (.aload_n 0, 1, 0, 0, 0), (.iload_n 1, 1, 0, 0, 0), (.iload_n 2, 1, 0, 0, 0), (.iadd, 1, 0, 0, 0), (.iaload, 1, 0, 0, 0), (.iastore, 1, 0, 0, 0), (.iinc 2 1, 3, 0, 0, 0), (.goto (-16), 3, 2, 0, 0)]
set_option maxRecDepth 20000 in
theorem hX10_copies_2 : zChk false 10 cX10_copies 2 bX10_copies_2 = true := by decide +kernel
def bX10_copies_21 : List zI := [(.return_, 1, 0, 0, 0)]
set_option maxRecDepth 20000 in
theorem hX10_copies_21 : zChk false 10 cX10_copies 21 bX10_copies_21 = true := by decide +kernel
def bX10_keepText_0 : List zI := [(.aload_n 0, 1, 0, 0, 0), (.aload_n 0, 1, 0, 0, 0), (.getfield 240, 3, 10, 18, 0), (.putfield 261, 3, 10, 12, 0), (.aload_n 0, 1, 0, 0, 0), (.aload_n 0, 1, 0, 0, 0), (.getfield 243, 3, 10, 19, 0), (.putfield 264, 3, 10, 13, 0), (.aload_n 0, 1, 0, 0, 0), (.aload_n 0, 1, 0, 0, 0), (.getfield 246, 3, 10, 20, 0), (.putfield 267, 3, 10, 14, 0), (.aload_n 0, 1, 0, 0, 0), (.aload_n 0, 1, 0, 0, 0), (.getfield 249, 3, 10, 21, 0), (.putfield 270, 3, 10, 15, 0), (.aload_n 0, 1, 0, 0, 0), (.aload_n 0, 1, 0, 0, 0), (.getfield 252, 3, 10, 22, 0), (.putfield 273, 3, 10, 16, 0), (.aload_n 0, 1, 0, 0, 0), (.aload_n 0, 1, 0, 0, 0), (.getfield 255, 3, 10, 23, 0), (.putfield 276, 3, 10, 17, 0), (.aload_n 0, 1, 0, 0, 0), (.getfield 20, 3, 10, 24, 0), (.iconst 5, 1, 0, 0, 0)]
set_option maxRecDepth 20000 in
theorem hX10_keepText_0 : zChk false 10 cX10_keepText 0 bX10_keepText_0 = true := by decide +kernel
def bX10_keepText_56 : List zI := [(.aload_n 0, 1, 0, 0, 0), (.getfield 23, 3, 10, 25, 0), (.iconst 5, 1, 0, 0, 0)]
set_option maxRecDepth 20000 in
theorem hX10_keepText_56 : zChk false 10 cX10_keepText 56 bX10_keepText_56 = true := by decide +kernel
def bX10_keepText_64 : List zI := [(.aload_n 0, 1, 0, 0, 0), (.getfield 26, 3, 10, 26, 0), (.iconst 5, 1, 0, 0, 0)]
set_option maxRecDepth 20000 in
theorem hX10_keepText_64 : zChk false 10 cX10_keepText 64 bX10_keepText_64 = true := by decide +kernel
def bX10_keepText_72 : List zI := [(.aload_n 0, 1, 0, 0, 0), (.getfield 29, 3, 10, 27, 0), (.iconst 5, 1, 0, 0, 0)]
set_option maxRecDepth 20000 in
theorem hX10_keepText_72 : zChk false 10 cX10_keepText 72 bX10_keepText_72 = true := by decide +kernel
def bX10_keepText_80 : List zI := [(.aload_n 0, 1, 0, 0, 0), (.getfield 32, 3, 10, 28, 0), (.bipush 16, 2, 0, 0, 0)]
set_option maxRecDepth 20000 in
theorem hX10_keepText_80 : zChk false 10 cX10_keepText 80 bX10_keepText_80 = true := by decide +kernel
def bX10_keepText_89 : List zI := [(.aload_n 0, 1, 0, 0, 0), (.getfield 35, 3, 10, 29, 0), (.bipush 16, 2, 0, 0, 0)]
set_option maxRecDepth 20000 in
theorem hX10_keepText_89 : zChk false 10 cX10_keepText 89 bX10_keepText_89 = true := by decide +kernel
def bX10_keepText_98 : List zI := [(.aload_n 0, 1, 0, 0, 0), (.getfield 38, 3, 10, 30, 0), (.bipush 12, 2, 0, 0, 0)]
set_option maxRecDepth 20000 in
theorem hX10_keepText_98 : zChk false 10 cX10_keepText 98 bX10_keepText_98 = true := by decide +kernel
def bX10_keepText_107 : List zI := [(.aload_n 0, 1, 0, 0, 0), (.getfield 41, 3, 10, 31, 0), (.bipush 12, 2, 0, 0, 0)]
set_option maxRecDepth 20000 in
theorem hX10_keepText_107 : zChk false 10 cX10_keepText 107 bX10_keepText_107 = true := by decide +kernel
def bX10_keepText_116 : List zI := [(.aload_n 0, 1, 0, 0, 0), (.getfield 44, 3, 10, 32, 0), (.iconst 2, 1, 0, 0, 0)]
set_option maxRecDepth 20000 in
theorem hX10_keepText_116 : zChk false 10 cX10_keepText 116 bX10_keepText_116 = true := by decide +kernel
def bX10_keepText_124 : List zI := [(.aload_n 0, 1, 0, 0, 0), (.getfield 47, 3, 10, 33, 0), (.iconst 2, 1, 0, 0, 0)]
set_option maxRecDepth 20000 in
theorem hX10_keepText_124 : zChk false 10 cX10_keepText 124 bX10_keepText_124 = true := by decide +kernel
def bX10_keepText_132 : List zI := [(.aload_n 0, 1, 0, 0, 0), (.getfield 50, 3, 10, 34, 0), (.iconst 2, 1, 0, 0, 0)]
set_option maxRecDepth 20000 in
theorem hX10_keepText_132 : zChk false 10 cX10_keepText 132 bX10_keepText_132 = true := by decide +kernel
def bX10_keepText_140 : List zI := [(.aload_n 0, 1, 0, 0, 0), (.getfield 53, 3, 10, 35, 0), (.iconst 4, 1, 0, 0, 0)]
set_option maxRecDepth 20000 in
theorem hX10_keepText_140 : zChk false 10 cX10_keepText 140 bX10_keepText_140 = true := by decide +kernel
def bX10_keepText_148 : List zI := [(.aload_n 0, 1, 0, 0, 0), (.getfield 56, 3, 10, 36, 0), (.bipush 16, 2, 0, 0, 0)]
set_option maxRecDepth 20000 in
theorem hX10_keepText_148 : zChk false 10 cX10_keepText 148 bX10_keepText_148 = true := by decide +kernel
def bX10_keepText_157 : List zI := [(.iconst 0, 1, 0, 0, 0), (.istore_n 1, 1, 0, 0, 0)]
set_option maxRecDepth 20000 in
theorem hX10_keepText_157 : zChk false 10 cX10_keepText 157 bX10_keepText_157 = true := by decide +kernel
def bX10_keepText_159 : List zI := [(.iload_n 1, 1, 0, 0, 0), (.iconst 3, 1, 0, 0, 0), (.if_icmp .ge 23, 3, 184, 0, 0), (.aload_n 0, 1, 0, 0, 0), (.getfield 63, 3, 10, 38, 0), (.iload_n 1, 1, 0, 0, 0), (.aload_n 0, 1, 0, 0, 0), (.getfield 63, 3, 10, 38, 0), (.iconst 3, 1, 0, 0, 0), (.iload_n 1, 1, 0, 0, 0), (.iadd, 1, 0, 0, 0), (.baload, 1, 0, 0, 0), (.bastore, 1, 0, 0, 0), (.iinc 1 1, 3, 0, 0, 0), (.goto (-22), 3, 159, 0, 0)]
set_option maxRecDepth 20000 in
theorem hX10_keepText_159 : zChk false 10 cX10_keepText 159 bX10_keepText_159 = true := by decide +kernel
def bX10_keepText_184 : List zI := [(.aload_n 0, 1, 0, 0, 0), (.getfield 66, 3, 10, 39, 0), (.iconst 3, 1, 0, 0, 0)]
set_option maxRecDepth 20000 in
theorem hX10_keepText_184 : zChk false 10 cX10_keepText 184 bX10_keepText_184 = true := by decide +kernel
def bX10_keepText_192 : List zI := [(.aload_n 0, 1, 0, 0, 0), (.getfield 69, 3, 10, 40, 0), (.iconst 3, 1, 0, 0, 0)]
set_option maxRecDepth 20000 in
theorem hX10_keepText_192 : zChk false 10 cX10_keepText 192 bX10_keepText_192 = true := by decide +kernel
def bX10_keepText_200 : List zI := [(.aload_n 0, 1, 0, 0, 0), (.getfield 72, 3, 10, 41, 0), (.bipush 64, 2, 0, 0, 0)]
set_option maxRecDepth 20000 in
theorem hX10_keepText_200 : zChk false 10 cX10_keepText 200 bX10_keepText_200 = true := by decide +kernel
def bX10_keepText_209 : List zI := [(.aload_n 0, 1, 0, 0, 0), (.getfield 75, 3, 10, 42, 0), (.bipush 64, 2, 0, 0, 0)]
set_option maxRecDepth 20000 in
theorem hX10_keepText_209 : zChk false 10 cX10_keepText 209 bX10_keepText_209 = true := by decide +kernel
def bX10_keepText_218 : List zI := [(.aload_n 0, 1, 0, 0, 0), (.getfield 78, 3, 10, 43, 0), (.bipush 64, 2, 0, 0, 0)]
set_option maxRecDepth 20000 in
theorem hX10_keepText_218 : zChk false 10 cX10_keepText 218 bX10_keepText_218 = true := by decide +kernel
def bX10_keepText_227 : List zI := [(.aload_n 0, 1, 0, 0, 0)]
set_option maxRecDepth 20000 in
theorem hX10_keepText_227 : zChk false 10 cX10_keepText 227 bX10_keepText_227 = true := by decide +kernel
def bX10_keepText_231 : List zI := [(.return_, 1, 0, 0, 0)]
set_option maxRecDepth 20000 in
theorem hX10_keepText_231 : zChk false 10 cX10_keepText 231 bX10_keepText_231 = true := by decide +kernel
def bX10_find_0 : List zI := [(.iconst 0, 1, 0, 0, 0), (.istore 4, 2, 0, 0, 0)]
set_option maxRecDepth 20000 in
theorem hX10_find_0 : zChk false 10 cX10_find 0 bX10_find_0 = true := by decide +kernel
def bX10_find_3 : List zI := [(.iload 4, 2, 0, 0, 0), (.iload_n 2, 1, 0, 0, 0), (.if_icmp .ge 22, 3, 28, 0, 0), (.aload_n 0, 1, 0, 0, 0), (.iload_n 1, 1, 0, 0, 0), (.iload 4, 2, 0, 0, 0), (.iadd, 1, 0, 0, 0), (.iaload, 1, 0, 0, 0), (.iload_n 3, 1, 0, 0, 0), (.if_icmp .ne 6, 3, 22, 0, 0), (.iload 4, 2, 0, 0, 0), (.ireturn, 1, 0, 0, 0)]
set_option maxRecDepth 20000 in
theorem hX10_find_3 : zChk false 10 cX10_find 3 bX10_find_3 = true := by decide +kernel
def bX10_find_22 : List zI := [(.iinc 4 1, 3, 0, 0, 0), (.goto (-22), 3, 3, 0, 0)]
set_option maxRecDepth 20000 in
theorem hX10_find_22 : zChk false 10 cX10_find 22 bX10_find_22 = true := by decide +kernel
def bX10_find_28 : List zI := [(.iconst (-1), 1, 0, 0, 0), (.ireturn, 1, 0, 0, 0)]
set_option maxRecDepth 20000 in
theorem hX10_find_28 : zChk false 10 cX10_find 28 bX10_find_28 = true := by decide +kernel
def bX10_comeLine_0 : List zI := [(.aload_n 0, 1, 0, 0, 0), (.getfield 243, 3, 10, 19, 0), (.bipush 16, 2, 0, 0, 0), (.if_icmp .ne 9, 3, 15, 0, 0), (.aload_n 0, 1, 0, 0, 0), (.iconst 2, 1, 0, 0, 0)]
set_option maxRecDepth 20000 in
theorem hX10_comeLine_0 : zChk false 10 cX10_comeLine 0 bX10_comeLine_0 = true := by decide +kernel
def bX10_comeLine_14 : List zI := [(.ireturn, 1, 0, 0, 0)]
set_option maxRecDepth 20000 in
theorem hX10_comeLine_14 : zChk false 10 cX10_comeLine 14 bX10_comeLine_14 = true := by decide +kernel
def bX10_comeLine_15 : List zI := [(.aload_n 0, 1, 0, 0, 0)]
set_option maxRecDepth 20000 in
theorem hX10_comeLine_15 : zChk false 10 cX10_comeLine 15 bX10_comeLine_15 = true := by decide +kernel
def bX10_comeLine_19 : List zI := [(.aload_n 0, 1, 0, 0, 0), (.iconst 0, 1, 0, 0, 0), (.bipush 95, 2, 0, 0, 0)]
set_option maxRecDepth 20000 in
theorem hX10_comeLine_19 : zChk false 10 cX10_comeLine 19 bX10_comeLine_19 = true := by decide +kernel
def bX10_comeLine_26 : List zI := [(.ifCond .ne 5, 3, 31, 0, 0), (.iconst 0, 1, 0, 0, 0), (.ireturn, 1, 0, 0, 0)]
set_option maxRecDepth 20000 in
theorem hX10_comeLine_26 : zChk false 10 cX10_comeLine 26 bX10_comeLine_26 = true := by decide +kernel
def bX10_comeLine_31 : List zI := [(.aload_n 0, 1, 0, 0, 0), (.getfield 32, 3, 10, 28, 0), (.bipush 16, 2, 0, 0, 0), (.aload_n 0, 1, 0, 0, 0), (.getfield 243, 3, 10, 19, 0), (.iadd, 1, 0, 0, 0), (.aload_n 0, 1, 0, 0, 0), (.getfield 227, 3, 10, 11, 0), (.iastore, 1, 0, 0, 0), (.aload_n 0, 1, 0, 0, 0), (.iconst 1, 1, 0, 0, 0), (.bipush 20, 2, 0, 0, 0)]
set_option maxRecDepth 20000 in
theorem hX10_comeLine_31 : zChk false 10 cX10_comeLine 31 bX10_comeLine_31 = true := by decide +kernel
def bX10_comeLine_54 : List zI := [(.ifCond .ne 5, 3, 59, 0, 0), (.iconst 0, 1, 0, 0, 0), (.ireturn, 1, 0, 0, 0)]
set_option maxRecDepth 20000 in
theorem hX10_comeLine_54 : zChk false 10 cX10_comeLine 54 bX10_comeLine_54 = true := by decide +kernel
def bX10_comeLine_59 : List zI := [(.aload_n 0, 1, 0, 0, 0), (.getfield 35, 3, 10, 29, 0), (.bipush 16, 2, 0, 0, 0), (.aload_n 0, 1, 0, 0, 0), (.getfield 243, 3, 10, 19, 0), (.iadd, 1, 0, 0, 0), (.aload_n 0, 1, 0, 0, 0), (.getfield 227, 3, 10, 11, 0), (.iastore, 1, 0, 0, 0), (.aload_n 0, 1, 0, 0, 0), (.dup, 1, 0, 0, 0), (.getfield 243, 3, 10, 19, 0), (.iconst 1, 1, 0, 0, 0), (.iadd, 1, 0, 0, 0), (.putfield 243, 3, 10, 19, 0), (.iconst 1, 1, 0, 0, 0), (.ireturn, 1, 0, 0, 0)]
set_option maxRecDepth 20000 in
theorem hX10_comeLine_59 : zChk false 10 cX10_comeLine 59 bX10_comeLine_59 = true := by decide +kernel
def bX10_bandLine_0 : List zI := [(.aload_n 0, 1, 0, 0, 0), (.getfield 249, 3, 10, 21, 0), (.iconst 2, 1, 0, 0, 0), (.if_icmp .ne 9, 3, 14, 0, 0), (.aload_n 0, 1, 0, 0, 0), (.iconst 2, 1, 0, 0, 0)]
set_option maxRecDepth 20000 in
theorem hX10_bandLine_0 : zChk false 10 cX10_bandLine 0 bX10_bandLine_0 = true := by decide +kernel
def bX10_bandLine_13 : List zI := [(.ireturn, 1, 0, 0, 0)]
set_option maxRecDepth 20000 in
theorem hX10_bandLine_13 : zChk false 10 cX10_bandLine 13 bX10_bandLine_13 = true := by decide +kernel
def bX10_bandLine_14 : List zI := [(.aload_n 0, 1, 0, 0, 0)]
set_option maxRecDepth 20000 in
theorem hX10_bandLine_14 : zChk false 10 cX10_bandLine 14 bX10_bandLine_14 = true := by decide +kernel
def bX10_bandLine_18 : List zI := [(.aload_n 0, 1, 0, 0, 0), (.getfield 196, 3, 10, 8, 0), (.iconst 2, 1, 0, 0, 0), (.if_icmp .eq 9, 3, 32, 0, 0), (.aload_n 0, 1, 0, 0, 0), (.iconst 1, 1, 0, 0, 0)]
set_option maxRecDepth 20000 in
theorem hX10_bandLine_18 : zChk false 10 cX10_bandLine 18 bX10_bandLine_18 = true := by decide +kernel
def bX10_bandLine_31 : List zI := [(.ireturn, 1, 0, 0, 0)]
set_option maxRecDepth 20000 in
theorem hX10_bandLine_31 : zChk false 10 cX10_bandLine 31 bX10_bandLine_31 = true := by decide +kernel
def bX10_bandLine_32 : List zI := [(.aload_n 0, 1, 0, 0, 0), (.getfield 44, 3, 10, 32, 0), (.iconst 2, 1, 0, 0, 0), (.aload_n 0, 1, 0, 0, 0), (.getfield 249, 3, 10, 21, 0), (.iadd, 1, 0, 0, 0), (.aload_n 0, 1, 0, 0, 0), (.getfield 20, 3, 10, 24, 0), (.iconst 5, 1, 0, 0, 0), (.aload_n 0, 1, 0, 0, 0), (.getfield 240, 3, 10, 18, 0), (.aload_n 0, 1, 0, 0, 0), (.getfield 207, 3, 10, 9, 0)]
set_option maxRecDepth 20000 in
theorem hX10_bandLine_32 : zChk false 10 cX10_bandLine 32 bX10_bandLine_32 = true := by decide +kernel
def bX10_bandLine_58 : List zI := [(.iastore, 1, 0, 0, 0), (.aload_n 0, 1, 0, 0, 0), (.getfield 44, 3, 10, 32, 0), (.iconst 2, 1, 0, 0, 0), (.aload_n 0, 1, 0, 0, 0), (.getfield 249, 3, 10, 21, 0), (.iadd, 1, 0, 0, 0), (.iaload, 1, 0, 0, 0), (.ifCond .ge 9, 3, 79, 0, 0), (.aload_n 0, 1, 0, 0, 0), (.iconst 4, 1, 0, 0, 0)]
set_option maxRecDepth 20000 in
theorem hX10_bandLine_58 : zChk false 10 cX10_bandLine 58 bX10_bandLine_58 = true := by decide +kernel
def bX10_bandLine_78 : List zI := [(.ireturn, 1, 0, 0, 0)]
set_option maxRecDepth 20000 in
theorem hX10_bandLine_78 : zChk false 10 cX10_bandLine 78 bX10_bandLine_78 = true := by decide +kernel
def bX10_bandLine_79 : List zI := [(.aload_n 0, 1, 0, 0, 0)]
set_option maxRecDepth 20000 in
theorem hX10_bandLine_79 : zChk false 10 cX10_bandLine 79 bX10_bandLine_79 = true := by decide +kernel
def bX10_bandLine_83 : List zI := [(.aload_n 0, 1, 0, 0, 0), (.iconst 0, 1, 0, 0, 0), (.bipush 95, 2, 0, 0, 0)]
set_option maxRecDepth 20000 in
theorem hX10_bandLine_83 : zChk false 10 cX10_bandLine 83 bX10_bandLine_83 = true := by decide +kernel
def bX10_bandLine_90 : List zI := [(.ifCond .ne 5, 3, 95, 0, 0), (.iconst 0, 1, 0, 0, 0), (.ireturn, 1, 0, 0, 0)]
set_option maxRecDepth 20000 in
theorem hX10_bandLine_90 : zChk false 10 cX10_bandLine 90 bX10_bandLine_90 = true := by decide +kernel
def bX10_bandLine_95 : List zI := [(.aload_n 0, 1, 0, 0, 0), (.getfield 47, 3, 10, 33, 0), (.iconst 2, 1, 0, 0, 0), (.aload_n 0, 1, 0, 0, 0), (.getfield 249, 3, 10, 21, 0), (.iadd, 1, 0, 0, 0), (.aload_n 0, 1, 0, 0, 0), (.getfield 227, 3, 10, 11, 0), (.iastore, 1, 0, 0, 0), (.aload_n 0, 1, 0, 0, 0), (.aload_n 0, 1, 0, 0, 0), (.getfield 227, 3, 10, 11, 0), (.bipush 95, 2, 0, 0, 0)]
set_option maxRecDepth 20000 in
theorem hX10_bandLine_95 : zChk false 10 cX10_bandLine 95 bX10_bandLine_95 = true := by decide +kernel
def bX10_bandLine_120 : List zI := [(.ifCond .ne 5, 3, 125, 0, 0), (.iconst 0, 1, 0, 0, 0), (.ireturn, 1, 0, 0, 0)]
set_option maxRecDepth 20000 in
theorem hX10_bandLine_120 : zChk false 10 cX10_bandLine 120 bX10_bandLine_120 = true := by decide +kernel
def bX10_bandLine_125 : List zI := [(.aload_n 0, 1, 0, 0, 0), (.getfield 50, 3, 10, 34, 0), (.iconst 2, 1, 0, 0, 0), (.aload_n 0, 1, 0, 0, 0), (.getfield 249, 3, 10, 21, 0), (.iadd, 1, 0, 0, 0), (.aload_n 0, 1, 0, 0, 0), (.getfield 227, 3, 10, 11, 0), (.iastore, 1, 0, 0, 0), (.aload_n 0, 1, 0, 0, 0), (.dup, 1, 0, 0, 0), (.getfield 249, 3, 10, 21, 0), (.iconst 1, 1, 0, 0, 0), (.iadd, 1, 0, 0, 0), (.putfield 249, 3, 10, 21, 0), (.iconst 1, 1, 0, 0, 0), (.ireturn, 1, 0, 0, 0)]
set_option maxRecDepth 20000 in
theorem hX10_bandLine_125 : zChk false 10 cX10_bandLine 125 bX10_bandLine_125 = true := by decide +kernel
def bX10_lawLine_0 : List zI := [(.aload_n 0, 1, 0, 0, 0)]
set_option maxRecDepth 20000 in
theorem hX10_lawLine_0 : zChk false 10 cX10_lawLine 0 bX10_lawLine_0 = true := by decide +kernel
def bX10_lawLine_4 : List zI := [(.aload_n 0, 1, 0, 0, 0), (.getfield 196, 3, 10, 8, 0), (.iconst 1, 1, 0, 0, 0), (.if_icmp .ne 21, 3, 30, 0, 0), (.aload_n 0, 1, 0, 0, 0), (.getfield 207, 3, 10, 9, 0), (.bipush 14, 2, 0, 0, 0), (.if_icmp .lt 12, 3, 30, 0, 0), (.aload_n 0, 1, 0, 0, 0), (.getfield 207, 3, 10, 9, 0), (.bipush 16, 2, 0, 0, 0), (.if_icmp .le 9, 3, 36, 0, 0), (.aload_n 0, 1, 0, 0, 0), (.iconst 1, 1, 0, 0, 0)]
set_option maxRecDepth 20000 in
theorem hX10_lawLine_4 : zChk false 10 cX10_lawLine 4 bX10_lawLine_4 = true := by decide +kernel
def bX10_lawLine_30 : List zI := [(.aload_n 0, 1, 0, 0, 0), (.iconst 1, 1, 0, 0, 0)]
set_option maxRecDepth 20000 in
theorem hX10_lawLine_30 : zChk false 10 cX10_lawLine 30 bX10_lawLine_30 = true := by decide +kernel
def bX10_lawLine_35 : List zI := [(.ireturn, 1, 0, 0, 0)]
set_option maxRecDepth 20000 in
theorem hX10_lawLine_35 : zChk false 10 cX10_lawLine 35 bX10_lawLine_35 = true := by decide +kernel
def bX10_lawLine_36 : List zI := [(.iconst 3, 1, 0, 0, 0), (.aload_n 0, 1, 0, 0, 0), (.getfield 207, 3, 10, 9, 0), (.iadd, 1, 0, 0, 0), (.bipush 14, 2, 0, 0, 0), (.isub, 1, 0, 0, 0), (.istore_n 1, 1, 0, 0, 0), (.aload_n 0, 1, 0, 0, 0), (.getfield 63, 3, 10, 38, 0), (.iload_n 1, 1, 0, 0, 0), (.baload, 1, 0, 0, 0), (.ifCond .eq 9, 3, 61, 0, 0), (.aload_n 0, 1, 0, 0, 0), (.iconst 3, 1, 0, 0, 0)]
set_option maxRecDepth 20000 in
theorem hX10_lawLine_36 : zChk false 10 cX10_lawLine 36 bX10_lawLine_36 = true := by decide +kernel
def bX10_lawLine_60 : List zI := [(.ireturn, 1, 0, 0, 0)]
set_option maxRecDepth 20000 in
theorem hX10_lawLine_60 : zChk false 10 cX10_lawLine 60 bX10_lawLine_60 = true := by decide +kernel
def bX10_lawLine_61 : List zI := [(.aload_n 0, 1, 0, 0, 0), (.getfield 63, 3, 10, 38, 0), (.iload_n 1, 1, 0, 0, 0), (.iconst 1, 1, 0, 0, 0), (.bastore, 1, 0, 0, 0), (.aload_n 0, 1, 0, 0, 0)]
set_option maxRecDepth 20000 in
theorem hX10_lawLine_61 : zChk false 10 cX10_lawLine 61 bX10_lawLine_61 = true := by decide +kernel
def bX10_lawLine_72 : List zI := [(.aload_n 0, 1, 0, 0, 0), (.getfield 66, 3, 10, 39, 0), (.iload_n 1, 1, 0, 0, 0), (.aload_n 0, 1, 0, 0, 0), (.getfield 255, 3, 10, 23, 0), (.iastore, 1, 0, 0, 0), (.aload_n 0, 1, 0, 0, 0)]
set_option maxRecDepth 20000 in
theorem hX10_lawLine_72 : zChk false 10 cX10_lawLine 72 bX10_lawLine_72 = true := by decide +kernel
def bX10_lawLine_86 : List zI := [(.ifCond .ne 5, 3, 91, 0, 0), (.iconst 0, 1, 0, 0, 0), (.ireturn, 1, 0, 0, 0)]
set_option maxRecDepth 20000 in
theorem hX10_lawLine_86 : zChk false 10 cX10_lawLine 86 bX10_lawLine_86 = true := by decide +kernel
def bX10_lawLine_91 : List zI := [(.aload_n 0, 1, 0, 0, 0), (.getfield 69, 3, 10, 40, 0), (.iload_n 1, 1, 0, 0, 0), (.aload_n 0, 1, 0, 0, 0), (.getfield 255, 3, 10, 23, 0), (.iastore, 1, 0, 0, 0), (.iconst 1, 1, 0, 0, 0), (.ireturn, 1, 0, 0, 0)]
set_option maxRecDepth 20000 in
theorem hX10_lawLine_91 : zChk false 10 cX10_lawLine 91 bX10_lawLine_91 = true := by decide +kernel
def bX10_lineRead_0 : List zI := [(.aload_n 0, 1, 0, 0, 0), (.getfield 196, 3, 10, 8, 0), (.iconst 1, 1, 0, 0, 0), (.if_icmp .ne 12, 3, 17, 0, 0), (.aload_n 0, 1, 0, 0, 0), (.getfield 207, 3, 10, 9, 0), (.bipush 12, 2, 0, 0, 0), (.if_icmp .le 9, 3, 23, 0, 0), (.aload_n 0, 1, 0, 0, 0), (.iconst 1, 1, 0, 0, 0)]
set_option maxRecDepth 20000 in
theorem hX10_lineRead_0 : zChk false 10 cX10_lineRead 0 bX10_lineRead_0 = true := by decide +kernel
def bX10_lineRead_17 : List zI := [(.aload_n 0, 1, 0, 0, 0), (.iconst 1, 1, 0, 0, 0)]
set_option maxRecDepth 20000 in
theorem hX10_lineRead_17 : zChk false 10 cX10_lineRead 17 bX10_lineRead_17 = true := by decide +kernel
def bX10_lineRead_22 : List zI := [(.ireturn, 1, 0, 0, 0)]
set_option maxRecDepth 20000 in
theorem hX10_lineRead_22 : zChk false 10 cX10_lineRead 22 bX10_lineRead_22 = true := by decide +kernel
def bX10_lineRead_23 : List zI := [(.aload_n 0, 1, 0, 0, 0), (.getfield 207, 3, 10, 9, 0)]
set_option maxRecDepth 20000 in
theorem hX10_lineRead_23 : zChk false 10 cX10_lineRead 23 bX10_lineRead_23 = true := by decide +kernel
def bX10_lineRead_92 : List zI := [(.aload_n 0, 1, 0, 0, 0)]
set_option maxRecDepth 20000 in
theorem hX10_lineRead_92 : zChk false 10 cX10_lineRead 92 bX10_lineRead_92 = true := by decide +kernel
def bX10_lineRead_96 : List zI := [(.istore_n 1, 1, 0, 0, 0), (.goto 97, 3, 194, 0, 0)]
set_option maxRecDepth 20000 in
theorem hX10_lineRead_96 : zChk false 10 cX10_lineRead 96 bX10_lineRead_96 = true := by decide +kernel
def bX10_lineRead_100 : List zI := [(.aload_n 0, 1, 0, 0, 0)]
set_option maxRecDepth 20000 in
theorem hX10_lineRead_100 : zChk false 10 cX10_lineRead 100 bX10_lineRead_100 = true := by decide +kernel
def bX10_lineRead_104 : List zI := [(.istore_n 1, 1, 0, 0, 0), (.goto 89, 3, 194, 0, 0)]
set_option maxRecDepth 20000 in
theorem hX10_lineRead_104 : zChk false 10 cX10_lineRead 104 bX10_lineRead_104 = true := by decide +kernel
def bX10_lineRead_108 : List zI := [(.aload_n 0, 1, 0, 0, 0)]
set_option maxRecDepth 20000 in
theorem hX10_lineRead_108 : zChk false 10 cX10_lineRead 108 bX10_lineRead_108 = true := by decide +kernel
def bX10_lineRead_112 : List zI := [(.istore_n 1, 1, 0, 0, 0), (.goto 81, 3, 194, 0, 0)]
set_option maxRecDepth 20000 in
theorem hX10_lineRead_112 : zChk false 10 cX10_lineRead 112 bX10_lineRead_112 = true := by decide +kernel
def bX10_lineRead_116 : List zI := [(.aload_n 0, 1, 0, 0, 0)]
set_option maxRecDepth 20000 in
theorem hX10_lineRead_116 : zChk false 10 cX10_lineRead 116 bX10_lineRead_116 = true := by decide +kernel
def bX10_lineRead_120 : List zI := [(.istore_n 1, 1, 0, 0, 0), (.goto 73, 3, 194, 0, 0)]
set_option maxRecDepth 20000 in
theorem hX10_lineRead_120 : zChk false 10 cX10_lineRead 120 bX10_lineRead_120 = true := by decide +kernel
def bX10_lineRead_124 : List zI := [(.aload_n 0, 1, 0, 0, 0), (.getfield 252, 3, 10, 22, 0), (.iconst 4, 1, 0, 0, 0), (.if_icmp .ne 9, 3, 138, 0, 0), (.aload_n 0, 1, 0, 0, 0), (.iconst 2, 1, 0, 0, 0)]
set_option maxRecDepth 20000 in
theorem hX10_lineRead_124 : zChk false 10 cX10_lineRead 124 bX10_lineRead_124 = true := by decide +kernel
def bX10_lineRead_137 : List zI := [(.ireturn, 1, 0, 0, 0)]
set_option maxRecDepth 20000 in
theorem hX10_lineRead_137 : zChk false 10 cX10_lineRead 137 bX10_lineRead_137 = true := by decide +kernel
def bX10_lineRead_138 : List zI := [(.aload_n 0, 1, 0, 0, 0)]
set_option maxRecDepth 20000 in
theorem hX10_lineRead_138 : zChk false 10 cX10_lineRead 138 bX10_lineRead_138 = true := by decide +kernel
def bX10_lineRead_142 : List zI := [(.aload_n 0, 1, 0, 0, 0), (.aload_n 0, 1, 0, 0, 0), (.getfield 53, 3, 10, 35, 0), (.iconst 4, 1, 0, 0, 0), (.aload_n 0, 1, 0, 0, 0), (.getfield 252, 3, 10, 22, 0)]
set_option maxRecDepth 20000 in
theorem hX10_lineRead_142 : zChk false 10 cX10_lineRead 142 bX10_lineRead_142 = true := by decide +kernel
def bX10_lineRead_155 : List zI := [(.istore_n 1, 1, 0, 0, 0), (.aload_n 0, 1, 0, 0, 0), (.dup, 1, 0, 0, 0), (.getfield 252, 3, 10, 22, 0), (.iload_n 1, 1, 0, 0, 0), (.ifCond .eq 7, 3, 169, 0, 0), (.iconst 1, 1, 0, 0, 0), (.goto 4, 3, 170, 0, 0)]
set_option maxRecDepth 20000 in
theorem hX10_lineRead_155 : zChk false 10 cX10_lineRead 155 bX10_lineRead_155 = true := by decide +kernel
def bX10_lineRead_169 : List zI := [(.iconst 0, 1, 0, 0, 0), (.iadd, 1, 0, 0, 0), (.putfield 252, 3, 10, 22, 0), (.goto 20, 3, 194, 0, 0)]
set_option maxRecDepth 20000 in
theorem hX10_lineRead_169 : zChk false 10 cX10_lineRead 169 bX10_lineRead_169 = true := by decide +kernel
def bX10_lineRead_170 : List zI := [(.iadd, 1, 0, 0, 0), (.putfield 252, 3, 10, 22, 0), (.goto 20, 3, 194, 0, 0)]
set_option maxRecDepth 20000 in
theorem hX10_lineRead_170 : zChk false 10 cX10_lineRead 170 bX10_lineRead_170 = true := by decide +kernel
def bX10_lineRead_177 : List zI := [(.aload_n 0, 1, 0, 0, 0)]
set_option maxRecDepth 20000 in
theorem hX10_lineRead_177 : zChk false 10 cX10_lineRead 177 bX10_lineRead_177 = true := by decide +kernel
def bX10_lineRead_181 : List zI := [(.istore_n 1, 1, 0, 0, 0), (.goto 12, 3, 194, 0, 0)]
set_option maxRecDepth 20000 in
theorem hX10_lineRead_181 : zChk false 10 cX10_lineRead 181 bX10_lineRead_181 = true := by decide +kernel
def bX10_lineRead_185 : List zI := [(.aload_n 0, 1, 0, 0, 0), (.aload_n 0, 1, 0, 0, 0), (.getfield 207, 3, 10, 9, 0)]
set_option maxRecDepth 20000 in
theorem hX10_lineRead_185 : zChk false 10 cX10_lineRead 185 bX10_lineRead_185 = true := by decide +kernel
def bX10_lineRead_193 : List zI := [(.istore_n 1, 1, 0, 0, 0), (.iload_n 1, 1, 0, 0, 0), (.ifCond .ne 5, 3, 200, 0, 0), (.iconst 0, 1, 0, 0, 0), (.ireturn, 1, 0, 0, 0)]
set_option maxRecDepth 20000 in
theorem hX10_lineRead_193 : zChk false 10 cX10_lineRead 193 bX10_lineRead_193 = true := by decide +kernel
def bX10_lineRead_194 : List zI := [(.iload_n 1, 1, 0, 0, 0), (.ifCond .ne 5, 3, 200, 0, 0), (.iconst 0, 1, 0, 0, 0), (.ireturn, 1, 0, 0, 0)]
set_option maxRecDepth 20000 in
theorem hX10_lineRead_194 : zChk false 10 cX10_lineRead 194 bX10_lineRead_194 = true := by decide +kernel
def bX10_lineRead_200 : List zI := [(.aload_n 0, 1, 0, 0, 0), (.bipush 59, 2, 0, 0, 0)]
set_option maxRecDepth 20000 in
theorem hX10_lineRead_200 : zChk false 10 cX10_lineRead 200 bX10_lineRead_200 = true := by decide +kernel
def bX10_lineRead_206 : List zI := [(.ifCond .ne 9, 3, 215, 0, 0), (.aload_n 0, 1, 0, 0, 0), (.iconst 1, 1, 0, 0, 0)]
set_option maxRecDepth 20000 in
theorem hX10_lineRead_206 : zChk false 10 cX10_lineRead 206 bX10_lineRead_206 = true := by decide +kernel
def bX10_lineRead_214 : List zI := [(.ireturn, 1, 0, 0, 0)]
set_option maxRecDepth 20000 in
theorem hX10_lineRead_214 : zChk false 10 cX10_lineRead 214 bX10_lineRead_214 = true := by decide +kernel
def bX10_lineRead_215 : List zI := [(.aload_n 0, 1, 0, 0, 0)]
set_option maxRecDepth 20000 in
theorem hX10_lineRead_215 : zChk false 10 cX10_lineRead 215 bX10_lineRead_215 = true := by decide +kernel
def bX10_lineRead_219 : List zI := [(.iconst 1, 1, 0, 0, 0), (.ireturn, 1, 0, 0, 0)]
set_option maxRecDepth 20000 in
theorem hX10_lineRead_219 : zChk false 10 cX10_lineRead 219 bX10_lineRead_219 = true := by decide +kernel
def bX10_fault_0 : List zI := [(.aload_n 0, 1, 0, 0, 0), (.iconst 0, 1, 0, 0, 0), (.putfield 178, 3, 10, 2, 0), (.iload_n 1, 1, 0, 0, 0), (.ifCond .ne 10, 3, 16, 0, 0), (.aload_n 0, 1, 0, 0, 0), (.getfield 184, 3, 10, 4, 0), (.goto 16, 3, 29, 0, 0)]
set_option maxRecDepth 20000 in
theorem hX10_fault_0 : zChk false 10 cX10_fault 0 bX10_fault_0 = true := by decide +kernel
def bX10_fault_16 : List zI := [(.iload_n 1, 1, 0, 0, 0), (.iconst 1, 1, 0, 0, 0), (.if_icmp .ne 10, 3, 28, 0, 0), (.aload_n 0, 1, 0, 0, 0), (.getfield 16, 3, 10, 5, 0), (.goto 4, 3, 29, 0, 0)]
set_option maxRecDepth 20000 in
theorem hX10_fault_16 : zChk false 10 cX10_fault 16 bX10_fault_16 = true := by decide +kernel
def bX10_fault_28 : List zI := [(.iconst (-1), 1, 0, 0, 0), (.ireturn, 1, 0, 0, 0)]
set_option maxRecDepth 20000 in
theorem hX10_fault_28 : zChk false 10 cX10_fault 28 bX10_fault_28 = true := by decide +kernel
def bX10_fault_29 : List zI := [(.ireturn, 1, 0, 0, 0)]
set_option maxRecDepth 20000 in
theorem hX10_fault_29 : zChk false 10 cX10_fault 29 bX10_fault_29 = true := by decide +kernel
def bX10_grown_0 : List zI := [(.aload_n 0, 1, 0, 0, 0), (.getfield 72, 3, 10, 41, 0), (.bipush 64, 2, 0, 0, 0), (.aload_n 0, 1, 0, 0, 0), (.getfield 255, 3, 10, 23, 0), (.iadd, 1, 0, 0, 0), (.iload_n 1, 1, 0, 0, 0), (.iastore, 1, 0, 0, 0), (.aload_n 0, 1, 0, 0, 0), (.getfield 75, 3, 10, 42, 0), (.bipush 64, 2, 0, 0, 0), (.aload_n 0, 1, 0, 0, 0), (.getfield 255, 3, 10, 23, 0), (.iadd, 1, 0, 0, 0), (.iload_n 2, 1, 0, 0, 0), (.iastore, 1, 0, 0, 0), (.aload_n 0, 1, 0, 0, 0), (.getfield 78, 3, 10, 43, 0), (.bipush 64, 2, 0, 0, 0), (.aload_n 0, 1, 0, 0, 0), (.getfield 255, 3, 10, 23, 0), (.iadd, 1, 0, 0, 0), (.iload_n 3, 1, 0, 0, 0), (.iastore, 1, 0, 0, 0), (.aload_n 0, 1, 0, 0, 0), (.getfield 84, 3, 10, 45, 0), (.aload_n 0, 1, 0, 0, 0), (.getfield 322, 3, 10, 47, 0), (.aload_n 0, 1, 0, 0, 0), (.getfield 255, 3, 10, 23, 0), (.iastore, 1, 0, 0, 0), (.aload_n 0, 1, 0, 0, 0), (.dup, 1, 0, 0, 0), (.getfield 322, 3, 10, 47, 0), (.iconst 1, 1, 0, 0, 0), (.iadd, 1, 0, 0, 0), (.putfield 322, 3, 10, 47, 0), (.aload_n 0, 1, 0, 0, 0), (.dup, 1, 0, 0, 0), (.getfield 255, 3, 10, 23, 0), (.iconst 1, 1, 0, 0, 0), (.iadd, 1, 0, 0, 0), (.putfield 255, 3, 10, 23, 0), (.return_, 1, 0, 0, 0)]
set_option maxRecDepth 20000 in
theorem hX10_grown_0 : zChk false 10 cX10_grown 0 bX10_grown_0 = true := by decide +kernel
def bX10_dropHeld_0 : List zI := [(.aload_n 0, 1, 0, 0, 0), (.dup, 1, 0, 0, 0), (.getfield 322, 3, 10, 47, 0), (.iconst 1, 1, 0, 0, 0), (.isub, 1, 0, 0, 0), (.putfield 322, 3, 10, 47, 0), (.aload_n 0, 1, 0, 0, 0), (.getfield 84, 3, 10, 45, 0), (.aload_n 0, 1, 0, 0, 0), (.getfield 322, 3, 10, 47, 0), (.iaload, 1, 0, 0, 0), (.ireturn, 1, 0, 0, 0)]
set_option maxRecDepth 20000 in
theorem hX10_dropHeld_0 : zChk false 10 cX10_dropHeld 0 bX10_dropHeld_0 = true := by decide +kernel
def bX10_bind_0 : List zI := [(.aload_n 0, 1, 0, 0, 0), (.getfield 325, 3, 10, 46, 0), (.ifCond .le 72, 3, 76, 0, 0), (.aload_n 0, 1, 0, 0, 0), (.getfield 81, 3, 10, 44, 0), (.aload_n 0, 1, 0, 0, 0), (.getfield 325, 3, 10, 46, 0), (.iconst 1, 1, 0, 0, 0), (.isub, 1, 0, 0, 0), (.iaload, 1, 0, 0, 0)]
set_option maxRecDepth 20000 in
theorem hX10_bind_0 : zChk false 10 cX10_bind 0 bX10_bind_0 = true := by decide +kernel
def bX10_bind_21 : List zI := [(.iload_n 1, 1, 0, 0, 0), (.if_icmp .lt 54, 3, 76, 0, 0), (.aload_n 0, 1, 0, 0, 0), (.dup, 1, 0, 0, 0), (.getfield 325, 3, 10, 46, 0), (.iconst 1, 1, 0, 0, 0), (.isub, 1, 0, 0, 0), (.putfield 325, 3, 10, 46, 0), (.aload_n 0, 1, 0, 0, 0), (.getfield 81, 3, 10, 44, 0), (.aload_n 0, 1, 0, 0, 0), (.getfield 325, 3, 10, 46, 0), (.iaload, 1, 0, 0, 0), (.istore_n 2, 1, 0, 0, 0), (.iload_n 2, 1, 0, 0, 0), (.iconst 2, 1, 0, 0, 0), (.if_icmp .ne 7, 3, 54, 0, 0), (.iconst (-1), 1, 0, 0, 0), (.goto 7, 3, 58, 0, 0)]
set_option maxRecDepth 20000 in
theorem hX10_bind_21 : zChk false 10 cX10_bind 21 bX10_bind_21 = true := by decide +kernel
def bX10_bind_54 : List zI := [(.aload_n 0, 1, 0, 0, 0)]
set_option maxRecDepth 20000 in
theorem hX10_bind_54 : zChk false 10 cX10_bind 54 bX10_bind_54 = true := by decide +kernel
def bX10_bind_58 : List zI := [(.istore_n 3, 1, 0, 0, 0), (.aload_n 0, 1, 0, 0, 0)]
set_option maxRecDepth 20000 in
theorem hX10_bind_58 : zChk false 10 cX10_bind 58 bX10_bind_58 = true := by decide +kernel
def bX10_bind_63 : List zI := [(.istore 4, 2, 0, 0, 0), (.aload_n 0, 1, 0, 0, 0), (.iload_n 2, 1, 0, 0, 0), (.iload 4, 2, 0, 0, 0), (.iload_n 3, 1, 0, 0, 0)]
set_option maxRecDepth 20000 in
theorem hX10_bind_63 : zChk false 10 cX10_bind 63 bX10_bind_63 = true := by decide +kernel
def bX10_bind_73 : List zI := [(.goto (-73), 3, 0, 0, 0)]
set_option maxRecDepth 20000 in
theorem hX10_bind_73 : zChk false 10 cX10_bind 73 bX10_bind_73 = true := by decide +kernel
def bX10_bind_76 : List zI := [(.return_, 1, 0, 0, 0)]
set_option maxRecDepth 20000 in
theorem hX10_bind_76 : zChk false 10 cX10_bind 76 bX10_bind_76 = true := by decide +kernel
def bX10_isCounted_0 : List zI := [(.aload_n 0, 1, 0, 0, 0), (.getfield 258, 3, 10, 49, 0), (.bipush 64, 2, 0, 0, 0), (.if_icmp .ne 9, 3, 15, 0, 0), (.aload_n 0, 1, 0, 0, 0), (.iconst 2, 1, 0, 0, 0)]
set_option maxRecDepth 20000 in
theorem hX10_isCounted_0 : zChk false 10 cX10_isCounted 0 bX10_isCounted_0 = true := by decide +kernel
def bX10_isCounted_14 : List zI := [(.ireturn, 1, 0, 0, 0)]
set_option maxRecDepth 20000 in
theorem hX10_isCounted_14 : zChk false 10 cX10_isCounted 14 bX10_isCounted_14 = true := by decide +kernel
def bX10_isCounted_15 : List zI := [(.aload_n 0, 1, 0, 0, 0), (.dup, 1, 0, 0, 0), (.getfield 258, 3, 10, 49, 0), (.iconst 1, 1, 0, 0, 0), (.iadd, 1, 0, 0, 0), (.putfield 258, 3, 10, 49, 0), (.iconst 1, 1, 0, 0, 0), (.ireturn, 1, 0, 0, 0)]
set_option maxRecDepth 20000 in
theorem hX10_isCounted_15 : zChk false 10 cX10_isCounted 15 bX10_isCounted_15 = true := by decide +kernel
def bX10_leafRead_0 : List zI := [(.aload_n 0, 1, 0, 0, 0), (.bipush 40, 2, 0, 0, 0)]
set_option maxRecDepth 20000 in
theorem hX10_leafRead_0 : zChk false 10 cX10_leafRead 0 bX10_leafRead_0 = true := by decide +kernel
def bX10_leafRead_6 : List zI := [(.ifCond .eq 44, 3, 50, 0, 0), (.aload_n 0, 1, 0, 0, 0), (.getfield 340, 3, 10, 48, 0), (.bipush 8, 2, 0, 0, 0), (.if_icmp .ne 9, 3, 24, 0, 0), (.aload_n 0, 1, 0, 0, 0), (.iconst 2, 1, 0, 0, 0)]
set_option maxRecDepth 20000 in
theorem hX10_leafRead_6 : zChk false 10 cX10_leafRead 6 bX10_leafRead_6 = true := by decide +kernel
def bX10_leafRead_23 : List zI := [(.ireturn, 1, 0, 0, 0)]
set_option maxRecDepth 20000 in
theorem hX10_leafRead_23 : zChk false 10 cX10_leafRead 23 bX10_leafRead_23 = true := by decide +kernel
def bX10_leafRead_24 : List zI := [(.aload_n 0, 1, 0, 0, 0), (.dup, 1, 0, 0, 0), (.getfield 340, 3, 10, 48, 0), (.iconst 1, 1, 0, 0, 0), (.iadd, 1, 0, 0, 0), (.putfield 340, 3, 10, 48, 0), (.aload_n 0, 1, 0, 0, 0), (.iconst 0, 1, 0, 0, 0)]
set_option maxRecDepth 20000 in
theorem hX10_leafRead_24 : zChk false 10 cX10_leafRead 24 bX10_leafRead_24 = true := by decide +kernel
def bX10_leafRead_39 : List zI := [(.aload_n 0, 1, 0, 0, 0), (.iconst 1, 1, 0, 0, 0), (.putfield 347, 3, 10, 51, 0), (.aload_n 0, 1, 0, 0, 0)]
set_option maxRecDepth 20000 in
theorem hX10_leafRead_39 : zChk false 10 cX10_leafRead 39 bX10_leafRead_39 = true := by decide +kernel
def bX10_leafRead_48 : List zI := [(.iconst 1, 1, 0, 0, 0), (.ireturn, 1, 0, 0, 0)]
set_option maxRecDepth 20000 in
theorem hX10_leafRead_48 : zChk false 10 cX10_leafRead 48 bX10_leafRead_48 = true := by decide +kernel
def bX10_leafRead_50 : List zI := [(.aload_n 0, 1, 0, 0, 0), (.bipush 19, 2, 0, 0, 0)]
set_option maxRecDepth 20000 in
theorem hX10_leafRead_50 : zChk false 10 cX10_leafRead 50 bX10_leafRead_50 = true := by decide +kernel
def bX10_leafRead_56 : List zI := [(.ifCond .eq 30, 3, 86, 0, 0), (.aload_n 0, 1, 0, 0, 0), (.getfield 347, 3, 10, 51, 0), (.ifCond .eq 23, 3, 86, 0, 0), (.aload_n 0, 1, 0, 0, 0)]
set_option maxRecDepth 20000 in
theorem hX10_leafRead_56 : zChk false 10 cX10_leafRead 56 bX10_leafRead_56 = true := by decide +kernel
def bX10_leafRead_70 : List zI := [(.ifCond .ne 5, 3, 75, 0, 0), (.iconst 0, 1, 0, 0, 0), (.ireturn, 1, 0, 0, 0)]
set_option maxRecDepth 20000 in
theorem hX10_leafRead_70 : zChk false 10 cX10_leafRead 70 bX10_leafRead_70 = true := by decide +kernel
def bX10_leafRead_75 : List zI := [(.aload_n 0, 1, 0, 0, 0), (.iconst 2, 1, 0, 0, 0)]
set_option maxRecDepth 20000 in
theorem hX10_leafRead_75 : zChk false 10 cX10_leafRead 75 bX10_leafRead_75 = true := by decide +kernel
def bX10_leafRead_80 : List zI := [(.aload_n 0, 1, 0, 0, 0)]
set_option maxRecDepth 20000 in
theorem hX10_leafRead_80 : zChk false 10 cX10_leafRead 80 bX10_leafRead_80 = true := by decide +kernel
def bX10_leafRead_84 : List zI := [(.iconst 1, 1, 0, 0, 0), (.ireturn, 1, 0, 0, 0)]
set_option maxRecDepth 20000 in
theorem hX10_leafRead_84 : zChk false 10 cX10_leafRead 84 bX10_leafRead_84 = true := by decide +kernel
def bX10_leafRead_86 : List zI := [(.aload_n 0, 1, 0, 0, 0)]
set_option maxRecDepth 20000 in
theorem hX10_leafRead_86 : zChk false 10 cX10_leafRead 86 bX10_leafRead_86 = true := by decide +kernel
def bX10_leafRead_90 : List zI := [(.istore_n 1, 1, 0, 0, 0), (.iload_n 1, 1, 0, 0, 0), (.ifCond .ge 17, 3, 109, 0, 0), (.aload_n 0, 1, 0, 0, 0), (.getfield 196, 3, 10, 8, 0), (.iconst 3, 1, 0, 0, 0), (.if_icmp .eq 9, 3, 109, 0, 0), (.aload_n 0, 1, 0, 0, 0), (.iconst 1, 1, 0, 0, 0)]
set_option maxRecDepth 20000 in
theorem hX10_leafRead_90 : zChk false 10 cX10_leafRead 90 bX10_leafRead_90 = true := by decide +kernel
def bX10_leafRead_108 : List zI := [(.ireturn, 1, 0, 0, 0)]
set_option maxRecDepth 20000 in
theorem hX10_leafRead_108 : zChk false 10 cX10_leafRead 108 bX10_leafRead_108 = true := by decide +kernel
def bX10_leafRead_109 : List zI := [(.iload_n 1, 1, 0, 0, 0), (.ifCond .ge 19, 3, 129, 0, 0), (.aload_n 0, 1, 0, 0, 0), (.getfield 207, 3, 10, 9, 0), (.sipush 9999, 3, 0, 0, 0), (.if_icmp .le 9, 3, 129, 0, 0), (.aload_n 0, 1, 0, 0, 0), (.iconst 2, 1, 0, 0, 0)]
set_option maxRecDepth 20000 in
theorem hX10_leafRead_109 : zChk false 10 cX10_leafRead 109 bX10_leafRead_109 = true := by decide +kernel
def bX10_leafRead_128 : List zI := [(.ireturn, 1, 0, 0, 0)]
set_option maxRecDepth 20000 in
theorem hX10_leafRead_128 : zChk false 10 cX10_leafRead 128 bX10_leafRead_128 = true := by decide +kernel
def bX10_leafRead_129 : List zI := [(.aload_n 0, 1, 0, 0, 0)]
set_option maxRecDepth 20000 in
theorem hX10_leafRead_129 : zChk false 10 cX10_leafRead 129 bX10_leafRead_129 = true := by decide +kernel
def bX10_leafRead_133 : List zI := [(.ifCond .ne 5, 3, 138, 0, 0), (.iconst 0, 1, 0, 0, 0), (.ireturn, 1, 0, 0, 0)]
set_option maxRecDepth 20000 in
theorem hX10_leafRead_133 : zChk false 10 cX10_leafRead 133 bX10_leafRead_133 = true := by decide +kernel
def bX10_leafRead_138 : List zI := [(.aload_n 0, 1, 0, 0, 0), (.iload_n 1, 1, 0, 0, 0), (.ifCond .lt 7, 3, 147, 0, 0), (.iconst 1, 1, 0, 0, 0), (.goto 4, 3, 148, 0, 0)]
set_option maxRecDepth 20000 in
theorem hX10_leafRead_138 : zChk false 10 cX10_leafRead 138 bX10_leafRead_138 = true := by decide +kernel
def bX10_leafRead_147 : List zI := [(.iconst 0, 1, 0, 0, 0), (.iload_n 1, 1, 0, 0, 0), (.ifCond .lt 7, 3, 156, 0, 0), (.iload_n 1, 1, 0, 0, 0), (.goto 7, 3, 160, 0, 0)]
set_option maxRecDepth 20000 in
theorem hX10_leafRead_147 : zChk false 10 cX10_leafRead 147 bX10_leafRead_147 = true := by decide +kernel
def bX10_leafRead_148 : List zI := [(.iload_n 1, 1, 0, 0, 0), (.ifCond .lt 7, 3, 156, 0, 0), (.iload_n 1, 1, 0, 0, 0), (.goto 7, 3, 160, 0, 0)]
set_option maxRecDepth 20000 in
theorem hX10_leafRead_148 : zChk false 10 cX10_leafRead 148 bX10_leafRead_148 = true := by decide +kernel
def bX10_leafRead_156 : List zI := [(.aload_n 0, 1, 0, 0, 0), (.getfield 207, 3, 10, 9, 0), (.iconst 0, 1, 0, 0, 0)]
set_option maxRecDepth 20000 in
theorem hX10_leafRead_156 : zChk false 10 cX10_leafRead 156 bX10_leafRead_156 = true := by decide +kernel
def bX10_leafRead_160 : List zI := [(.iconst 0, 1, 0, 0, 0)]
set_option maxRecDepth 20000 in
theorem hX10_leafRead_160 : zChk false 10 cX10_leafRead 160 bX10_leafRead_160 = true := by decide +kernel
def bX10_leafRead_164 : List zI := [(.aload_n 0, 1, 0, 0, 0), (.iconst 0, 1, 0, 0, 0), (.putfield 357, 3, 10, 50, 0), (.aload_n 0, 1, 0, 0, 0)]
set_option maxRecDepth 20000 in
theorem hX10_leafRead_164 : zChk false 10 cX10_leafRead 164 bX10_leafRead_164 = true := by decide +kernel
def bX10_leafRead_173 : List zI := [(.iconst 1, 1, 0, 0, 0), (.ireturn, 1, 0, 0, 0)]
set_option maxRecDepth 20000 in
theorem hX10_leafRead_173 : zChk false 10 cX10_leafRead 173 bX10_leafRead_173 = true := by decide +kernel
def bX10_bounded_0 : List zI := [(.aload_n 0, 1, 0, 0, 0), (.aload_n 0, 1, 0, 0, 0), (.getfield 368, 3, 10, 54, 0), (.ifCond .ne 19, 3, 24, 0, 0), (.lload_n 1, 1, 0, 0, 0), (.ldc2_w 371, 3, 0, 0, 1000000000000), (.lcmp, 1, 0, 0, 0), (.ifCond .gt 11, 3, 24, 0, 0), (.lload_n 1, 1, 0, 0, 0), (.ldc2_w 373, 3, 0, 0, -1000000000000), (.lcmp, 1, 0, 0, 0), (.ifCond .ge 7, 3, 28, 0, 0), (.iconst 1, 1, 0, 0, 0), (.goto 4, 3, 29, 0, 0)]
set_option maxRecDepth 20000 in
theorem hX10_bounded_0 : zChk false 10 cX10_bounded 0 bX10_bounded_0 = true := by decide +kernel
def bX10_bounded_24 : List zI := [(.iconst 1, 1, 0, 0, 0), (.goto 4, 3, 29, 0, 0)]
set_option maxRecDepth 20000 in
theorem hX10_bounded_24 : zChk false 10 cX10_bounded 24 bX10_bounded_24 = true := by decide +kernel
def bX10_bounded_28 : List zI := [(.iconst 0, 1, 0, 0, 0), (.putfield 368, 3, 10, 54, 0), (.aload_n 0, 1, 0, 0, 0), (.getfield 368, 3, 10, 54, 0), (.ifCond .eq 7, 3, 43, 0, 0), (.lconst 0, 1, 0, 0, 0), (.goto 4, 3, 44, 0, 0)]
set_option maxRecDepth 20000 in
theorem hX10_bounded_28 : zChk false 10 cX10_bounded 28 bX10_bounded_28 = true := by decide +kernel
def bX10_bounded_29 : List zI := [(.putfield 368, 3, 10, 54, 0), (.aload_n 0, 1, 0, 0, 0), (.getfield 368, 3, 10, 54, 0), (.ifCond .eq 7, 3, 43, 0, 0), (.lconst 0, 1, 0, 0, 0), (.goto 4, 3, 44, 0, 0)]
set_option maxRecDepth 20000 in
theorem hX10_bounded_29 : zChk false 10 cX10_bounded 29 bX10_bounded_29 = true := by decide +kernel
def bX10_bounded_43 : List zI := [(.lload_n 1, 1, 0, 0, 0), (.lreturn, 1, 0, 0, 0)]
set_option maxRecDepth 20000 in
theorem hX10_bounded_43 : zChk false 10 cX10_bounded 43 bX10_bounded_43 = true := by decide +kernel
def bX10_bounded_44 : List zI := [(.lreturn, 1, 0, 0, 0)]
set_option maxRecDepth 20000 in
theorem hX10_bounded_44 : zChk false 10 cX10_bounded 44 bX10_bounded_44 = true := by decide +kernel
def bX10_compares_0 : List zI := [(.iload_n 0, 1, 0, 0, 0)]
set_option maxRecDepth 20000 in
theorem hX10_compares_0 : zChk false 10 cX10_compares 0 bX10_compares_0 = true := by decide +kernel
def bX10_compares_36 : List zI := [(.lload_n 1, 1, 0, 0, 0), (.lload_n 3, 1, 0, 0, 0), (.lcmp, 1, 0, 0, 0), (.ifCond .ge 7, 3, 46, 0, 0), (.iconst 1, 1, 0, 0, 0), (.goto 4, 3, 47, 0, 0)]
set_option maxRecDepth 20000 in
theorem hX10_compares_36 : zChk false 10 cX10_compares 36 bX10_compares_36 = true := by decide +kernel
def bX10_compares_46 : List zI := [(.iconst 0, 1, 0, 0, 0), (.ireturn, 1, 0, 0, 0)]
set_option maxRecDepth 20000 in
theorem hX10_compares_46 : zChk false 10 cX10_compares 46 bX10_compares_46 = true := by decide +kernel
def bX10_compares_47 : List zI := [(.ireturn, 1, 0, 0, 0)]
set_option maxRecDepth 20000 in
theorem hX10_compares_47 : zChk false 10 cX10_compares 47 bX10_compares_47 = true := by decide +kernel
def bX10_compares_48 : List zI := [(.lload_n 1, 1, 0, 0, 0), (.lload_n 3, 1, 0, 0, 0), (.lcmp, 1, 0, 0, 0), (.ifCond .gt 7, 3, 58, 0, 0), (.iconst 1, 1, 0, 0, 0), (.goto 4, 3, 59, 0, 0)]
set_option maxRecDepth 20000 in
theorem hX10_compares_48 : zChk false 10 cX10_compares 48 bX10_compares_48 = true := by decide +kernel
def bX10_compares_58 : List zI := [(.iconst 0, 1, 0, 0, 0), (.ireturn, 1, 0, 0, 0)]
set_option maxRecDepth 20000 in
theorem hX10_compares_58 : zChk false 10 cX10_compares 58 bX10_compares_58 = true := by decide +kernel
def bX10_compares_59 : List zI := [(.ireturn, 1, 0, 0, 0)]
set_option maxRecDepth 20000 in
theorem hX10_compares_59 : zChk false 10 cX10_compares 59 bX10_compares_59 = true := by decide +kernel
def bX10_compares_60 : List zI := [(.lload_n 1, 1, 0, 0, 0), (.lload_n 3, 1, 0, 0, 0), (.lcmp, 1, 0, 0, 0), (.ifCond .ne 7, 3, 70, 0, 0), (.iconst 1, 1, 0, 0, 0), (.goto 4, 3, 71, 0, 0)]
set_option maxRecDepth 20000 in
theorem hX10_compares_60 : zChk false 10 cX10_compares 60 bX10_compares_60 = true := by decide +kernel
def bX10_compares_70 : List zI := [(.iconst 0, 1, 0, 0, 0), (.ireturn, 1, 0, 0, 0)]
set_option maxRecDepth 20000 in
theorem hX10_compares_70 : zChk false 10 cX10_compares 70 bX10_compares_70 = true := by decide +kernel
def bX10_compares_71 : List zI := [(.ireturn, 1, 0, 0, 0)]
set_option maxRecDepth 20000 in
theorem hX10_compares_71 : zChk false 10 cX10_compares 71 bX10_compares_71 = true := by decide +kernel
def bX10_compares_72 : List zI := [(.lload_n 1, 1, 0, 0, 0), (.lload_n 3, 1, 0, 0, 0), (.lcmp, 1, 0, 0, 0), (.ifCond .eq 7, 3, 82, 0, 0), (.iconst 1, 1, 0, 0, 0), (.goto 4, 3, 83, 0, 0)]
set_option maxRecDepth 20000 in
theorem hX10_compares_72 : zChk false 10 cX10_compares 72 bX10_compares_72 = true := by decide +kernel
def bX10_compares_82 : List zI := [(.iconst 0, 1, 0, 0, 0), (.ireturn, 1, 0, 0, 0)]
set_option maxRecDepth 20000 in
theorem hX10_compares_82 : zChk false 10 cX10_compares 82 bX10_compares_82 = true := by decide +kernel
def bX10_compares_83 : List zI := [(.ireturn, 1, 0, 0, 0)]
set_option maxRecDepth 20000 in
theorem hX10_compares_83 : zChk false 10 cX10_compares 83 bX10_compares_83 = true := by decide +kernel
def bX10_compares_84 : List zI := [(.lload_n 1, 1, 0, 0, 0), (.lload_n 3, 1, 0, 0, 0), (.lcmp, 1, 0, 0, 0), (.ifCond .lt 7, 3, 94, 0, 0), (.iconst 1, 1, 0, 0, 0), (.goto 4, 3, 95, 0, 0)]
set_option maxRecDepth 20000 in
theorem hX10_compares_84 : zChk false 10 cX10_compares 84 bX10_compares_84 = true := by decide +kernel
def bX10_compares_94 : List zI := [(.iconst 0, 1, 0, 0, 0), (.ireturn, 1, 0, 0, 0)]
set_option maxRecDepth 20000 in
theorem hX10_compares_94 : zChk false 10 cX10_compares 94 bX10_compares_94 = true := by decide +kernel
def bX10_compares_95 : List zI := [(.ireturn, 1, 0, 0, 0)]
set_option maxRecDepth 20000 in
theorem hX10_compares_95 : zChk false 10 cX10_compares 95 bX10_compares_95 = true := by decide +kernel
def bX10_compares_96 : List zI := [(.lload_n 1, 1, 0, 0, 0), (.lload_n 3, 1, 0, 0, 0), (.lcmp, 1, 0, 0, 0), (.ifCond .le 7, 3, 106, 0, 0), (.iconst 1, 1, 0, 0, 0), (.goto 4, 3, 107, 0, 0)]
set_option maxRecDepth 20000 in
theorem hX10_compares_96 : zChk false 10 cX10_compares 96 bX10_compares_96 = true := by decide +kernel
def bX10_compares_106 : List zI := [(.iconst 0, 1, 0, 0, 0), (.ireturn, 1, 0, 0, 0)]
set_option maxRecDepth 20000 in
theorem hX10_compares_106 : zChk false 10 cX10_compares 106 bX10_compares_106 = true := by decide +kernel
def bX10_compares_107 : List zI := [(.ireturn, 1, 0, 0, 0)]
set_option maxRecDepth 20000 in
theorem hX10_compares_107 : zChk false 10 cX10_compares 107 bX10_compares_107 = true := by decide +kernel
def bX10_begin_0 : List zI := [(.iconst 0, 1, 0, 0, 0), (.istore_n 1, 1, 0, 0, 0)]
set_option maxRecDepth 20000 in
theorem hX10_begin_0 : zChk false 10 cX10_begin 0 bX10_begin_0 = true := by decide +kernel
def bX10_begin_2 : List zI := [(.iload_n 1, 1, 0, 0, 0), (.bipush 40, 2, 0, 0, 0), (.if_icmp .ge 44, 3, 49, 0, 0), (.aload_n 0, 1, 0, 0, 0), (.getfield 94, 3, 10, 57, 0), (.iload_n 1, 1, 0, 0, 0), (.iconst 0, 1, 0, 0, 0), (.iastore, 1, 0, 0, 0), (.aload_n 0, 1, 0, 0, 0), (.getfield 97, 3, 10, 58, 0), (.iload_n 1, 1, 0, 0, 0), (.iconst (-1), 1, 0, 0, 0), (.iastore, 1, 0, 0, 0), (.aload_n 0, 1, 0, 0, 0), (.getfield 100, 3, 10, 59, 0), (.iload_n 1, 1, 0, 0, 0), (.iconst 0, 1, 0, 0, 0), (.iastore, 1, 0, 0, 0), (.aload_n 0, 1, 0, 0, 0), (.getfield 103, 3, 10, 60, 0), (.iload_n 1, 1, 0, 0, 0), (.iconst (-1), 1, 0, 0, 0), (.iastore, 1, 0, 0, 0), (.aload_n 0, 1, 0, 0, 0), (.getfield 106, 3, 10, 61, 0), (.iload_n 1, 1, 0, 0, 0), (.iconst 0, 1, 0, 0, 0), (.bastore, 1, 0, 0, 0), (.iinc 1 1, 3, 0, 0, 0), (.goto (-44), 3, 2, 0, 0)]
set_option maxRecDepth 20000 in
theorem hX10_begin_2 : zChk false 10 cX10_begin 2 bX10_begin_2 = true := by decide +kernel
def bX10_begin_49 : List zI := [(.iconst 0, 1, 0, 0, 0), (.istore_n 1, 1, 0, 0, 0)]
set_option maxRecDepth 20000 in
theorem hX10_begin_49 : zChk false 10 cX10_begin 49 bX10_begin_49 = true := by decide +kernel
def bX10_begin_51 : List zI := [(.iload_n 1, 1, 0, 0, 0), (.bipush 7, 2, 0, 0, 0), (.if_icmp .ge 16, 3, 70, 0, 0), (.aload_n 0, 1, 0, 0, 0), (.getfield 109, 3, 10, 62, 0), (.iload_n 1, 1, 0, 0, 0), (.iconst 0, 1, 0, 0, 0), (.iastore, 1, 0, 0, 0), (.iinc 1 1, 3, 0, 0, 0), (.goto (-16), 3, 51, 0, 0)]
set_option maxRecDepth 20000 in
theorem hX10_begin_51 : zChk false 10 cX10_begin 51 bX10_begin_51 = true := by decide +kernel
def bX10_begin_70 : List zI := [(.aload_n 0, 1, 0, 0, 0), (.iconst 0, 1, 0, 0, 0), (.putfield 387, 3, 10, 55, 0), (.aload_n 0, 1, 0, 0, 0), (.iconst 0, 1, 0, 0, 0), (.putfield 390, 3, 10, 56, 0), (.aload_n 0, 1, 0, 0, 0), (.getfield 112, 3, 10, 63, 0), (.iconst 0, 1, 0, 0, 0), (.aload_n 0, 1, 0, 0, 0), (.getfield 56, 3, 10, 36, 0), (.bipush 10, 2, 0, 0, 0), (.iaload, 1, 0, 0, 0), (.i2l, 1, 0, 0, 0), (.lastore, 1, 0, 0, 0), (.aload_n 0, 1, 0, 0, 0), (.iconst 0, 1, 0, 0, 0), (.putfield 393, 3, 10, 64, 0), (.aload_n 0, 1, 0, 0, 0), (.iconst 0, 1, 0, 0, 0), (.putfield 396, 3, 10, 65, 0), (.aload_n 0, 1, 0, 0, 0), (.iconst 0, 1, 0, 0, 0), (.putfield 399, 3, 10, 85, 0), (.aload_n 0, 1, 0, 0, 0), (.iconst (-1), 1, 0, 0, 0), (.putfield 139, 3, 10, 86, 0), (.aload_n 0, 1, 0, 0, 0), (.iconst 0, 1, 0, 0, 0), (.putfield 402, 3, 10, 78, 0), (.aload_n 0, 1, 0, 0, 0), (.iconst 0, 1, 0, 0, 0), (.putfield 405, 3, 10, 90, 0), (.return_, 1, 0, 0, 0)]
set_option maxRecDepth 20000 in
theorem hX10_begin_70 : zChk false 10 cX10_begin 70 bX10_begin_70 = true := by decide +kernel
def bX10_layRun_0 : List zI := [(.iconst 0, 1, 0, 0, 0), (.istore_n 1, 1, 0, 0, 0)]
set_option maxRecDepth 20000 in
theorem hX10_layRun_0 : zChk false 10 cX10_layRun 0 bX10_layRun_0 = true := by decide +kernel
def bX10_layRun_2 : List zI := [(.iload_n 1, 1, 0, 0, 0), (.bipush 40, 2, 0, 0, 0), (.if_icmp .ge 84, 3, 89, 0, 0), (.aload_n 0, 1, 0, 0, 0), (.getfield 94, 3, 10, 57, 0), (.bipush 40, 2, 0, 0, 0), (.iload_n 1, 1, 0, 0, 0), (.iadd, 1, 0, 0, 0), (.aload_n 0, 1, 0, 0, 0), (.getfield 94, 3, 10, 57, 0), (.iload_n 1, 1, 0, 0, 0), (.iaload, 1, 0, 0, 0), (.iastore, 1, 0, 0, 0), (.aload_n 0, 1, 0, 0, 0), (.getfield 97, 3, 10, 58, 0), (.bipush 40, 2, 0, 0, 0), (.iload_n 1, 1, 0, 0, 0), (.iadd, 1, 0, 0, 0), (.aload_n 0, 1, 0, 0, 0), (.getfield 97, 3, 10, 58, 0), (.iload_n 1, 1, 0, 0, 0), (.iaload, 1, 0, 0, 0), (.iastore, 1, 0, 0, 0), (.aload_n 0, 1, 0, 0, 0), (.getfield 100, 3, 10, 59, 0), (.bipush 40, 2, 0, 0, 0), (.iload_n 1, 1, 0, 0, 0), (.iadd, 1, 0, 0, 0), (.aload_n 0, 1, 0, 0, 0), (.getfield 100, 3, 10, 59, 0), (.iload_n 1, 1, 0, 0, 0), (.iaload, 1, 0, 0, 0), (.iastore, 1, 0, 0, 0), (.aload_n 0, 1, 0, 0, 0), (.getfield 103, 3, 10, 60, 0), (.bipush 40, 2, 0, 0, 0), (.iload_n 1, 1, 0, 0, 0), (.iadd, 1, 0, 0, 0), (.aload_n 0, 1, 0, 0, 0), (.getfield 103, 3, 10, 60, 0), (.iload_n 1, 1, 0, 0, 0), (.iaload, 1, 0, 0, 0), (.iastore, 1, 0, 0, 0), (.aload_n 0, 1, 0, 0, 0), (.getfield 106, 3, 10, 61, 0), (.bipush 40, 2, 0, 0, 0), (.iload_n 1, 1, 0, 0, 0), (.iadd, 1, 0, 0, 0), (.aload_n 0, 1, 0, 0, 0), (.getfield 106, 3, 10, 61, 0), (.iload_n 1, 1, 0, 0, 0), (.baload, 1, 0, 0, 0), (.bastore, 1, 0, 0, 0), (.iinc 1 1, 3, 0, 0, 0), (.goto (-84), 3, 2, 0, 0)]
set_option maxRecDepth 20000 in
theorem hX10_layRun_2 : zChk false 10 cX10_layRun 2 bX10_layRun_2 = true := by decide +kernel
def bX10_layRun_89 : List zI := [(.iconst 0, 1, 0, 0, 0), (.istore_n 1, 1, 0, 0, 0)]
set_option maxRecDepth 20000 in
theorem hX10_layRun_89 : zChk false 10 cX10_layRun 89 bX10_layRun_89 = true := by decide +kernel
def bX10_layRun_91 : List zI := [(.iload_n 1, 1, 0, 0, 0), (.bipush 7, 2, 0, 0, 0), (.if_icmp .ge 24, 3, 118, 0, 0), (.aload_n 0, 1, 0, 0, 0), (.getfield 109, 3, 10, 62, 0), (.bipush 7, 2, 0, 0, 0), (.iload_n 1, 1, 0, 0, 0), (.iadd, 1, 0, 0, 0), (.aload_n 0, 1, 0, 0, 0), (.getfield 109, 3, 10, 62, 0), (.iload_n 1, 1, 0, 0, 0), (.iaload, 1, 0, 0, 0), (.iastore, 1, 0, 0, 0), (.iinc 1 1, 3, 0, 0, 0), (.goto (-24), 3, 91, 0, 0)]
set_option maxRecDepth 20000 in
theorem hX10_layRun_91 : zChk false 10 cX10_layRun 91 bX10_layRun_91 = true := by decide +kernel
def bX10_layRun_118 : List zI := [(.aload_n 0, 1, 0, 0, 0), (.getfield 112, 3, 10, 63, 0), (.iconst 1, 1, 0, 0, 0), (.aload_n 0, 1, 0, 0, 0), (.getfield 112, 3, 10, 63, 0), (.iconst 0, 1, 0, 0, 0), (.laload, 1, 0, 0, 0), (.lastore, 1, 0, 0, 0), (.return_, 1, 0, 0, 0)]
set_option maxRecDepth 20000 in
theorem hX10_layRun_118 : zChk false 10 cX10_layRun 118 bX10_layRun_118 = true := by decide +kernel
def bX10_isMusic_0 : List zI := [(.iconst 0, 1, 0, 0, 0), (.istore_n 3, 1, 0, 0, 0)]
set_option maxRecDepth 20000 in
theorem hX10_isMusic_0 : zChk false 10 cX10_isMusic 0 bX10_isMusic_0 = true := by decide +kernel
def bX10_isMusic_2 : List zI := [(.iload_n 3, 1, 0, 0, 0), (.aload_n 0, 1, 0, 0, 0), (.getfield 270, 3, 10, 15, 0), (.if_icmp .ge 47, 3, 54, 0, 0), (.aload_n 0, 1, 0, 0, 0), (.getfield 414, 3, 10, 69, 0), (.ifCond .ne 40, 3, 54, 0, 0), (.aload_n 0, 1, 0, 0, 0), (.getfield 44, 3, 10, 32, 0), (.iload_n 3, 1, 0, 0, 0), (.iaload, 1, 0, 0, 0), (.iload_n 1, 1, 0, 0, 0), (.if_icmp .ne 24, 3, 48, 0, 0), (.iload_n 2, 1, 0, 0, 0), (.aload_n 0, 1, 0, 0, 0), (.getfield 47, 3, 10, 33, 0), (.iload_n 3, 1, 0, 0, 0), (.iaload, 1, 0, 0, 0), (.aload_n 0, 1, 0, 0, 0), (.getfield 50, 3, 10, 34, 0), (.iload_n 3, 1, 0, 0, 0), (.iaload, 1, 0, 0, 0)]
set_option maxRecDepth 20000 in
theorem hX10_isMusic_2 : zChk false 10 cX10_isMusic 2 bX10_isMusic_2 = true := by decide +kernel
def bX10_isMusic_43 : List zI := [(.ifCond .eq 5, 3, 48, 0, 0), (.iconst 1, 1, 0, 0, 0), (.ireturn, 1, 0, 0, 0)]
set_option maxRecDepth 20000 in
theorem hX10_isMusic_43 : zChk false 10 cX10_isMusic 43 bX10_isMusic_43 = true := by decide +kernel
def bX10_isMusic_48 : List zI := [(.iinc 3 1, 3, 0, 0, 0), (.goto (-49), 3, 2, 0, 0)]
set_option maxRecDepth 20000 in
theorem hX10_isMusic_48 : zChk false 10 cX10_isMusic 48 bX10_isMusic_48 = true := by decide +kernel
def bX10_isMusic_54 : List zI := [(.iconst 0, 1, 0, 0, 0), (.ireturn, 1, 0, 0, 0)]
set_option maxRecDepth 20000 in
theorem hX10_isMusic_54 : zChk false 10 cX10_isMusic 54 bX10_isMusic_54 = true := by decide +kernel
def bX10_lawOf_0 : List zI := [(.aload_n 0, 1, 0, 0, 0), (.getfield 87, 3, 10, 52, 0), (.iconst 0, 1, 0, 0, 0), (.aload_n 0, 1, 0, 0, 0), (.getfield 23, 3, 10, 25, 0), (.iload_n 3, 1, 0, 0, 0), (.iaload, 1, 0, 0, 0), (.i2l, 1, 0, 0, 0), (.lastore, 1, 0, 0, 0), (.aload_n 0, 1, 0, 0, 0), (.getfield 87, 3, 10, 52, 0), (.iconst 1, 1, 0, 0, 0), (.aload_n 0, 1, 0, 0, 0), (.getfield 26, 3, 10, 26, 0), (.iload_n 3, 1, 0, 0, 0), (.iaload, 1, 0, 0, 0), (.i2l, 1, 0, 0, 0), (.lastore, 1, 0, 0, 0), (.aload_n 0, 1, 0, 0, 0), (.getfield 87, 3, 10, 52, 0), (.iconst 2, 1, 0, 0, 0), (.aload_n 0, 1, 0, 0, 0), (.iload 4, 2, 0, 0, 0)]
set_option maxRecDepth 20000 in
theorem hX10_lawOf_0 : zChk false 10 cX10_lawOf 0 bX10_lawOf_0 = true := by decide +kernel
def bX10_lawOf_37 : List zI := [(.ifCond .ne 7, 3, 44, 0, 0), (.lconst 1, 1, 0, 0, 0), (.goto 4, 3, 45, 0, 0)]
set_option maxRecDepth 20000 in
theorem hX10_lawOf_37 : zChk false 10 cX10_lawOf 37 bX10_lawOf_37 = true := by decide +kernel
def bX10_lawOf_44 : List zI := [(.lconst 0, 1, 0, 0, 0), (.lastore, 1, 0, 0, 0), (.aload_n 0, 1, 0, 0, 0), (.getfield 87, 3, 10, 52, 0), (.iconst 3, 1, 0, 0, 0), (.aload_n 0, 1, 0, 0, 0), (.iload_n 3, 1, 0, 0, 0), (.iload 4, 2, 0, 0, 0)]
set_option maxRecDepth 20000 in
theorem hX10_lawOf_44 : zChk false 10 cX10_lawOf 44 bX10_lawOf_44 = true := by decide +kernel
def bX10_lawOf_45 : List zI := [(.lastore, 1, 0, 0, 0), (.aload_n 0, 1, 0, 0, 0), (.getfield 87, 3, 10, 52, 0), (.iconst 3, 1, 0, 0, 0), (.aload_n 0, 1, 0, 0, 0), (.iload_n 3, 1, 0, 0, 0), (.iload 4, 2, 0, 0, 0)]
set_option maxRecDepth 20000 in
theorem hX10_lawOf_45 : zChk false 10 cX10_lawOf 45 bX10_lawOf_45 = true := by decide +kernel
def bX10_lawOf_58 : List zI := [(.ifCond .eq 7, 3, 65, 0, 0), (.lconst 1, 1, 0, 0, 0), (.goto 4, 3, 66, 0, 0)]
set_option maxRecDepth 20000 in
theorem hX10_lawOf_58 : zChk false 10 cX10_lawOf 58 bX10_lawOf_58 = true := by decide +kernel
def bX10_lawOf_65 : List zI := [(.lconst 0, 1, 0, 0, 0), (.lastore, 1, 0, 0, 0), (.aload_n 0, 1, 0, 0, 0), (.getfield 87, 3, 10, 52, 0), (.iconst 4, 1, 0, 0, 0), (.aload_n 0, 1, 0, 0, 0), (.iload_n 2, 1, 0, 0, 0), (.iload_n 3, 1, 0, 0, 0), (.iconst 2, 1, 0, 0, 0)]
set_option maxRecDepth 20000 in
theorem hX10_lawOf_65 : zChk false 10 cX10_lawOf 65 bX10_lawOf_65 = true := by decide +kernel
def bX10_lawOf_66 : List zI := [(.lastore, 1, 0, 0, 0), (.aload_n 0, 1, 0, 0, 0), (.getfield 87, 3, 10, 52, 0), (.iconst 4, 1, 0, 0, 0), (.aload_n 0, 1, 0, 0, 0), (.iload_n 2, 1, 0, 0, 0), (.iload_n 3, 1, 0, 0, 0), (.iconst 2, 1, 0, 0, 0)]
set_option maxRecDepth 20000 in
theorem hX10_lawOf_66 : zChk false 10 cX10_lawOf 66 bX10_lawOf_66 = true := by decide +kernel
def bX10_lawOf_79 : List zI := [(.i2l, 1, 0, 0, 0), (.lastore, 1, 0, 0, 0), (.aload_n 0, 1, 0, 0, 0), (.getfield 87, 3, 10, 52, 0), (.iconst 5, 1, 0, 0, 0), (.aload_n 0, 1, 0, 0, 0), (.iload_n 2, 1, 0, 0, 0), (.iload_n 3, 1, 0, 0, 0), (.iconst 1, 1, 0, 0, 0)]
set_option maxRecDepth 20000 in
theorem hX10_lawOf_79 : zChk false 10 cX10_lawOf 79 bX10_lawOf_79 = true := by decide +kernel
def bX10_lawOf_93 : List zI := [(.i2l, 1, 0, 0, 0), (.lastore, 1, 0, 0, 0), (.aload_n 0, 1, 0, 0, 0), (.getfield 87, 3, 10, 52, 0), (.bipush 6, 2, 0, 0, 0), (.aload_n 0, 1, 0, 0, 0), (.getfield 408, 3, 10, 67, 0), (.i2l, 1, 0, 0, 0), (.lastore, 1, 0, 0, 0), (.aload_n 0, 1, 0, 0, 0), (.getfield 87, 3, 10, 52, 0), (.bipush 7, 2, 0, 0, 0), (.iload 4, 2, 0, 0, 0), (.i2l, 1, 0, 0, 0), (.lastore, 1, 0, 0, 0), (.aload_n 0, 1, 0, 0, 0), (.iconst 0, 1, 0, 0, 0), (.putfield 368, 3, 10, 54, 0), (.aload_n 0, 1, 0, 0, 0), (.getfield 66, 3, 10, 39, 0), (.iload_n 1, 1, 0, 0, 0), (.iaload, 1, 0, 0, 0), (.istore 5, 2, 0, 0, 0)]
set_option maxRecDepth 20000 in
theorem hX10_lawOf_93 : zChk false 10 cX10_lawOf 93 bX10_lawOf_93 = true := by decide +kernel
def bX10_lawOf_130 : List zI := [(.iload 5, 2, 0, 0, 0), (.aload_n 0, 1, 0, 0, 0), (.getfield 69, 3, 10, 40, 0), (.iload_n 1, 1, 0, 0, 0), (.iaload, 1, 0, 0, 0), (.if_icmp .ge 22, 3, 160, 0, 0), (.aload_n 0, 1, 0, 0, 0), (.getfield 91, 3, 10, 53, 0), (.iload 5, 2, 0, 0, 0), (.aload_n 0, 1, 0, 0, 0), (.iload 5, 2, 0, 0, 0)]
set_option maxRecDepth 20000 in
theorem hX10_lawOf_130 : zChk false 10 cX10_lawOf 130 bX10_lawOf_130 = true := by decide +kernel
def bX10_lawOf_153 : List zI := [(.lastore, 1, 0, 0, 0), (.iinc 5 1, 3, 0, 0, 0), (.goto (-27), 3, 130, 0, 0)]
set_option maxRecDepth 20000 in
theorem hX10_lawOf_153 : zChk false 10 cX10_lawOf 153 bX10_lawOf_153 = true := by decide +kernel
def bX10_lawOf_160 : List zI := [(.aload_n 0, 1, 0, 0, 0), (.getfield 368, 3, 10, 54, 0), (.ifCond .eq 7, 3, 171, 0, 0), (.lconst 0, 1, 0, 0, 0), (.goto 16, 3, 184, 0, 0)]
set_option maxRecDepth 20000 in
theorem hX10_lawOf_160 : zChk false 10 cX10_lawOf 160 bX10_lawOf_160 = true := by decide +kernel
def bX10_lawOf_171 : List zI := [(.aload_n 0, 1, 0, 0, 0), (.getfield 91, 3, 10, 53, 0), (.aload_n 0, 1, 0, 0, 0), (.getfield 69, 3, 10, 40, 0), (.iload_n 1, 1, 0, 0, 0), (.iaload, 1, 0, 0, 0), (.iconst 1, 1, 0, 0, 0), (.isub, 1, 0, 0, 0), (.laload, 1, 0, 0, 0), (.lreturn, 1, 0, 0, 0)]
set_option maxRecDepth 20000 in
theorem hX10_lawOf_171 : zChk false 10 cX10_lawOf 171 bX10_lawOf_171 = true := by decide +kernel
def bX10_lawOf_184 : List zI := [(.lreturn, 1, 0, 0, 0)]
set_option maxRecDepth 20000 in
theorem hX10_lawOf_184 : zChk false 10 cX10_lawOf 184 bX10_lawOf_184 = true := by decide +kernel
def bX10_boundLaw_0 : List zI := [(.aload_n 0, 1, 0, 0, 0), (.getfield 63, 3, 10, 38, 0), (.iload_n 1, 1, 0, 0, 0), (.baload, 1, 0, 0, 0), (.ifCond .ne 6, 3, 12, 0, 0), (.iload 5, 2, 0, 0, 0), (.ireturn, 1, 0, 0, 0)]
set_option maxRecDepth 20000 in
theorem hX10_boundLaw_0 : zChk false 10 cX10_boundLaw 0 bX10_boundLaw_0 = true := by decide +kernel
def bX10_boundLaw_12 : List zI := [(.aload_n 0, 1, 0, 0, 0), (.iload_n 1, 1, 0, 0, 0), (.iload_n 2, 1, 0, 0, 0), (.iload_n 3, 1, 0, 0, 0), (.iload 4, 2, 0, 0, 0)]
set_option maxRecDepth 20000 in
theorem hX10_boundLaw_12 : zChk false 10 cX10_boundLaw 12 bX10_boundLaw_12 = true := by decide +kernel
def bX10_boundLaw_21 : List zI := [(.lstore 8, 2, 0, 0, 0), (.aload_n 0, 1, 0, 0, 0), (.getfield 368, 3, 10, 54, 0), (.ifCond .eq 8, 3, 35, 0, 0), (.iload 5, 2, 0, 0, 0), (.goto 34, 3, 66, 0, 0)]
set_option maxRecDepth 20000 in
theorem hX10_boundLaw_21 : zChk false 10 cX10_boundLaw 21 bX10_boundLaw_21 = true := by decide +kernel
def bX10_boundLaw_35 : List zI := [(.lload 8, 2, 0, 0, 0), (.iload 6, 2, 0, 0, 0), (.i2l, 1, 0, 0, 0), (.lcmp, 1, 0, 0, 0), (.ifCond .ge 8, 3, 49, 0, 0), (.iload 6, 2, 0, 0, 0), (.goto 20, 3, 66, 0, 0)]
set_option maxRecDepth 20000 in
theorem hX10_boundLaw_35 : zChk false 10 cX10_boundLaw 35 bX10_boundLaw_35 = true := by decide +kernel
def bX10_boundLaw_49 : List zI := [(.lload 8, 2, 0, 0, 0), (.iload 7, 2, 0, 0, 0), (.i2l, 1, 0, 0, 0), (.lcmp, 1, 0, 0, 0), (.ifCond .le 8, 3, 63, 0, 0), (.iload 7, 2, 0, 0, 0), (.goto 6, 3, 66, 0, 0)]
set_option maxRecDepth 20000 in
theorem hX10_boundLaw_49 : zChk false 10 cX10_boundLaw 49 bX10_boundLaw_49 = true := by decide +kernel
def bX10_boundLaw_63 : List zI := [(.lload 8, 2, 0, 0, 0), (.l2i, 1, 0, 0, 0), (.ireturn, 1, 0, 0, 0)]
set_option maxRecDepth 20000 in
theorem hX10_boundLaw_63 : zChk false 10 cX10_boundLaw 63 bX10_boundLaw_63 = true := by decide +kernel
def bX10_boundLaw_66 : List zI := [(.ireturn, 1, 0, 0, 0)]
set_option maxRecDepth 20000 in
theorem hX10_boundLaw_66 : zChk false 10 cX10_boundLaw 66 bX10_boundLaw_66 = true := by decide +kernel
def bX10_goesOff_0 : List zI := [(.aload_n 0, 1, 0, 0, 0), (.getfield 94, 3, 10, 57, 0), (.bipush 40, 2, 0, 0, 0), (.iload_n 1, 1, 0, 0, 0), (.imul, 1, 0, 0, 0), (.iload_n 2, 1, 0, 0, 0), (.iadd, 1, 0, 0, 0), (.iaload, 1, 0, 0, 0), (.iconst 2, 1, 0, 0, 0), (.if_icmp .ne 32, 3, 44, 0, 0), (.aload_n 0, 1, 0, 0, 0), (.getfield 106, 3, 10, 61, 0), (.bipush 40, 2, 0, 0, 0), (.iload_n 1, 1, 0, 0, 0), (.imul, 1, 0, 0, 0), (.iload_n 2, 1, 0, 0, 0), (.iadd, 1, 0, 0, 0), (.baload, 1, 0, 0, 0), (.ifCond .ne 18, 3, 44, 0, 0), (.aload_n 0, 1, 0, 0, 0), (.getfield 109, 3, 10, 62, 0), (.bipush 7, 2, 0, 0, 0), (.iload_n 1, 1, 0, 0, 0), (.imul, 1, 0, 0, 0), (.iconst 3, 1, 0, 0, 0), (.iadd, 1, 0, 0, 0), (.dup2, 1, 0, 0, 0), (.iaload, 1, 0, 0, 0), (.iconst 1, 1, 0, 0, 0), (.iadd, 1, 0, 0, 0), (.iastore, 1, 0, 0, 0), (.aload_n 0, 1, 0, 0, 0), (.getfield 106, 3, 10, 61, 0), (.bipush 40, 2, 0, 0, 0), (.iload_n 1, 1, 0, 0, 0), (.imul, 1, 0, 0, 0), (.iload_n 2, 1, 0, 0, 0), (.iadd, 1, 0, 0, 0), (.iconst 0, 1, 0, 0, 0), (.bastore, 1, 0, 0, 0), (.aload_n 0, 1, 0, 0, 0), (.getfield 103, 3, 10, 60, 0), (.bipush 40, 2, 0, 0, 0), (.iload_n 1, 1, 0, 0, 0), (.imul, 1, 0, 0, 0), (.iload_n 2, 1, 0, 0, 0), (.iadd, 1, 0, 0, 0), (.iconst (-1), 1, 0, 0, 0), (.iastore, 1, 0, 0, 0), (.return_, 1, 0, 0, 0)]
set_option maxRecDepth 20000 in
theorem hX10_goesOff_0 : zChk false 10 cX10_goesOff 0 bX10_goesOff_0 = true := by decide +kernel
def bX10_goesOff_44 : List zI := [(.aload_n 0, 1, 0, 0, 0), (.getfield 106, 3, 10, 61, 0), (.bipush 40, 2, 0, 0, 0), (.iload_n 1, 1, 0, 0, 0), (.imul, 1, 0, 0, 0), (.iload_n 2, 1, 0, 0, 0), (.iadd, 1, 0, 0, 0), (.iconst 0, 1, 0, 0, 0), (.bastore, 1, 0, 0, 0), (.aload_n 0, 1, 0, 0, 0), (.getfield 103, 3, 10, 60, 0), (.bipush 40, 2, 0, 0, 0), (.iload_n 1, 1, 0, 0, 0), (.imul, 1, 0, 0, 0), (.iload_n 2, 1, 0, 0, 0), (.iadd, 1, 0, 0, 0), (.iconst (-1), 1, 0, 0, 0), (.iastore, 1, 0, 0, 0), (.return_, 1, 0, 0, 0)]
set_option maxRecDepth 20000 in
theorem hX10_goesOff_44 : zChk false 10 cX10_goesOff 44 bX10_goesOff_44 = true := by decide +kernel
def bX10_loses_0 : List zI := [(.aload_n 0, 1, 0, 0, 0), (.iload_n 1, 1, 0, 0, 0), (.iload_n 2, 1, 0, 0, 0)]
set_option maxRecDepth 20000 in
theorem hX10_loses_0 : zChk false 10 cX10_loses 0 bX10_loses_0 = true := by decide +kernel
def bX10_loses_6 : List zI := [(.aload_n 0, 1, 0, 0, 0), (.getfield 94, 3, 10, 57, 0), (.bipush 40, 2, 0, 0, 0), (.iload_n 1, 1, 0, 0, 0), (.imul, 1, 0, 0, 0), (.iload_n 2, 1, 0, 0, 0), (.iadd, 1, 0, 0, 0), (.iconst 3, 1, 0, 0, 0), (.iastore, 1, 0, 0, 0), (.aload_n 0, 1, 0, 0, 0), (.getfield 97, 3, 10, 58, 0), (.bipush 40, 2, 0, 0, 0), (.iload_n 1, 1, 0, 0, 0), (.imul, 1, 0, 0, 0), (.iload_n 2, 1, 0, 0, 0), (.iadd, 1, 0, 0, 0), (.iconst (-1), 1, 0, 0, 0), (.iastore, 1, 0, 0, 0), (.aload_n 0, 1, 0, 0, 0), (.getfield 109, 3, 10, 62, 0), (.bipush 7, 2, 0, 0, 0), (.iload_n 1, 1, 0, 0, 0), (.imul, 1, 0, 0, 0), (.iconst 5, 1, 0, 0, 0), (.iadd, 1, 0, 0, 0), (.dup2, 1, 0, 0, 0), (.iaload, 1, 0, 0, 0), (.iconst 1, 1, 0, 0, 0), (.iadd, 1, 0, 0, 0), (.iastore, 1, 0, 0, 0), (.return_, 1, 0, 0, 0)]
set_option maxRecDepth 20000 in
theorem hX10_loses_6 : zChk false 10 cX10_loses 6 bX10_loses_6 = true := by decide +kernel
def bX10_isFront_0 : List zI := [(.aload_n 0, 1, 0, 0, 0), (.getfield 94, 3, 10, 57, 0), (.bipush 40, 2, 0, 0, 0), (.iload_n 1, 1, 0, 0, 0), (.imul, 1, 0, 0, 0), (.iload_n 2, 1, 0, 0, 0), (.iadd, 1, 0, 0, 0), (.iaload, 1, 0, 0, 0), (.iconst 1, 1, 0, 0, 0), (.if_icmp .eq 18, 3, 30, 0, 0), (.aload_n 0, 1, 0, 0, 0), (.getfield 94, 3, 10, 57, 0), (.bipush 40, 2, 0, 0, 0), (.iload_n 1, 1, 0, 0, 0), (.imul, 1, 0, 0, 0), (.iload_n 2, 1, 0, 0, 0), (.iadd, 1, 0, 0, 0), (.iaload, 1, 0, 0, 0), (.iconst 2, 1, 0, 0, 0), (.if_icmp .ne 7, 3, 34, 0, 0), (.iconst 1, 1, 0, 0, 0), (.goto 4, 3, 35, 0, 0)]
set_option maxRecDepth 20000 in
theorem hX10_isFront_0 : zChk false 10 cX10_isFront 0 bX10_isFront_0 = true := by decide +kernel
def bX10_isFront_30 : List zI := [(.iconst 1, 1, 0, 0, 0), (.goto 4, 3, 35, 0, 0)]
set_option maxRecDepth 20000 in
theorem hX10_isFront_30 : zChk false 10 cX10_isFront 30 bX10_isFront_30 = true := by decide +kernel
def bX10_isFront_34 : List zI := [(.iconst 0, 1, 0, 0, 0), (.ireturn, 1, 0, 0, 0)]
set_option maxRecDepth 20000 in
theorem hX10_isFront_34 : zChk false 10 cX10_isFront 34 bX10_isFront_34 = true := by decide +kernel
def bX10_isFront_35 : List zI := [(.ireturn, 1, 0, 0, 0)]
set_option maxRecDepth 20000 in
theorem hX10_isFront_35 : zChk false 10 cX10_isFront 35 bX10_isFront_35 = true := by decide +kernel
def bX10_goesOn_0 : List zI := [(.iconst 0, 1, 0, 0, 0), (.istore_n 3, 1, 0, 0, 0)]
set_option maxRecDepth 20000 in
theorem hX10_goesOn_0 : zChk false 10 cX10_goesOn 0 bX10_goesOn_0 = true := by decide +kernel
def bX10_goesOn_2 : List zI := [(.iload_n 3, 1, 0, 0, 0), (.aload_n 0, 1, 0, 0, 0), (.getfield 56, 3, 10, 36, 0), (.iconst 1, 1, 0, 0, 0), (.iaload, 1, 0, 0, 0), (.if_icmp .ge 56, 3, 65, 0, 0), (.bipush 40, 2, 0, 0, 0), (.iload_n 1, 1, 0, 0, 0), (.imul, 1, 0, 0, 0), (.iload_n 3, 1, 0, 0, 0), (.iadd, 1, 0, 0, 0), (.istore 4, 2, 0, 0, 0), (.aload_n 0, 1, 0, 0, 0), (.getfield 94, 3, 10, 57, 0), (.iload 4, 2, 0, 0, 0), (.iaload, 1, 0, 0, 0), (.iconst 2, 1, 0, 0, 0), (.if_icmp .ne 31, 3, 59, 0, 0), (.aload_n 0, 1, 0, 0, 0), (.getfield 103, 3, 10, 60, 0), (.iload 4, 2, 0, 0, 0), (.iaload, 1, 0, 0, 0), (.iload_n 2, 1, 0, 0, 0), (.if_icmp .eq 6, 3, 45, 0, 0), (.goto 17, 3, 59, 0, 0)]
set_option maxRecDepth 20000 in
theorem hX10_goesOn_2 : zChk false 10 cX10_goesOn 2 bX10_goesOn_2 = true := by decide +kernel
def bX10_goesOn_45 : List zI := [(.aload_n 0, 1, 0, 0, 0), (.iload_n 1, 1, 0, 0, 0), (.iload_n 3, 1, 0, 0, 0)]
set_option maxRecDepth 20000 in
theorem hX10_goesOn_45 : zChk false 10 cX10_goesOn 45 bX10_goesOn_45 = true := by decide +kernel
def bX10_goesOn_51 : List zI := [(.aload_n 0, 1, 0, 0, 0), (.getfield 94, 3, 10, 57, 0), (.iload 4, 2, 0, 0, 0), (.iconst 1, 1, 0, 0, 0), (.iastore, 1, 0, 0, 0), (.iinc 3 1, 3, 0, 0, 0), (.goto (-60), 3, 2, 0, 0)]
set_option maxRecDepth 20000 in
theorem hX10_goesOn_51 : zChk false 10 cX10_goesOn 51 bX10_goesOn_51 = true := by decide +kernel
def bX10_goesOn_59 : List zI := [(.iinc 3 1, 3, 0, 0, 0), (.goto (-60), 3, 2, 0, 0)]
set_option maxRecDepth 20000 in
theorem hX10_goesOn_59 : zChk false 10 cX10_goesOn 59 bX10_goesOn_59 = true := by decide +kernel
def bX10_goesOn_65 : List zI := [(.return_, 1, 0, 0, 0)]
set_option maxRecDepth 20000 in
theorem hX10_goesOn_65 : zChk false 10 cX10_goesOn 65 bX10_goesOn_65 = true := by decide +kernel
def bX10_bestPlace_0 : List zI := [(.iconst (-1), 1, 0, 0, 0), (.istore_n 3, 1, 0, 0, 0), (.lconst 0, 1, 0, 0, 0), (.lstore 4, 2, 0, 0, 0), (.iconst 0, 1, 0, 0, 0), (.istore 6, 2, 0, 0, 0)]
set_option maxRecDepth 20000 in
theorem hX10_bestPlace_0 : zChk false 10 cX10_bestPlace 0 bX10_bestPlace_0 = true := by decide +kernel
def bX10_bestPlace_8 : List zI := [(.iload 6, 2, 0, 0, 0), (.aload_n 0, 1, 0, 0, 0), (.getfield 261, 3, 10, 12, 0), (.if_icmp .ge 85, 3, 99, 0, 0), (.iload 6, 2, 0, 0, 0), (.aload_n 0, 1, 0, 0, 0), (.getfield 423, 3, 10, 72, 0), (.if_icmp .eq 70, 3, 93, 0, 0), (.aload_n 0, 1, 0, 0, 0), (.iload_n 1, 1, 0, 0, 0), (.iload 6, 2, 0, 0, 0), (.iconst 1, 1, 0, 0, 0)]
set_option maxRecDepth 20000 in
theorem hX10_bestPlace_8 : zChk false 10 cX10_bestPlace 8 bX10_bestPlace_8 = true := by decide +kernel
def bX10_bestPlace_34 : List zI := [(.ifCond .ne 6, 3, 40, 0, 0), (.goto 56, 3, 93, 0, 0)]
set_option maxRecDepth 20000 in
theorem hX10_bestPlace_34 : zChk false 10 cX10_bestPlace 34 bX10_bestPlace_34 = true := by decide +kernel
def bX10_bestPlace_40 : List zI := [(.aload_n 0, 1, 0, 0, 0), (.getfield 63, 3, 10, 38, 0), (.iconst 0, 1, 0, 0, 0), (.baload, 1, 0, 0, 0), (.ifCond .eq 15, 3, 61, 0, 0), (.aload_n 0, 1, 0, 0, 0), (.iconst 0, 1, 0, 0, 0), (.iload_n 1, 1, 0, 0, 0), (.iload 6, 2, 0, 0, 0), (.iload_n 2, 1, 0, 0, 0)]
set_option maxRecDepth 20000 in
theorem hX10_bestPlace_40 : zChk false 10 cX10_bestPlace 40 bX10_bestPlace_40 = true := by decide +kernel
def bX10_bestPlace_58 : List zI := [(.goto 11, 3, 69, 0, 0)]
set_option maxRecDepth 20000 in
theorem hX10_bestPlace_58 : zChk false 10 cX10_bestPlace 58 bX10_bestPlace_58 = true := by decide +kernel
def bX10_bestPlace_61 : List zI := [(.aload_n 0, 1, 0, 0, 0), (.getfield 23, 3, 10, 25, 0), (.iload 6, 2, 0, 0, 0), (.iaload, 1, 0, 0, 0), (.i2l, 1, 0, 0, 0), (.lstore 7, 2, 0, 0, 0), (.iload_n 3, 1, 0, 0, 0), (.ifCond .lt 14, 3, 86, 0, 0), (.lload 7, 2, 0, 0, 0), (.lload 4, 2, 0, 0, 0), (.lcmp, 1, 0, 0, 0), (.ifCond .gt 6, 3, 86, 0, 0), (.goto 10, 3, 93, 0, 0)]
set_option maxRecDepth 20000 in
theorem hX10_bestPlace_61 : zChk false 10 cX10_bestPlace 61 bX10_bestPlace_61 = true := by decide +kernel
def bX10_bestPlace_69 : List zI := [(.lstore 7, 2, 0, 0, 0), (.iload_n 3, 1, 0, 0, 0), (.ifCond .lt 14, 3, 86, 0, 0), (.lload 7, 2, 0, 0, 0), (.lload 4, 2, 0, 0, 0), (.lcmp, 1, 0, 0, 0), (.ifCond .gt 6, 3, 86, 0, 0), (.goto 10, 3, 93, 0, 0)]
set_option maxRecDepth 20000 in
theorem hX10_bestPlace_69 : zChk false 10 cX10_bestPlace 69 bX10_bestPlace_69 = true := by decide +kernel
def bX10_bestPlace_86 : List zI := [(.iload 6, 2, 0, 0, 0), (.istore_n 3, 1, 0, 0, 0), (.lload 7, 2, 0, 0, 0), (.lstore 4, 2, 0, 0, 0), (.iinc 6 1, 3, 0, 0, 0), (.goto (-88), 3, 8, 0, 0)]
set_option maxRecDepth 20000 in
theorem hX10_bestPlace_86 : zChk false 10 cX10_bestPlace 86 bX10_bestPlace_86 = true := by decide +kernel
def bX10_bestPlace_93 : List zI := [(.iinc 6 1, 3, 0, 0, 0), (.goto (-88), 3, 8, 0, 0)]
set_option maxRecDepth 20000 in
theorem hX10_bestPlace_93 : zChk false 10 cX10_bestPlace 93 bX10_bestPlace_93 = true := by decide +kernel
def bX10_bestPlace_99 : List zI := [(.iload_n 3, 1, 0, 0, 0), (.ireturn, 1, 0, 0, 0)]
set_option maxRecDepth 20000 in
theorem hX10_bestPlace_99 : zChk false 10 cX10_bestPlace 99 bX10_bestPlace_99 = true := by decide +kernel
def bX10_comesOn_0 : List zI := [(.aload_n 0, 1, 0, 0, 0), (.iload_n 1, 1, 0, 0, 0), (.iload_n 2, 1, 0, 0, 0)]
set_option maxRecDepth 20000 in
theorem hX10_comesOn_0 : zChk false 10 cX10_comesOn 0 bX10_comesOn_0 = true := by decide +kernel
def bX10_comesOn_6 : List zI := [(.istore_n 3, 1, 0, 0, 0), (.iload_n 3, 1, 0, 0, 0), (.ifCond .ge 19, 3, 27, 0, 0), (.aload_n 0, 1, 0, 0, 0), (.getfield 109, 3, 10, 62, 0), (.bipush 7, 2, 0, 0, 0), (.iload_n 1, 1, 0, 0, 0), (.imul, 1, 0, 0, 0), (.iconst 4, 1, 0, 0, 0), (.iadd, 1, 0, 0, 0), (.dup2, 1, 0, 0, 0), (.iaload, 1, 0, 0, 0), (.iconst 1, 1, 0, 0, 0), (.iadd, 1, 0, 0, 0), (.iastore, 1, 0, 0, 0), (.return_, 1, 0, 0, 0)]
set_option maxRecDepth 20000 in
theorem hX10_comesOn_6 : zChk false 10 cX10_comesOn 6 bX10_comesOn_6 = true := by decide +kernel
def bX10_comesOn_27 : List zI := [(.aload_n 0, 1, 0, 0, 0), (.iconst 1, 1, 0, 0, 0), (.iload_n 1, 1, 0, 0, 0), (.iload_n 3, 1, 0, 0, 0), (.iload_n 2, 1, 0, 0, 0), (.bipush 8, 2, 0, 0, 0), (.iconst 1, 1, 0, 0, 0), (.bipush 95, 2, 0, 0, 0)]
set_option maxRecDepth 20000 in
theorem hX10_comesOn_27 : zChk false 10 cX10_comesOn 27 bX10_comesOn_27 = true := by decide +kernel
def bX10_comesOn_40 : List zI := [(.istore 4, 2, 0, 0, 0), (.iconst 0, 1, 0, 0, 0), (.istore 5, 2, 0, 0, 0)]
set_option maxRecDepth 20000 in
theorem hX10_comesOn_40 : zChk false 10 cX10_comesOn 40 bX10_comesOn_40 = true := by decide +kernel
def bX10_comesOn_45 : List zI := [(.aload_n 0, 1, 0, 0, 0), (.getfield 94, 3, 10, 57, 0), (.bipush 40, 2, 0, 0, 0), (.iload_n 1, 1, 0, 0, 0), (.imul, 1, 0, 0, 0), (.iload 5, 2, 0, 0, 0), (.iadd, 1, 0, 0, 0), (.iaload, 1, 0, 0, 0), (.iconst 1, 1, 0, 0, 0), (.if_icmp .ne 19, 3, 77, 0, 0), (.aload_n 0, 1, 0, 0, 0), (.getfield 97, 3, 10, 58, 0), (.bipush 40, 2, 0, 0, 0), (.iload_n 1, 1, 0, 0, 0), (.imul, 1, 0, 0, 0), (.iload 5, 2, 0, 0, 0), (.iadd, 1, 0, 0, 0), (.iaload, 1, 0, 0, 0), (.iload_n 3, 1, 0, 0, 0), (.if_icmp .eq 9, 3, 83, 0, 0), (.iinc 5 1, 3, 0, 0, 0), (.goto (-35), 3, 45, 0, 0)]
set_option maxRecDepth 20000 in
theorem hX10_comesOn_45 : zChk false 10 cX10_comesOn 45 bX10_comesOn_45 = true := by decide +kernel
def bX10_comesOn_77 : List zI := [(.iinc 5 1, 3, 0, 0, 0), (.goto (-35), 3, 45, 0, 0)]
set_option maxRecDepth 20000 in
theorem hX10_comesOn_77 : zChk false 10 cX10_comesOn 77 bX10_comesOn_77 = true := by decide +kernel
def bX10_comesOn_83 : List zI := [(.aload_n 0, 1, 0, 0, 0), (.getfield 94, 3, 10, 57, 0), (.bipush 40, 2, 0, 0, 0), (.iload_n 1, 1, 0, 0, 0), (.imul, 1, 0, 0, 0), (.iload 5, 2, 0, 0, 0), (.iadd, 1, 0, 0, 0), (.iconst 2, 1, 0, 0, 0), (.iastore, 1, 0, 0, 0), (.aload_n 0, 1, 0, 0, 0), (.getfield 103, 3, 10, 60, 0), (.bipush 40, 2, 0, 0, 0), (.iload_n 1, 1, 0, 0, 0), (.imul, 1, 0, 0, 0), (.iload 5, 2, 0, 0, 0), (.iadd, 1, 0, 0, 0), (.iload_n 2, 1, 0, 0, 0), (.iload 4, 2, 0, 0, 0), (.iadd, 1, 0, 0, 0), (.iastore, 1, 0, 0, 0), (.aload_n 0, 1, 0, 0, 0), (.getfield 106, 3, 10, 61, 0), (.bipush 40, 2, 0, 0, 0), (.iload_n 1, 1, 0, 0, 0), (.imul, 1, 0, 0, 0), (.iload 5, 2, 0, 0, 0), (.iadd, 1, 0, 0, 0), (.iconst 0, 1, 0, 0, 0), (.bastore, 1, 0, 0, 0), (.return_, 1, 0, 0, 0)]
set_option maxRecDepth 20000 in
theorem hX10_comesOn_83 : zChk false 10 cX10_comesOn 83 bX10_comesOn_83 = true := by decide +kernel
def bX10_balanceOf_0 : List zI := [(.aload_n 0, 1, 0, 0, 0), (.getfield 109, 3, 10, 62, 0), (.bipush 7, 2, 0, 0, 0), (.iload_n 1, 1, 0, 0, 0), (.imul, 1, 0, 0, 0), (.iaload, 1, 0, 0, 0), (.aload_n 0, 1, 0, 0, 0), (.getfield 56, 3, 10, 36, 0), (.bipush 9, 2, 0, 0, 0), (.iaload, 1, 0, 0, 0), (.aload_n 0, 1, 0, 0, 0), (.getfield 109, 3, 10, 62, 0), (.bipush 7, 2, 0, 0, 0), (.iload_n 1, 1, 0, 0, 0), (.imul, 1, 0, 0, 0), (.iconst 5, 1, 0, 0, 0), (.iadd, 1, 0, 0, 0), (.iaload, 1, 0, 0, 0), (.imul, 1, 0, 0, 0), (.isub, 1, 0, 0, 0), (.ireturn, 1, 0, 0, 0)]
set_option maxRecDepth 20000 in
theorem hX10_balanceOf_0 : zChk false 10 cX10_balanceOf 0 bX10_balanceOf_0 = true := by decide +kernel
def bX10_isChair_0 : List zI := [(.iload_n 1, 1, 0, 0, 0), (.ifCond .lt 17, 3, 18, 0, 0), (.iload_n 1, 1, 0, 0, 0), (.aload_n 0, 1, 0, 0, 0), (.getfield 56, 3, 10, 36, 0), (.iconst 1, 1, 0, 0, 0), (.iaload, 1, 0, 0, 0), (.if_icmp .ge 7, 3, 18, 0, 0), (.iconst 1, 1, 0, 0, 0), (.goto 4, 3, 19, 0, 0)]
set_option maxRecDepth 20000 in
theorem hX10_isChair_0 : zChk false 10 cX10_isChair 0 bX10_isChair_0 = true := by decide +kernel
def bX10_isChair_18 : List zI := [(.iconst 0, 1, 0, 0, 0), (.ireturn, 1, 0, 0, 0)]
set_option maxRecDepth 20000 in
theorem hX10_isChair_18 : zChk false 10 cX10_isChair 18 bX10_isChair_18 = true := by decide +kernel
def bX10_isChair_19 : List zI := [(.ireturn, 1, 0, 0, 0)]
set_option maxRecDepth 20000 in
theorem hX10_isChair_19 : zChk false 10 cX10_isChair 19 bX10_isChair_19 = true := by decide +kernel
def bX10_isPlace_0 : List zI := [(.iload_n 1, 1, 0, 0, 0), (.ifCond .lt 15, 3, 16, 0, 0), (.iload_n 1, 1, 0, 0, 0), (.aload_n 0, 1, 0, 0, 0), (.getfield 261, 3, 10, 12, 0), (.if_icmp .ge 7, 3, 16, 0, 0), (.iconst 1, 1, 0, 0, 0), (.goto 4, 3, 17, 0, 0)]
set_option maxRecDepth 20000 in
theorem hX10_isPlace_0 : zChk false 10 cX10_isPlace 0 bX10_isPlace_0 = true := by decide +kernel
def bX10_isPlace_16 : List zI := [(.iconst 0, 1, 0, 0, 0), (.ireturn, 1, 0, 0, 0)]
set_option maxRecDepth 20000 in
theorem hX10_isPlace_16 : zChk false 10 cX10_isPlace 16 bX10_isPlace_16 = true := by decide +kernel
def bX10_isPlace_17 : List zI := [(.ireturn, 1, 0, 0, 0)]
set_option maxRecDepth 20000 in
theorem hX10_isPlace_17 : zChk false 10 cX10_isPlace 17 bX10_isPlace_17 = true := by decide +kernel
def bX10_isRun_0 : List zI := [(.iload_n 1, 1, 0, 0, 0), (.iconst 0, 1, 0, 0, 0), (.bipush 96, 2, 0, 0, 0)]
set_option maxRecDepth 20000 in
theorem hX10_isRun_0 : zChk false 10 cX10_isRun 0 bX10_isRun_0 = true := by decide +kernel
def bX10_isRun_7 : List zI := [(.ifCond .eq 18, 3, 25, 0, 0), (.aload_n 0, 1, 0, 0, 0), (.getfield 387, 3, 10, 55, 0), (.iload_n 1, 1, 0, 0, 0), (.iadd, 1, 0, 0, 0), (.bipush 96, 2, 0, 0, 0), (.if_icmp .gt 7, 3, 25, 0, 0), (.iconst 1, 1, 0, 0, 0), (.goto 4, 3, 26, 0, 0)]
set_option maxRecDepth 20000 in
theorem hX10_isRun_7 : zChk false 10 cX10_isRun 7 bX10_isRun_7 = true := by decide +kernel
def bX10_isRun_25 : List zI := [(.iconst 0, 1, 0, 0, 0), (.ireturn, 1, 0, 0, 0)]
set_option maxRecDepth 20000 in
theorem hX10_isRun_25 : zChk false 10 cX10_isRun 25 bX10_isRun_25 = true := by decide +kernel
def bX10_isRun_26 : List zI := [(.ireturn, 1, 0, 0, 0)]
set_option maxRecDepth 20000 in
theorem hX10_isRun_26 : zChk false 10 cX10_isRun 26 bX10_isRun_26 = true := by decide +kernel
def bX10_fails_0 : List zI := [(.aload_n 0, 1, 0, 0, 0), (.iload_n 1, 1, 0, 0, 0), (.putfield 178, 3, 10, 2, 0), (.iconst 0, 1, 0, 0, 0), (.ireturn, 1, 0, 0, 0)]
set_option maxRecDepth 20000 in
theorem hX10_fails_0 : zChk false 10 cX10_fails 0 bX10_fails_0 = true := by decide +kernel
def bX10_look_0 : List zI := [(.aload_n 0, 1, 0, 0, 0), (.iconst 0, 1, 0, 0, 0), (.putfield 178, 3, 10, 2, 0), (.aload_n 0, 1, 0, 0, 0), (.iload_n 1, 1, 0, 0, 0)]
set_option maxRecDepth 20000 in
theorem hX10_look_0 : zChk false 10 cX10_look 0 bX10_look_0 = true := by decide +kernel
def bX10_look_10 : List zI := [(.ifCond .ne 9, 3, 19, 0, 0), (.aload_n 0, 1, 0, 0, 0), (.iconst 1, 1, 0, 0, 0)]
set_option maxRecDepth 20000 in
theorem hX10_look_10 : zChk false 10 cX10_look 10 bX10_look_10 = true := by decide +kernel
def bX10_look_18 : List zI := [(.ireturn, 1, 0, 0, 0)]
set_option maxRecDepth 20000 in
theorem hX10_look_18 : zChk false 10 cX10_look 18 bX10_look_18 = true := by decide +kernel
def bX10_look_19 : List zI := [(.iload_n 2, 1, 0, 0, 0)]
set_option maxRecDepth 20000 in
theorem hX10_look_19 : zChk false 10 cX10_look 19 bX10_look_19 = true := by decide +kernel
def bX10_look_56 : List zI := [(.aload_n 0, 1, 0, 0, 0), (.getfield 94, 3, 10, 57, 0), (.iload_n 1, 1, 0, 0, 0), (.iaload, 1, 0, 0, 0), (.ireturn, 1, 0, 0, 0)]
set_option maxRecDepth 20000 in
theorem hX10_look_56 : zChk false 10 cX10_look 56 bX10_look_56 = true := by decide +kernel
def bX10_look_63 : List zI := [(.aload_n 0, 1, 0, 0, 0), (.getfield 97, 3, 10, 58, 0), (.iload_n 1, 1, 0, 0, 0), (.iaload, 1, 0, 0, 0), (.ireturn, 1, 0, 0, 0)]
set_option maxRecDepth 20000 in
theorem hX10_look_63 : zChk false 10 cX10_look 63 bX10_look_63 = true := by decide +kernel
def bX10_look_70 : List zI := [(.aload_n 0, 1, 0, 0, 0), (.getfield 100, 3, 10, 59, 0), (.iload_n 1, 1, 0, 0, 0), (.iaload, 1, 0, 0, 0), (.ireturn, 1, 0, 0, 0)]
set_option maxRecDepth 20000 in
theorem hX10_look_70 : zChk false 10 cX10_look 70 bX10_look_70 = true := by decide +kernel
def bX10_look_77 : List zI := [(.aload_n 0, 1, 0, 0, 0), (.getfield 103, 3, 10, 60, 0), (.iload_n 1, 1, 0, 0, 0), (.iaload, 1, 0, 0, 0), (.ireturn, 1, 0, 0, 0)]
set_option maxRecDepth 20000 in
theorem hX10_look_77 : zChk false 10 cX10_look 77 bX10_look_77 = true := by decide +kernel
def bX10_look_84 : List zI := [(.aload_n 0, 1, 0, 0, 0), (.getfield 106, 3, 10, 61, 0), (.iload_n 1, 1, 0, 0, 0), (.baload, 1, 0, 0, 0), (.ifCond .eq 7, 3, 97, 0, 0), (.iconst 1, 1, 0, 0, 0), (.goto 4, 3, 98, 0, 0)]
set_option maxRecDepth 20000 in
theorem hX10_look_84 : zChk false 10 cX10_look 84 bX10_look_84 = true := by decide +kernel
def bX10_look_97 : List zI := [(.iconst 0, 1, 0, 0, 0), (.ireturn, 1, 0, 0, 0)]
set_option maxRecDepth 20000 in
theorem hX10_look_97 : zChk false 10 cX10_look 97 bX10_look_97 = true := by decide +kernel
def bX10_look_98 : List zI := [(.ireturn, 1, 0, 0, 0)]
set_option maxRecDepth 20000 in
theorem hX10_look_98 : zChk false 10 cX10_look 98 bX10_look_98 = true := by decide +kernel
def bX10_look_99 : List zI := [(.aload_n 0, 1, 0, 0, 0), (.iconst 2, 1, 0, 0, 0)]
set_option maxRecDepth 20000 in
theorem hX10_look_99 : zChk false 10 cX10_look 99 bX10_look_99 = true := by decide +kernel
def bX10_look_104 : List zI := [(.ireturn, 1, 0, 0, 0)]
set_option maxRecDepth 20000 in
theorem hX10_look_104 : zChk false 10 cX10_look 104 bX10_look_104 = true := by decide +kernel
def bX10_law_0 : List zI := [(.aload_n 0, 1, 0, 0, 0), (.iconst 0, 1, 0, 0, 0), (.putfield 178, 3, 10, 2, 0), (.aload_n 0, 1, 0, 0, 0)]
set_option maxRecDepth 20000 in
theorem hX10_law_0 : zChk false 10 cX10_law 0 bX10_law_0 = true := by decide +kernel
def bX10_law_9 : List zI := [(.iload_n 1, 1, 0, 0, 0), (.iconst 0, 1, 0, 0, 0), (.iconst 2, 1, 0, 0, 0)]
set_option maxRecDepth 20000 in
theorem hX10_law_9 : zChk false 10 cX10_law 9 bX10_law_9 = true := by decide +kernel
def bX10_law_15 : List zI := [(.ifCond .eq 29, 3, 44, 0, 0), (.aload_n 0, 1, 0, 0, 0), (.getfield 63, 3, 10, 38, 0), (.iload_n 1, 1, 0, 0, 0), (.baload, 1, 0, 0, 0), (.ifCond .eq 20, 3, 44, 0, 0), (.aload_n 0, 1, 0, 0, 0), (.iload_n 2, 1, 0, 0, 0)]
set_option maxRecDepth 20000 in
theorem hX10_law_15 : zChk false 10 cX10_law 15 bX10_law_15 = true := by decide +kernel
def bX10_law_32 : List zI := [(.ifCond .eq 12, 3, 44, 0, 0), (.aload_n 0, 1, 0, 0, 0), (.getfield 387, 3, 10, 55, 0), (.bipush 95, 2, 0, 0, 0), (.if_icmp .le 7, 3, 48, 0, 0), (.ldc2_w 516, 3, 0, 0, -9223372036854775808), (.lreturn, 1, 0, 0, 0)]
set_option maxRecDepth 20000 in
theorem hX10_law_32 : zChk false 10 cX10_law 32 bX10_law_32 = true := by decide +kernel
def bX10_law_44 : List zI := [(.ldc2_w 516, 3, 0, 0, -9223372036854775808), (.lreturn, 1, 0, 0, 0)]
set_option maxRecDepth 20000 in
theorem hX10_law_44 : zChk false 10 cX10_law 44 bX10_law_44 = true := by decide +kernel
def bX10_law_48 : List zI := [(.aload_n 0, 1, 0, 0, 0), (.iload_n 1, 1, 0, 0, 0), (.iconst 0, 1, 0, 0, 0), (.iload_n 2, 1, 0, 0, 0), (.aload_n 0, 1, 0, 0, 0), (.getfield 387, 3, 10, 55, 0)]
set_option maxRecDepth 20000 in
theorem hX10_law_48 : zChk false 10 cX10_law 48 bX10_law_48 = true := by decide +kernel
def bX10_law_59 : List zI := [(.lstore_n 3, 1, 0, 0, 0), (.aload_n 0, 1, 0, 0, 0), (.getfield 368, 3, 10, 54, 0), (.ifCond .eq 9, 3, 73, 0, 0), (.ldc2_w 516, 3, 0, 0, -9223372036854775808), (.goto 4, 3, 74, 0, 0)]
set_option maxRecDepth 20000 in
theorem hX10_law_59 : zChk false 10 cX10_law 59 bX10_law_59 = true := by decide +kernel
def bX10_law_73 : List zI := [(.lload_n 3, 1, 0, 0, 0), (.lreturn, 1, 0, 0, 0)]
set_option maxRecDepth 20000 in
theorem hX10_law_73 : zChk false 10 cX10_law 73 bX10_law_73 = true := by decide +kernel
def bX10_law_74 : List zI := [(.lreturn, 1, 0, 0, 0)]
set_option maxRecDepth 20000 in
theorem hX10_law_74 : zChk false 10 cX10_law 74 bX10_law_74 = true := by decide +kernel
def bX10_lays_0 : List zI := [(.iconst 0, 1, 0, 0, 0), (.istore 6, 2, 0, 0, 0), (.iconst 0, 1, 0, 0, 0), (.istore 7, 2, 0, 0, 0)]
set_option maxRecDepth 20000 in
theorem hX10_lays_0 : zChk false 10 cX10_lays 0 bX10_lays_0 = true := by decide +kernel
def bX10_lays_6 : List zI := [(.iload 7, 2, 0, 0, 0), (.aload_n 0, 1, 0, 0, 0), (.getfield 56, 3, 10, 36, 0), (.iconst 1, 1, 0, 0, 0), (.iaload, 1, 0, 0, 0), (.if_icmp .ge 61, 3, 75, 0, 0), (.iload 6, 2, 0, 0, 0), (.iload_n 1, 1, 0, 0, 0), (.if_icmp .ge 55, 3, 75, 0, 0), (.aload_n 0, 1, 0, 0, 0), (.getfield 94, 3, 10, 57, 0), (.iload 7, 2, 0, 0, 0), (.iaload, 1, 0, 0, 0), (.iload_n 2, 1, 0, 0, 0), (.if_icmp .ne 38, 3, 69, 0, 0), (.aload_n 0, 1, 0, 0, 0), (.getfield 97, 3, 10, 58, 0), (.iload 7, 2, 0, 0, 0), (.iaload, 1, 0, 0, 0), (.iload_n 3, 1, 0, 0, 0), (.if_icmp .eq 6, 3, 48, 0, 0), (.goto 24, 3, 69, 0, 0)]
set_option maxRecDepth 20000 in
theorem hX10_lays_6 : zChk false 10 cX10_lays 6 bX10_lays_6 = true := by decide +kernel
def bX10_lays_48 : List zI := [(.aload_n 0, 1, 0, 0, 0), (.getfield 94, 3, 10, 57, 0), (.iload 7, 2, 0, 0, 0), (.iload 4, 2, 0, 0, 0), (.iastore, 1, 0, 0, 0), (.aload_n 0, 1, 0, 0, 0), (.getfield 97, 3, 10, 58, 0), (.iload 7, 2, 0, 0, 0), (.iload 5, 2, 0, 0, 0), (.iastore, 1, 0, 0, 0), (.iinc 6 1, 3, 0, 0, 0), (.iinc 7 1, 3, 0, 0, 0), (.goto (-66), 3, 6, 0, 0)]
set_option maxRecDepth 20000 in
theorem hX10_lays_48 : zChk false 10 cX10_lays 48 bX10_lays_48 = true := by decide +kernel
def bX10_lays_69 : List zI := [(.iinc 7 1, 3, 0, 0, 0), (.goto (-66), 3, 6, 0, 0)]
set_option maxRecDepth 20000 in
theorem hX10_lays_69 : zChk false 10 cX10_lays 69 bX10_lays_69 = true := by decide +kernel
def bX10_lays_75 : List zI := [(.iload 6, 2, 0, 0, 0), (.ireturn, 1, 0, 0, 0)]
set_option maxRecDepth 20000 in
theorem hX10_lays_75 : zChk false 10 cX10_lays 75 bX10_lays_75 = true := by decide +kernel
def bX10_leftOf_0 : List zI := [(.aload_n 0, 1, 0, 0, 0), (.getfield 56, 3, 10, 36, 0), (.bipush 7, 2, 0, 0, 0), (.iaload, 1, 0, 0, 0), (.aload_n 0, 1, 0, 0, 0), (.getfield 390, 3, 10, 56, 0), (.isub, 1, 0, 0, 0), (.istore_n 3, 1, 0, 0, 0), (.iload_n 3, 1, 0, 0, 0), (.iload_n 2, 1, 0, 0, 0), (.if_icmp .ge 7, 3, 22, 0, 0), (.iload_n 3, 1, 0, 0, 0), (.goto 4, 3, 23, 0, 0)]
set_option maxRecDepth 20000 in
theorem hX10_leftOf_0 : zChk false 10 cX10_leftOf 0 bX10_leftOf_0 = true := by decide +kernel
def bX10_leftOf_22 : List zI := [(.iload_n 2, 1, 0, 0, 0), (.istore_n 3, 1, 0, 0, 0), (.iload_n 1, 1, 0, 0, 0), (.iload_n 3, 1, 0, 0, 0), (.if_icmp .ge 7, 3, 33, 0, 0), (.iload_n 1, 1, 0, 0, 0), (.goto 4, 3, 34, 0, 0)]
set_option maxRecDepth 20000 in
theorem hX10_leftOf_22 : zChk false 10 cX10_leftOf 22 bX10_leftOf_22 = true := by decide +kernel
def bX10_leftOf_23 : List zI := [(.istore_n 3, 1, 0, 0, 0), (.iload_n 1, 1, 0, 0, 0), (.iload_n 3, 1, 0, 0, 0), (.if_icmp .ge 7, 3, 33, 0, 0), (.iload_n 1, 1, 0, 0, 0), (.goto 4, 3, 34, 0, 0)]
set_option maxRecDepth 20000 in
theorem hX10_leftOf_23 : zChk false 10 cX10_leftOf 23 bX10_leftOf_23 = true := by decide +kernel
def bX10_leftOf_33 : List zI := [(.iload_n 3, 1, 0, 0, 0), (.ireturn, 1, 0, 0, 0)]
set_option maxRecDepth 20000 in
theorem hX10_leftOf_33 : zChk false 10 cX10_leftOf 33 bX10_leftOf_33 = true := by decide +kernel
def bX10_leftOf_34 : List zI := [(.ireturn, 1, 0, 0, 0)]
set_option maxRecDepth 20000 in
theorem hX10_leftOf_34 : zChk false 10 cX10_leftOf 34 bX10_leftOf_34 = true := by decide +kernel
def bX10_bring_0 : List zI := [(.aload_n 0, 1, 0, 0, 0), (.iconst 0, 1, 0, 0, 0), (.putfield 178, 3, 10, 2, 0), (.aload_n 0, 1, 0, 0, 0), (.iload_n 1, 1, 0, 0, 0)]
set_option maxRecDepth 20000 in
theorem hX10_bring_0 : zChk false 10 cX10_bring 0 bX10_bring_0 = true := by decide +kernel
def bX10_bring_10 : List zI := [(.ifCond .eq 13, 3, 23, 0, 0), (.iload_n 2, 1, 0, 0, 0), (.iconst 0, 1, 0, 0, 0), (.bipush 40, 2, 0, 0, 0)]
set_option maxRecDepth 20000 in
theorem hX10_bring_10 : zChk false 10 cX10_bring 10 bX10_bring_10 = true := by decide +kernel
def bX10_bring_20 : List zI := [(.ifCond .ne 5, 3, 25, 0, 0), (.iconst (-1), 1, 0, 0, 0), (.ireturn, 1, 0, 0, 0)]
set_option maxRecDepth 20000 in
theorem hX10_bring_20 : zChk false 10 cX10_bring 20 bX10_bring_20 = true := by decide +kernel
def bX10_bring_23 : List zI := [(.iconst (-1), 1, 0, 0, 0), (.ireturn, 1, 0, 0, 0)]
set_option maxRecDepth 20000 in
theorem hX10_bring_23 : zChk false 10 cX10_bring 23 bX10_bring_23 = true := by decide +kernel
def bX10_bring_25 : List zI := [(.aload_n 0, 1, 0, 0, 0), (.iload_n 2, 1, 0, 0, 0), (.aload_n 0, 1, 0, 0, 0), (.iconst 0, 1, 0, 0, 0), (.iload_n 1, 1, 0, 0, 0), (.iconst 1, 1, 0, 0, 0)]
set_option maxRecDepth 20000 in
theorem hX10_bring_25 : zChk false 10 cX10_bring 25 bX10_bring_25 = true := by decide +kernel
def bX10_bring_37 : List zI := [(.istore_n 3, 1, 0, 0, 0), (.iload_n 3, 1, 0, 0, 0), (.ifCond .ne 5, 3, 44, 0, 0), (.iconst 0, 1, 0, 0, 0), (.ireturn, 1, 0, 0, 0)]
set_option maxRecDepth 20000 in
theorem hX10_bring_37 : zChk false 10 cX10_bring 37 bX10_bring_37 = true := by decide +kernel
def bX10_bring_44 : List zI := [(.aload_n 0, 1, 0, 0, 0)]
set_option maxRecDepth 20000 in
theorem hX10_bring_44 : zChk false 10 cX10_bring 44 bX10_bring_44 = true := by decide +kernel
def bX10_bring_48 : List zI := [(.aload_n 0, 1, 0, 0, 0), (.dup, 1, 0, 0, 0), (.getfield 390, 3, 10, 56, 0), (.iload_n 3, 1, 0, 0, 0), (.iadd, 1, 0, 0, 0), (.putfield 390, 3, 10, 56, 0), (.aload_n 0, 1, 0, 0, 0), (.iload_n 3, 1, 0, 0, 0), (.iconst 1, 1, 0, 0, 0), (.iload_n 1, 1, 0, 0, 0), (.iconst 0, 1, 0, 0, 0), (.iconst (-1), 1, 0, 0, 0)]
set_option maxRecDepth 20000 in
theorem hX10_bring_48 : zChk false 10 cX10_bring 48 bX10_bring_48 = true := by decide +kernel
def bX10_bring_67 : List zI := [(.ireturn, 1, 0, 0, 0)]
set_option maxRecDepth 20000 in
theorem hX10_bring_67 : zChk false 10 cX10_bring 67 bX10_bring_67 = true := by decide +kernel
def bX10_bringAll_0 : List zI := [(.bipush 40, 2, 0, 0, 0), (.istore_n 1, 1, 0, 0, 0)]
set_option maxRecDepth 20000 in
theorem hX10_bringAll_0 : zChk false 10 cX10_bringAll 0 bX10_bringAll_0 = true := by decide +kernel
def bX10_bringAll_3 : List zI := [(.iload_n 1, 1, 0, 0, 0), (.bipush 40, 2, 0, 0, 0), (.aload_n 0, 1, 0, 0, 0), (.getfield 56, 3, 10, 36, 0), (.iconst 1, 1, 0, 0, 0), (.iaload, 1, 0, 0, 0), (.iadd, 1, 0, 0, 0), (.if_icmp .ge 36, 3, 49, 0, 0), (.aload_n 0, 1, 0, 0, 0), (.getfield 94, 3, 10, 57, 0), (.iload_n 1, 1, 0, 0, 0), (.iaload, 1, 0, 0, 0), (.iconst 1, 1, 0, 0, 0), (.if_icmp .eq 6, 3, 29, 0, 0), (.goto 17, 3, 43, 0, 0)]
set_option maxRecDepth 20000 in
theorem hX10_bringAll_3 : zChk false 10 cX10_bringAll 3 bX10_bringAll_3 = true := by decide +kernel
def bX10_bringAll_29 : List zI := [(.aload_n 0, 1, 0, 0, 0), (.getfield 94, 3, 10, 57, 0), (.iload_n 1, 1, 0, 0, 0), (.iconst 0, 1, 0, 0, 0), (.iastore, 1, 0, 0, 0), (.aload_n 0, 1, 0, 0, 0), (.getfield 97, 3, 10, 58, 0), (.iload_n 1, 1, 0, 0, 0), (.iconst (-1), 1, 0, 0, 0), (.iastore, 1, 0, 0, 0), (.iinc 1 1, 3, 0, 0, 0), (.goto (-43), 3, 3, 0, 0)]
set_option maxRecDepth 20000 in
theorem hX10_bringAll_29 : zChk false 10 cX10_bringAll 29 bX10_bringAll_29 = true := by decide +kernel
def bX10_bringAll_43 : List zI := [(.iinc 1 1, 3, 0, 0, 0), (.goto (-43), 3, 3, 0, 0)]
set_option maxRecDepth 20000 in
theorem hX10_bringAll_43 : zChk false 10 cX10_bringAll 43 bX10_bringAll_43 = true := by decide +kernel
def bX10_bringAll_49 : List zI := [(.return_, 1, 0, 0, 0)]
set_option maxRecDepth 20000 in
theorem hX10_bringAll_49 : zChk false 10 cX10_bringAll 49 bX10_bringAll_49 = true := by decide +kernel
def bX10_firstOrder_0 : List zI := [(.iconst 0, 1, 0, 0, 0), (.istore_n 1, 1, 0, 0, 0)]
set_option maxRecDepth 20000 in
theorem hX10_firstOrder_0 : zChk false 10 cX10_firstOrder 0 bX10_firstOrder_0 = true := by decide +kernel
def bX10_firstOrder_2 : List zI := [(.iload_n 1, 1, 0, 0, 0), (.iconst 5, 1, 0, 0, 0), (.if_icmp .ge 16, 3, 20, 0, 0), (.aload_n 0, 1, 0, 0, 0), (.getfield 136, 3, 10, 84, 0), (.iload_n 1, 1, 0, 0, 0), (.iload_n 1, 1, 0, 0, 0), (.iastore, 1, 0, 0, 0), (.iinc 1 1, 3, 0, 0, 0), (.goto (-15), 3, 2, 0, 0)]
set_option maxRecDepth 20000 in
theorem hX10_firstOrder_2 : zChk false 10 cX10_firstOrder 2 bX10_firstOrder_2 = true := by decide +kernel
def bX10_firstOrder_20 : List zI := [(.return_, 1, 0, 0, 0)]
set_option maxRecDepth 20000 in
theorem hX10_firstOrder_20 : zChk false 10 cX10_firstOrder 20 bX10_firstOrder_20 = true := by decide +kernel
def bX10_best_0 : List zI := [(.aload_n 0, 1, 0, 0, 0), (.iconst 0, 1, 0, 0, 0), (.putfield 178, 3, 10, 2, 0), (.aload_n 0, 1, 0, 0, 0), (.iload_n 1, 1, 0, 0, 0)]
set_option maxRecDepth 20000 in
theorem hX10_best_0 : zChk false 10 cX10_best 0 bX10_best_0 = true := by decide +kernel
def bX10_best_10 : List zI := [(.ifCond .eq 12, 3, 22, 0, 0), (.iload_n 2, 1, 0, 0, 0), (.iconst 0, 1, 0, 0, 0), (.iconst 1, 1, 0, 0, 0)]
set_option maxRecDepth 20000 in
theorem hX10_best_10 : zChk false 10 cX10_best 10 bX10_best_10 = true := by decide +kernel
def bX10_best_19 : List zI := [(.ifCond .ne 7, 3, 26, 0, 0), (.ldc_w 533, 3, 0, 0, -2147483648), (.ireturn, 1, 0, 0, 0)]
set_option maxRecDepth 20000 in
theorem hX10_best_19 : zChk false 10 cX10_best 19 bX10_best_19 = true := by decide +kernel
def bX10_best_22 : List zI := [(.ldc_w 533, 3, 0, 0, -2147483648), (.ireturn, 1, 0, 0, 0)]
set_option maxRecDepth 20000 in
theorem hX10_best_22 : zChk false 10 cX10_best 22 bX10_best_22 = true := by decide +kernel
def bX10_best_26 : List zI := [(.aload_n 0, 1, 0, 0, 0)]
set_option maxRecDepth 20000 in
theorem hX10_best_26 : zChk false 10 cX10_best 26 bX10_best_26 = true := by decide +kernel
def bX10_best_30 : List zI := [(.iconst (-1), 1, 0, 0, 0), (.istore_n 3, 1, 0, 0, 0), (.iconst 0, 1, 0, 0, 0), (.istore 4, 2, 0, 0, 0), (.iconst 0, 1, 0, 0, 0), (.istore 5, 2, 0, 0, 0)]
set_option maxRecDepth 20000 in
theorem hX10_best_30 : zChk false 10 cX10_best 30 bX10_best_30 = true := by decide +kernel
def bX10_best_38 : List zI := [(.iload 5, 2, 0, 0, 0), (.bipush 21, 2, 0, 0, 0), (.if_icmp .ge 47, 3, 89, 0, 0), (.aload_n 0, 1, 0, 0, 0), (.iload 5, 2, 0, 0, 0), (.putfield 408, 3, 10, 67, 0), (.aload_n 0, 1, 0, 0, 0)]
set_option maxRecDepth 20000 in
theorem hX10_best_38 : zChk false 10 cX10_best 38 bX10_best_38 = true := by decide +kernel
def bX10_best_55 : List zI := [(.aload_n 0, 1, 0, 0, 0), (.iload_n 1, 1, 0, 0, 0)]
set_option maxRecDepth 20000 in
theorem hX10_best_55 : zChk false 10 cX10_best 55 bX10_best_55 = true := by decide +kernel
def bX10_best_60 : List zI := [(.istore 6, 2, 0, 0, 0), (.iload_n 3, 1, 0, 0, 0), (.ifCond .lt 13, 3, 76, 0, 0), (.iload 6, 2, 0, 0, 0), (.iload 4, 2, 0, 0, 0), (.if_icmp .gt 6, 3, 76, 0, 0), (.goto 10, 3, 83, 0, 0)]
set_option maxRecDepth 20000 in
theorem hX10_best_60 : zChk false 10 cX10_best 60 bX10_best_60 = true := by decide +kernel
def bX10_best_76 : List zI := [(.iload 5, 2, 0, 0, 0), (.istore_n 3, 1, 0, 0, 0), (.iload 6, 2, 0, 0, 0), (.istore 4, 2, 0, 0, 0), (.iinc 5 1, 3, 0, 0, 0), (.goto (-48), 3, 38, 0, 0)]
set_option maxRecDepth 20000 in
theorem hX10_best_76 : zChk false 10 cX10_best 76 bX10_best_76 = true := by decide +kernel
def bX10_best_83 : List zI := [(.iinc 5 1, 3, 0, 0, 0), (.goto (-48), 3, 38, 0, 0)]
set_option maxRecDepth 20000 in
theorem hX10_best_83 : zChk false 10 cX10_best 83 bX10_best_83 = true := by decide +kernel
def bX10_best_89 : List zI := [(.iload_n 2, 1, 0, 0, 0), (.ifCond .ne 7, 3, 97, 0, 0), (.iload_n 3, 1, 0, 0, 0), (.goto 5, 3, 99, 0, 0)]
set_option maxRecDepth 20000 in
theorem hX10_best_89 : zChk false 10 cX10_best 89 bX10_best_89 = true := by decide +kernel
def bX10_best_97 : List zI := [(.iload 4, 2, 0, 0, 0), (.ireturn, 1, 0, 0, 0)]
set_option maxRecDepth 20000 in
theorem hX10_best_97 : zChk false 10 cX10_best 97 bX10_best_97 = true := by decide +kernel
def bX10_best_99 : List zI := [(.ireturn, 1, 0, 0, 0)]
set_option maxRecDepth 20000 in
theorem hX10_best_99 : zChk false 10 cX10_best 99 bX10_best_99 = true := by decide +kernel
def bX10_gather_0 : List zI := [(.aload_n 0, 1, 0, 0, 0), (.iconst 0, 1, 0, 0, 0), (.putfield 178, 3, 10, 2, 0), (.aload_n 0, 1, 0, 0, 0), (.getfield 261, 3, 10, 12, 0), (.ifCond .eq 12, 3, 21, 0, 0), (.iload_n 1, 1, 0, 0, 0), (.iconst 0, 1, 0, 0, 0), (.iconst 2, 1, 0, 0, 0)]
set_option maxRecDepth 20000 in
theorem hX10_gather_0 : zChk false 10 cX10_gather 0 bX10_gather_0 = true := by decide +kernel
def bX10_gather_18 : List zI := [(.ifCond .ne 5, 3, 23, 0, 0), (.iconst (-1), 1, 0, 0, 0), (.ireturn, 1, 0, 0, 0)]
set_option maxRecDepth 20000 in
theorem hX10_gather_18 : zChk false 10 cX10_gather 18 bX10_gather_18 = true := by decide +kernel
def bX10_gather_21 : List zI := [(.iconst (-1), 1, 0, 0, 0), (.ireturn, 1, 0, 0, 0)]
set_option maxRecDepth 20000 in
theorem hX10_gather_21 : zChk false 10 cX10_gather 21 bX10_gather_21 = true := by decide +kernel
def bX10_gather_23 : List zI := [(.iconst (-1), 1, 0, 0, 0), (.istore_n 2, 1, 0, 0, 0), (.iconst (-1), 1, 0, 0, 0), (.istore_n 3, 1, 0, 0, 0), (.iconst 0, 1, 0, 0, 0), (.istore 4, 2, 0, 0, 0), (.aload_n 0, 1, 0, 0, 0)]
set_option maxRecDepth 20000 in
theorem hX10_gather_23 : zChk false 10 cX10_gather 23 bX10_gather_23 = true := by decide +kernel
def bX10_gather_34 : List zI := [(.iconst 1, 1, 0, 0, 0), (.istore 5, 2, 0, 0, 0)]
set_option maxRecDepth 20000 in
theorem hX10_gather_34 : zChk false 10 cX10_gather 34 bX10_gather_34 = true := by decide +kernel
def bX10_gather_37 : List zI := [(.iload 5, 2, 0, 0, 0), (.ifCond .eq 55, 3, 94, 0, 0), (.aload_n 0, 1, 0, 0, 0)]
set_option maxRecDepth 20000 in
theorem hX10_gather_37 : zChk false 10 cX10_gather 37 bX10_gather_37 = true := by decide +kernel
def bX10_gather_46 : List zI := [(.istore 6, 2, 0, 0, 0), (.aload_n 0, 1, 0, 0, 0)]
set_option maxRecDepth 20000 in
theorem hX10_gather_46 : zChk false 10 cX10_gather 46 bX10_gather_46 = true := by decide +kernel
def bX10_gather_52 : List zI := [(.istore 7, 2, 0, 0, 0), (.iload 6, 2, 0, 0, 0), (.iload_n 3, 1, 0, 0, 0), (.if_icmp .gt 16, 3, 73, 0, 0), (.iload 6, 2, 0, 0, 0), (.iload_n 3, 1, 0, 0, 0), (.if_icmp .ne 22, 3, 85, 0, 0), (.iload 7, 2, 0, 0, 0), (.iload 4, 2, 0, 0, 0), (.if_icmp .ge 15, 3, 85, 0, 0), (.iload 6, 2, 0, 0, 0), (.istore_n 3, 1, 0, 0, 0), (.iload 7, 2, 0, 0, 0), (.istore 4, 2, 0, 0, 0), (.aload_n 0, 1, 0, 0, 0)]
set_option maxRecDepth 20000 in
theorem hX10_gather_52 : zChk false 10 cX10_gather 52 bX10_gather_52 = true := by decide +kernel
def bX10_gather_73 : List zI := [(.iload 6, 2, 0, 0, 0), (.istore_n 3, 1, 0, 0, 0), (.iload 7, 2, 0, 0, 0), (.istore 4, 2, 0, 0, 0), (.aload_n 0, 1, 0, 0, 0)]
set_option maxRecDepth 20000 in
theorem hX10_gather_73 : zChk false 10 cX10_gather 73 bX10_gather_73 = true := by decide +kernel
def bX10_gather_84 : List zI := [(.istore_n 2, 1, 0, 0, 0), (.aload_n 0, 1, 0, 0, 0)]
set_option maxRecDepth 20000 in
theorem hX10_gather_84 : zChk false 10 cX10_gather 84 bX10_gather_84 = true := by decide +kernel
def bX10_gather_85 : List zI := [(.aload_n 0, 1, 0, 0, 0)]
set_option maxRecDepth 20000 in
theorem hX10_gather_85 : zChk false 10 cX10_gather 85 bX10_gather_85 = true := by decide +kernel
def bX10_gather_89 : List zI := [(.istore 5, 2, 0, 0, 0), (.goto (-54), 3, 37, 0, 0)]
set_option maxRecDepth 20000 in
theorem hX10_gather_89 : zChk false 10 cX10_gather 89 bX10_gather_89 = true := by decide +kernel
def bX10_gather_94 : List zI := [(.iload_n 1, 1, 0, 0, 0), (.ifCond .ne 7, 3, 102, 0, 0), (.iload_n 3, 1, 0, 0, 0), (.goto 14, 3, 113, 0, 0)]
set_option maxRecDepth 20000 in
theorem hX10_gather_94 : zChk false 10 cX10_gather 94 bX10_gather_94 = true := by decide +kernel
def bX10_gather_102 : List zI := [(.iload_n 1, 1, 0, 0, 0), (.iconst 1, 1, 0, 0, 0), (.if_icmp .ne 8, 3, 112, 0, 0), (.iload 4, 2, 0, 0, 0), (.goto 4, 3, 113, 0, 0)]
set_option maxRecDepth 20000 in
theorem hX10_gather_102 : zChk false 10 cX10_gather 102 bX10_gather_102 = true := by decide +kernel
def bX10_gather_112 : List zI := [(.iload_n 2, 1, 0, 0, 0), (.ireturn, 1, 0, 0, 0)]
set_option maxRecDepth 20000 in
theorem hX10_gather_112 : zChk false 10 cX10_gather 112 bX10_gather_112 = true := by decide +kernel
def bX10_gather_113 : List zI := [(.ireturn, 1, 0, 0, 0)]
set_option maxRecDepth 20000 in
theorem hX10_gather_113 : zChk false 10 cX10_gather 113 bX10_gather_113 = true := by decide +kernel
def bX10_intoBook_0 : List zI := [(.aload_n 0, 1, 0, 0, 0), (.getfield 142, 3, 10, 87, 0), (.aload_n 0, 1, 0, 0, 0), (.getfield 399, 3, 10, 85, 0), (.iload_n 1, 1, 0, 0, 0), (.iastore, 1, 0, 0, 0), (.aload_n 0, 1, 0, 0, 0), (.getfield 145, 3, 10, 88, 0), (.aload_n 0, 1, 0, 0, 0), (.getfield 399, 3, 10, 85, 0), (.iload_n 2, 1, 0, 0, 0), (.iastore, 1, 0, 0, 0), (.aload_n 0, 1, 0, 0, 0), (.dup, 1, 0, 0, 0), (.getfield 399, 3, 10, 85, 0), (.iconst 1, 1, 0, 0, 0), (.iadd, 1, 0, 0, 0), (.putfield 399, 3, 10, 85, 0), (.aload_n 0, 1, 0, 0, 0), (.getfield 399, 3, 10, 85, 0), (.iconst 1, 1, 0, 0, 0), (.isub, 1, 0, 0, 0), (.ireturn, 1, 0, 0, 0)]
set_option maxRecDepth 20000 in
theorem hX10_intoBook_0 : zChk false 10 cX10_intoBook 0 bX10_intoBook_0 = true := by decide +kernel
def bX10_day_0 : List zI := [(.aload_n 0, 1, 0, 0, 0), (.iconst 0, 1, 0, 0, 0), (.putfield 178, 3, 10, 2, 0), (.aload_n 0, 1, 0, 0, 0), (.getfield 399, 3, 10, 85, 0), (.bipush 60, 2, 0, 0, 0), (.if_icmp .eq 16, 3, 27, 0, 0), (.iload_n 1, 1, 0, 0, 0), (.ifCond .lt 12, 3, 27, 0, 0), (.iload_n 1, 1, 0, 0, 0), (.aload_n 0, 1, 0, 0, 0), (.getfield 273, 3, 10, 16, 0), (.ishr, 1, 0, 0, 0), (.ifCond .eq 7, 3, 31, 0, 0), (.iconst (-1), 1, 0, 0, 0), (.goto 17, 3, 45, 0, 0)]
set_option maxRecDepth 20000 in
theorem hX10_day_0 : zChk false 10 cX10_day 0 bX10_day_0 = true := by decide +kernel
def bX10_day_27 : List zI := [(.iconst (-1), 1, 0, 0, 0), (.goto 17, 3, 45, 0, 0)]
set_option maxRecDepth 20000 in
theorem hX10_day_27 : zChk false 10 cX10_day 27 bX10_day_27 = true := by decide +kernel
def bX10_day_31 : List zI := [(.aload_n 0, 1, 0, 0, 0), (.iload_n 1, 1, 0, 0, 0), (.iload_n 2, 1, 0, 0, 0), (.ifCond .eq 7, 3, 41, 0, 0), (.iconst 1, 1, 0, 0, 0), (.goto 4, 3, 42, 0, 0)]
set_option maxRecDepth 20000 in
theorem hX10_day_31 : zChk false 10 cX10_day 31 bX10_day_31 = true := by decide +kernel
def bX10_day_41 : List zI := [(.iconst 0, 1, 0, 0, 0)]
set_option maxRecDepth 20000 in
theorem hX10_day_41 : zChk false 10 cX10_day 41 bX10_day_41 = true := by decide +kernel
def bX10_day_45 : List zI := [(.ireturn, 1, 0, 0, 0)]
set_option maxRecDepth 20000 in
theorem hX10_day_45 : zChk false 10 cX10_day 45 bX10_day_45 = true := by decide +kernel
def bX10_known_0 : List zI := [(.aload_n 0, 1, 0, 0, 0), (.iconst 0, 1, 0, 0, 0), (.putfield 178, 3, 10, 2, 0), (.iload_n 1, 1, 0, 0, 0), (.iconst (-1), 1, 0, 0, 0), (.aload_n 0, 1, 0, 0, 0), (.getfield 399, 3, 10, 85, 0)]
set_option maxRecDepth 20000 in
theorem hX10_known_0 : zChk false 10 cX10_known 0 bX10_known_0 = true := by decide +kernel
def bX10_known_14 : List zI := [(.ifCond .ne 5, 3, 19, 0, 0), (.iconst 0, 1, 0, 0, 0), (.ireturn, 1, 0, 0, 0)]
set_option maxRecDepth 20000 in
theorem hX10_known_14 : zChk false 10 cX10_known 14 bX10_known_14 = true := by decide +kernel
def bX10_known_19 : List zI := [(.aload_n 0, 1, 0, 0, 0), (.iload_n 1, 1, 0, 0, 0), (.putfield 139, 3, 10, 86, 0), (.iconst 1, 1, 0, 0, 0), (.ireturn, 1, 0, 0, 0)]
set_option maxRecDepth 20000 in
theorem hX10_known_19 : zChk false 10 cX10_known 19 bX10_known_19 = true := by decide +kernel
def bX10_knownBy_0 : List zI := [(.aload_n 0, 1, 0, 0, 0), (.getfield 139, 3, 10, 86, 0), (.ifCond .ge 10, 3, 14, 0, 0), (.aload_n 0, 1, 0, 0, 0), (.getfield 399, 3, 10, 85, 0), (.goto 7, 3, 18, 0, 0)]
set_option maxRecDepth 20000 in
theorem hX10_knownBy_0 : zChk false 10 cX10_knownBy 0 bX10_knownBy_0 = true := by decide +kernel
def bX10_knownBy_14 : List zI := [(.aload_n 0, 1, 0, 0, 0), (.getfield 139, 3, 10, 86, 0), (.ireturn, 1, 0, 0, 0)]
set_option maxRecDepth 20000 in
theorem hX10_knownBy_14 : zChk false 10 cX10_knownBy 14 bX10_knownBy_14 = true := by decide +kernel
def bX10_knownBy_18 : List zI := [(.ireturn, 1, 0, 0, 0)]
set_option maxRecDepth 20000 in
theorem hX10_knownBy_18 : zChk false 10 cX10_knownBy 18 bX10_knownBy_18 = true := by decide +kernel
def bX10_layCounts_0 : List zI := [(.iconst 0, 1, 0, 0, 0), (.istore_n 1, 1, 0, 0, 0)]
set_option maxRecDepth 20000 in
theorem hX10_layCounts_0 : zChk false 10 cX10_layCounts 0 bX10_layCounts_0 = true := by decide +kernel
def bX10_layCounts_2 : List zI := [(.iload_n 1, 1, 0, 0, 0), (.aload_n 0, 1, 0, 0, 0)]
set_option maxRecDepth 20000 in
theorem hX10_layCounts_2 : zChk false 10 cX10_layCounts 2 bX10_layCounts_2 = true := by decide +kernel
def bX10_layCounts_7 : List zI := [(.if_icmp .ge 16, 3, 23, 0, 0), (.aload_n 0, 1, 0, 0, 0), (.getfield 148, 3, 10, 89, 0), (.iload_n 1, 1, 0, 0, 0), (.iconst 1, 1, 0, 0, 0), (.bastore, 1, 0, 0, 0), (.iinc 1 1, 3, 0, 0, 0), (.goto (-18), 3, 2, 0, 0)]
set_option maxRecDepth 20000 in
theorem hX10_layCounts_7 : zChk false 10 cX10_layCounts 7 bX10_layCounts_7 = true := by decide +kernel
def bX10_layCounts_23 : List zI := [(.aload_n 0, 1, 0, 0, 0)]
set_option maxRecDepth 20000 in
theorem hX10_layCounts_23 : zChk false 10 cX10_layCounts 23 bX10_layCounts_23 = true := by decide +kernel
def bX10_layCounts_27 : List zI := [(.iconst 1, 1, 0, 0, 0), (.isub, 1, 0, 0, 0), (.istore_n 1, 1, 0, 0, 0)]
set_option maxRecDepth 20000 in
theorem hX10_layCounts_27 : zChk false 10 cX10_layCounts 27 bX10_layCounts_27 = true := by decide +kernel
def bX10_layCounts_30 : List zI := [(.iload_n 1, 1, 0, 0, 0), (.ifCond .lt 39, 3, 70, 0, 0), (.aload_n 0, 1, 0, 0, 0), (.getfield 148, 3, 10, 89, 0), (.iload_n 1, 1, 0, 0, 0), (.baload, 1, 0, 0, 0), (.ifCond .eq 24, 3, 64, 0, 0), (.aload_n 0, 1, 0, 0, 0), (.getfield 142, 3, 10, 87, 0), (.iload_n 1, 1, 0, 0, 0), (.iaload, 1, 0, 0, 0), (.ifCond .ge 15, 3, 64, 0, 0), (.aload_n 0, 1, 0, 0, 0), (.getfield 148, 3, 10, 89, 0), (.aload_n 0, 1, 0, 0, 0), (.getfield 145, 3, 10, 88, 0), (.iload_n 1, 1, 0, 0, 0), (.iaload, 1, 0, 0, 0), (.iconst 0, 1, 0, 0, 0), (.bastore, 1, 0, 0, 0), (.iinc 1 (-1), 3, 0, 0, 0), (.goto (-37), 3, 30, 0, 0)]
set_option maxRecDepth 20000 in
theorem hX10_layCounts_30 : zChk false 10 cX10_layCounts 30 bX10_layCounts_30 = true := by decide +kernel
def bX10_layCounts_64 : List zI := [(.iinc 1 (-1), 3, 0, 0, 0), (.goto (-37), 3, 30, 0, 0)]
set_option maxRecDepth 20000 in
theorem hX10_layCounts_64 : zChk false 10 cX10_layCounts 64 bX10_layCounts_64 = true := by decide +kernel
def bX10_layCounts_70 : List zI := [(.iconst 0, 1, 0, 0, 0), (.istore_n 1, 1, 0, 0, 0)]
set_option maxRecDepth 20000 in
theorem hX10_layCounts_70 : zChk false 10 cX10_layCounts 70 bX10_layCounts_70 = true := by decide +kernel
def bX10_layCounts_72 : List zI := [(.iload_n 1, 1, 0, 0, 0), (.aload_n 0, 1, 0, 0, 0)]
set_option maxRecDepth 20000 in
theorem hX10_layCounts_72 : zChk false 10 cX10_layCounts 72 bX10_layCounts_72 = true := by decide +kernel
def bX10_layCounts_77 : List zI := [(.if_icmp .ge 38, 3, 115, 0, 0), (.aload_n 0, 1, 0, 0, 0), (.getfield 148, 3, 10, 89, 0), (.iload_n 1, 1, 0, 0, 0), (.aload_n 0, 1, 0, 0, 0), (.getfield 148, 3, 10, 89, 0), (.iload_n 1, 1, 0, 0, 0), (.baload, 1, 0, 0, 0), (.ifCond .eq 16, 3, 107, 0, 0), (.aload_n 0, 1, 0, 0, 0), (.getfield 142, 3, 10, 87, 0), (.iload_n 1, 1, 0, 0, 0), (.iaload, 1, 0, 0, 0), (.ifCond .lt 7, 3, 107, 0, 0), (.iconst 1, 1, 0, 0, 0), (.goto 4, 3, 108, 0, 0)]
set_option maxRecDepth 20000 in
theorem hX10_layCounts_77 : zChk false 10 cX10_layCounts 77 bX10_layCounts_77 = true := by decide +kernel
def bX10_layCounts_107 : List zI := [(.iconst 0, 1, 0, 0, 0), (.bastore, 1, 0, 0, 0), (.iinc 1 1, 3, 0, 0, 0), (.goto (-40), 3, 72, 0, 0)]
set_option maxRecDepth 20000 in
theorem hX10_layCounts_107 : zChk false 10 cX10_layCounts 107 bX10_layCounts_107 = true := by decide +kernel
def bX10_layCounts_108 : List zI := [(.bastore, 1, 0, 0, 0), (.iinc 1 1, 3, 0, 0, 0), (.goto (-40), 3, 72, 0, 0)]
set_option maxRecDepth 20000 in
theorem hX10_layCounts_108 : zChk false 10 cX10_layCounts 108 bX10_layCounts_108 = true := by decide +kernel
def bX10_layCounts_115 : List zI := [(.return_, 1, 0, 0, 0)]
set_option maxRecDepth 20000 in
theorem hX10_layCounts_115 : zChk false 10 cX10_layCounts 115 bX10_layCounts_115 = true := by decide +kernel
def bX10_isSigned_0 : List zI := [(.iload_n 1, 1, 0, 0, 0), (.ifCond .lt 15, 3, 16, 0, 0), (.iload_n 1, 1, 0, 0, 0), (.aload_n 0, 1, 0, 0, 0), (.getfield 273, 3, 10, 16, 0), (.if_icmp .ge 7, 3, 16, 0, 0), (.iconst 1, 1, 0, 0, 0), (.goto 4, 3, 17, 0, 0)]
set_option maxRecDepth 20000 in
theorem hX10_isSigned_0 : zChk false 10 cX10_isSigned 0 bX10_isSigned_0 = true := by decide +kernel
def bX10_isSigned_16 : List zI := [(.iconst 0, 1, 0, 0, 0), (.ireturn, 1, 0, 0, 0)]
set_option maxRecDepth 20000 in
theorem hX10_isSigned_16 : zChk false 10 cX10_isSigned 16 bX10_isSigned_16 = true := by decide +kernel
def bX10_isSigned_17 : List zI := [(.ireturn, 1, 0, 0, 0)]
set_option maxRecDepth 20000 in
theorem hX10_isSigned_17 : zChk false 10 cX10_isSigned 17 bX10_isSigned_17 = true := by decide +kernel
def bX10_joined_0 : List zI := [(.aload_n 0, 1, 0, 0, 0), (.iconst 0, 1, 0, 0, 0), (.putfield 178, 3, 10, 2, 0), (.aload_n 0, 1, 0, 0, 0), (.iload_n 1, 1, 0, 0, 0)]
set_option maxRecDepth 20000 in
theorem hX10_joined_0 : zChk false 10 cX10_joined 0 bX10_joined_0 = true := by decide +kernel
def bX10_joined_10 : List zI := [(.ifCond .eq 30, 3, 40, 0, 0), (.aload_n 0, 1, 0, 0, 0), (.iload_n 2, 1, 0, 0, 0)]
set_option maxRecDepth 20000 in
theorem hX10_joined_10 : zChk false 10 cX10_joined 10 bX10_joined_10 = true := by decide +kernel
def bX10_joined_18 : List zI := [(.ifCond .eq 22, 3, 40, 0, 0), (.iload_n 3, 1, 0, 0, 0), (.iconst 0, 1, 0, 0, 0), (.iconst 1, 1, 0, 0, 0)]
set_option maxRecDepth 20000 in
theorem hX10_joined_18 : zChk false 10 cX10_joined 18 bX10_joined_18 = true := by decide +kernel
def bX10_joined_27 : List zI := [(.ifCond .eq 13, 3, 40, 0, 0), (.aload_n 0, 1, 0, 0, 0), (.iload_n 1, 1, 0, 0, 0), (.iload_n 2, 1, 0, 0, 0), (.iload_n 3, 1, 0, 0, 0)]
set_option maxRecDepth 20000 in
theorem hX10_joined_27 : zChk false 10 cX10_joined 27 bX10_joined_27 = true := by decide +kernel
def bX10_joined_37 : List zI := [(.goto 4, 3, 41, 0, 0)]
set_option maxRecDepth 20000 in
theorem hX10_joined_37 : zChk false 10 cX10_joined 37 bX10_joined_37 = true := by decide +kernel
def bX10_joined_40 : List zI := [(.iconst (-1), 1, 0, 0, 0), (.ireturn, 1, 0, 0, 0)]
set_option maxRecDepth 20000 in
theorem hX10_joined_40 : zChk false 10 cX10_joined 40 bX10_joined_40 = true := by decide +kernel
def bX10_joined_41 : List zI := [(.ireturn, 1, 0, 0, 0)]
set_option maxRecDepth 20000 in
theorem hX10_joined_41 : zChk false 10 cX10_joined 41 bX10_joined_41 = true := by decide +kernel
def bX10_dodgers_0 : List zI := [(.aload_n 0, 1, 0, 0, 0), (.iconst 0, 1, 0, 0, 0), (.putfield 178, 3, 10, 2, 0), (.iload_n 1, 1, 0, 0, 0), (.iconst 0, 1, 0, 0, 0), (.sipush 999, 3, 0, 0, 0)]
set_option maxRecDepth 20000 in
theorem hX10_dodgers_0 : zChk false 10 cX10_dodgers 0 bX10_dodgers_0 = true := by decide +kernel
def bX10_dodgers_13 : List zI := [(.ifCond .eq 38, 3, 51, 0, 0), (.iload_n 2, 1, 0, 0, 0), (.iconst 0, 1, 0, 0, 0), (.sipush 999, 3, 0, 0, 0)]
set_option maxRecDepth 20000 in
theorem hX10_dodgers_13 : zChk false 10 cX10_dodgers 13 bX10_dodgers_13 = true := by decide +kernel
def bX10_dodgers_24 : List zI := [(.ifCond .eq 27, 3, 51, 0, 0), (.iload_n 3, 1, 0, 0, 0), (.ifCond .lt 23, 3, 51, 0, 0), (.iload_n 3, 1, 0, 0, 0), (.iload_n 1, 1, 0, 0, 0), (.if_icmp .gt 18, 3, 51, 0, 0), (.iload_n 3, 1, 0, 0, 0), (.iload_n 2, 1, 0, 0, 0), (.if_icmp .gt 13, 3, 51, 0, 0), (.iload 4, 2, 0, 0, 0), (.iconst 0, 1, 0, 0, 0), (.iconst 1, 1, 0, 0, 0)]
set_option maxRecDepth 20000 in
theorem hX10_dodgers_24 : zChk false 10 cX10_dodgers 24 bX10_dodgers_24 = true := by decide +kernel
def bX10_dodgers_48 : List zI := [(.ifCond .ne 5, 3, 53, 0, 0), (.iconst (-1), 1, 0, 0, 0), (.ireturn, 1, 0, 0, 0)]
set_option maxRecDepth 20000 in
theorem hX10_dodgers_48 : zChk false 10 cX10_dodgers 48 bX10_dodgers_48 = true := by decide +kernel
def bX10_dodgers_51 : List zI := [(.iconst (-1), 1, 0, 0, 0), (.ireturn, 1, 0, 0, 0)]
set_option maxRecDepth 20000 in
theorem hX10_dodgers_51 : zChk false 10 cX10_dodgers 51 bX10_dodgers_51 = true := by decide +kernel
def bX10_dodgers_53 : List zI := [(.iload 4, 2, 0, 0, 0), (.ifCond .ne 11, 3, 66, 0, 0), (.iload_n 1, 1, 0, 0, 0), (.iload_n 2, 1, 0, 0, 0), (.iadd, 1, 0, 0, 0), (.iload_n 3, 1, 0, 0, 0), (.isub, 1, 0, 0, 0), (.goto 17, 3, 80, 0, 0)]
set_option maxRecDepth 20000 in
theorem hX10_dodgers_53 : zChk false 10 cX10_dodgers 53 bX10_dodgers_53 = true := by decide +kernel
def bX10_dodgers_66 : List zI := [(.iload_n 3, 1, 0, 0, 0), (.ifCond .ne 8, 3, 75, 0, 0), (.bipush (-2), 2, 0, 0, 0), (.goto 8, 3, 80, 0, 0)]
set_option maxRecDepth 20000 in
theorem hX10_dodgers_66 : zChk false 10 cX10_dodgers 66 bX10_dodgers_66 = true := by decide +kernel
def bX10_dodgers_75 : List zI := [(.iload_n 1, 1, 0, 0, 0), (.iload_n 2, 1, 0, 0, 0), (.imul, 1, 0, 0, 0), (.iload_n 3, 1, 0, 0, 0), (.idiv, 1, 0, 0, 0), (.ireturn, 1, 0, 0, 0)]
set_option maxRecDepth 20000 in
theorem hX10_dodgers_75 : zChk false 10 cX10_dodgers 75 bX10_dodgers_75 = true := by decide +kernel
def bX10_dodgers_80 : List zI := [(.ireturn, 1, 0, 0, 0)]
set_option maxRecDepth 20000 in
theorem hX10_dodgers_80 : zChk false 10 cX10_dodgers 80 bX10_dodgers_80 = true := by decide +kernel
def bX10_chance_0 : List zI := [(.aload_n 0, 1, 0, 0, 0), (.iconst 0, 1, 0, 0, 0), (.putfield 178, 3, 10, 2, 0), (.iload_n 1, 1, 0, 0, 0), (.ifCond .lt 11, 3, 17, 0, 0), (.aload_n 0, 1, 0, 0, 0), (.iload_n 2, 1, 0, 0, 0)]
set_option maxRecDepth 20000 in
theorem hX10_chance_0 : zChk false 10 cX10_chance 0 bX10_chance_0 = true := by decide +kernel
def bX10_chance_14 : List zI := [(.ifCond .ne 5, 3, 19, 0, 0), (.iconst (-1), 1, 0, 0, 0), (.ireturn, 1, 0, 0, 0)]
set_option maxRecDepth 20000 in
theorem hX10_chance_14 : zChk false 10 cX10_chance 14 bX10_chance_14 = true := by decide +kernel
def bX10_chance_17 : List zI := [(.iconst (-1), 1, 0, 0, 0), (.ireturn, 1, 0, 0, 0)]
set_option maxRecDepth 20000 in
theorem hX10_chance_17 : zChk false 10 cX10_chance 17 bX10_chance_17 = true := by decide +kernel
def bX10_chance_19 : List zI := [(.aload_n 0, 1, 0, 0, 0)]
set_option maxRecDepth 20000 in
theorem hX10_chance_19 : zChk false 10 cX10_chance 19 bX10_chance_19 = true := by decide +kernel
def bX10_chance_23 : List zI := [(.iload_n 1, 1, 0, 0, 0), (.i2l, 1, 0, 0, 0), (.lstore 4, 2, 0, 0, 0), (.iconst 0, 1, 0, 0, 0), (.istore 6, 2, 0, 0, 0), (.iconst 0, 1, 0, 0, 0), (.istore 7, 2, 0, 0, 0)]
set_option maxRecDepth 20000 in
theorem hX10_chance_23 : zChk false 10 cX10_chance 23 bX10_chance_23 = true := by decide +kernel
def bX10_chance_33 : List zI := [(.iload 7, 2, 0, 0, 0), (.bipush 10, 2, 0, 0, 0), (.if_icmp .ge 60, 3, 97, 0, 0), (.lload 4, 2, 0, 0, 0), (.ldc2_w 473, 3, 0, 0, 1103515245), (.lmul, 1, 0, 0, 0), (.ldc2_w 475, 3, 0, 0, 12345), (.ladd, 1, 0, 0, 0), (.ldc2_w 477, 3, 0, 0, 2147483647), (.land, 1, 0, 0, 0), (.lstore 4, 2, 0, 0, 0), (.aload_n 0, 1, 0, 0, 0)]
set_option maxRecDepth 20000 in
theorem hX10_chance_33 : zChk false 10 cX10_chance 33 bX10_chance_33 = true := by decide +kernel
def bX10_chance_60 : List zI := [(.aload_n 0, 1, 0, 0, 0), (.getfield 112, 3, 10, 63, 0), (.iconst 1, 1, 0, 0, 0), (.lload 4, 2, 0, 0, 0), (.ldc2_w 479, 3, 0, 0, 65536), (.ldiv, 1, 0, 0, 0), (.lastore, 1, 0, 0, 0), (.iload 6, 2, 0, 0, 0), (.aload_n 0, 1, 0, 0, 0), (.iload_n 2, 1, 0, 0, 0)]
set_option maxRecDepth 20000 in
theorem hX10_chance_60 : zChk false 10 cX10_chance 60 bX10_chance_60 = true := by decide +kernel
def bX10_chance_79 : List zI := [(.iload_n 3, 1, 0, 0, 0), (.if_icmp .lt 7, 3, 87, 0, 0), (.iconst 1, 1, 0, 0, 0), (.goto 4, 3, 88, 0, 0)]
set_option maxRecDepth 20000 in
theorem hX10_chance_79 : zChk false 10 cX10_chance 79 bX10_chance_79 = true := by decide +kernel
def bX10_chance_87 : List zI := [(.iconst 0, 1, 0, 0, 0), (.iadd, 1, 0, 0, 0), (.istore 6, 2, 0, 0, 0), (.iinc 7 1, 3, 0, 0, 0), (.goto (-61), 3, 33, 0, 0)]
set_option maxRecDepth 20000 in
theorem hX10_chance_87 : zChk false 10 cX10_chance 87 bX10_chance_87 = true := by decide +kernel
def bX10_chance_88 : List zI := [(.iadd, 1, 0, 0, 0), (.istore 6, 2, 0, 0, 0), (.iinc 7 1, 3, 0, 0, 0), (.goto (-61), 3, 33, 0, 0)]
set_option maxRecDepth 20000 in
theorem hX10_chance_88 : zChk false 10 cX10_chance 88 bX10_chance_88 = true := by decide +kernel
def bX10_chance_97 : List zI := [(.iload 6, 2, 0, 0, 0), (.ireturn, 1, 0, 0, 0)]
set_option maxRecDepth 20000 in
theorem hX10_chance_97 : zChk false 10 cX10_chance 97 bX10_chance_97 = true := by decide +kernel
def bX10_keep_0 : List zI := [(.aload_n 0, 1, 0, 0, 0), (.iconst 0, 1, 0, 0, 0), (.putfield 178, 3, 10, 2, 0), (.aload_n 0, 1, 0, 0, 0), (.iconst 1, 1, 0, 0, 0), (.putfield 405, 3, 10, 90, 0), (.aload_n 0, 1, 0, 0, 0), (.aload_n 0, 1, 0, 0, 0), (.getfield 387, 3, 10, 55, 0), (.putfield 581, 3, 10, 91, 0), (.aload_n 0, 1, 0, 0, 0), (.aload_n 0, 1, 0, 0, 0), (.getfield 390, 3, 10, 56, 0), (.putfield 584, 3, 10, 92, 0), (.aload_n 0, 1, 0, 0, 0), (.aload_n 0, 1, 0, 0, 0), (.getfield 393, 3, 10, 64, 0), (.putfield 587, 3, 10, 93, 0), (.aload_n 0, 1, 0, 0, 0), (.aload_n 0, 1, 0, 0, 0), (.getfield 396, 3, 10, 65, 0), (.putfield 590, 3, 10, 94, 0), (.aload_n 0, 1, 0, 0, 0), (.aload_n 0, 1, 0, 0, 0), (.getfield 112, 3, 10, 63, 0), (.iconst 0, 1, 0, 0, 0), (.laload, 1, 0, 0, 0), (.putfield 593, 3, 10, 95, 0), (.iconst 0, 1, 0, 0, 0), (.istore_n 1, 1, 0, 0, 0)]
set_option maxRecDepth 20000 in
theorem hX10_keep_0 : zChk false 10 cX10_keep 0 bX10_keep_0 = true := by decide +kernel
def bX10_keep_54 : List zI := [(.iload_n 1, 1, 0, 0, 0), (.bipush 40, 2, 0, 0, 0), (.if_icmp .ge 69, 3, 126, 0, 0), (.aload_n 0, 1, 0, 0, 0), (.getfield 151, 3, 10, 96, 0), (.iload_n 1, 1, 0, 0, 0), (.aload_n 0, 1, 0, 0, 0), (.getfield 94, 3, 10, 57, 0), (.iload_n 1, 1, 0, 0, 0), (.iaload, 1, 0, 0, 0), (.iastore, 1, 0, 0, 0), (.aload_n 0, 1, 0, 0, 0), (.getfield 154, 3, 10, 97, 0), (.iload_n 1, 1, 0, 0, 0), (.aload_n 0, 1, 0, 0, 0), (.getfield 97, 3, 10, 58, 0), (.iload_n 1, 1, 0, 0, 0), (.iaload, 1, 0, 0, 0), (.iastore, 1, 0, 0, 0), (.aload_n 0, 1, 0, 0, 0), (.getfield 157, 3, 10, 98, 0), (.iload_n 1, 1, 0, 0, 0), (.aload_n 0, 1, 0, 0, 0), (.getfield 100, 3, 10, 59, 0), (.iload_n 1, 1, 0, 0, 0), (.iaload, 1, 0, 0, 0), (.iastore, 1, 0, 0, 0), (.aload_n 0, 1, 0, 0, 0), (.getfield 160, 3, 10, 99, 0), (.iload_n 1, 1, 0, 0, 0), (.aload_n 0, 1, 0, 0, 0), (.getfield 103, 3, 10, 60, 0), (.iload_n 1, 1, 0, 0, 0), (.iaload, 1, 0, 0, 0), (.iastore, 1, 0, 0, 0), (.aload_n 0, 1, 0, 0, 0), (.getfield 163, 3, 10, 100, 0), (.iload_n 1, 1, 0, 0, 0), (.aload_n 0, 1, 0, 0, 0), (.getfield 106, 3, 10, 61, 0), (.iload_n 1, 1, 0, 0, 0), (.baload, 1, 0, 0, 0), (.bastore, 1, 0, 0, 0), (.iinc 1 1, 3, 0, 0, 0), (.goto (-69), 3, 54, 0, 0)]
set_option maxRecDepth 20000 in
theorem hX10_keep_54 : zChk false 10 cX10_keep 54 bX10_keep_54 = true := by decide +kernel
def bX10_keep_126 : List zI := [(.iconst 0, 1, 0, 0, 0), (.istore_n 1, 1, 0, 0, 0)]
set_option maxRecDepth 20000 in
theorem hX10_keep_126 : zChk false 10 cX10_keep 126 bX10_keep_126 = true := by decide +kernel
def bX10_keep_128 : List zI := [(.iload_n 1, 1, 0, 0, 0), (.bipush 7, 2, 0, 0, 0), (.if_icmp .ge 21, 3, 152, 0, 0), (.aload_n 0, 1, 0, 0, 0), (.getfield 166, 3, 10, 101, 0), (.iload_n 1, 1, 0, 0, 0), (.aload_n 0, 1, 0, 0, 0), (.getfield 109, 3, 10, 62, 0), (.iload_n 1, 1, 0, 0, 0), (.iaload, 1, 0, 0, 0), (.iastore, 1, 0, 0, 0), (.iinc 1 1, 3, 0, 0, 0), (.goto (-21), 3, 128, 0, 0)]
set_option maxRecDepth 20000 in
theorem hX10_keep_128 : zChk false 10 cX10_keep 128 bX10_keep_128 = true := by decide +kernel
def bX10_keep_152 : List zI := [(.iconst 0, 1, 0, 0, 0), (.istore_n 1, 1, 0, 0, 0)]
set_option maxRecDepth 20000 in
theorem hX10_keep_152 : zChk false 10 cX10_keep 152 bX10_keep_152 = true := by decide +kernel
def bX10_keep_154 : List zI := [(.iload_n 1, 1, 0, 0, 0), (.bipush 8, 2, 0, 0, 0), (.if_icmp .ge 21, 3, 178, 0, 0), (.aload_n 0, 1, 0, 0, 0), (.getfield 169, 3, 10, 102, 0), (.iload_n 1, 1, 0, 0, 0), (.aload_n 0, 1, 0, 0, 0), (.getfield 115, 3, 10, 66, 0), (.iload_n 1, 1, 0, 0, 0), (.iaload, 1, 0, 0, 0), (.iastore, 1, 0, 0, 0), (.iinc 1 1, 3, 0, 0, 0), (.goto (-21), 3, 154, 0, 0)]
set_option maxRecDepth 20000 in
theorem hX10_keep_154 : zChk false 10 cX10_keep 154 bX10_keep_154 = true := by decide +kernel
def bX10_keep_178 : List zI := [(.aload_n 0, 1, 0, 0, 0), (.getfield 387, 3, 10, 55, 0), (.ireturn, 1, 0, 0, 0)]
set_option maxRecDepth 20000 in
theorem hX10_keep_178 : zChk false 10 cX10_keep 178 bX10_keep_178 = true := by decide +kernel
def bX10_back_0 : List zI := [(.aload_n 0, 1, 0, 0, 0), (.iconst 0, 1, 0, 0, 0), (.putfield 178, 3, 10, 2, 0), (.aload_n 0, 1, 0, 0, 0), (.getfield 405, 3, 10, 90, 0), (.ifCond .ne 5, 3, 14, 0, 0), (.iconst (-1), 1, 0, 0, 0), (.ireturn, 1, 0, 0, 0)]
set_option maxRecDepth 20000 in
theorem hX10_back_0 : zChk false 10 cX10_back 0 bX10_back_0 = true := by decide +kernel
def bX10_back_14 : List zI := [(.aload_n 0, 1, 0, 0, 0), (.aload_n 0, 1, 0, 0, 0), (.getfield 581, 3, 10, 91, 0), (.putfield 387, 3, 10, 55, 0), (.aload_n 0, 1, 0, 0, 0), (.aload_n 0, 1, 0, 0, 0), (.getfield 584, 3, 10, 92, 0), (.putfield 390, 3, 10, 56, 0), (.aload_n 0, 1, 0, 0, 0), (.aload_n 0, 1, 0, 0, 0), (.getfield 587, 3, 10, 93, 0), (.putfield 393, 3, 10, 64, 0), (.aload_n 0, 1, 0, 0, 0), (.aload_n 0, 1, 0, 0, 0), (.getfield 590, 3, 10, 94, 0), (.putfield 396, 3, 10, 65, 0), (.aload_n 0, 1, 0, 0, 0), (.getfield 112, 3, 10, 63, 0), (.iconst 0, 1, 0, 0, 0), (.aload_n 0, 1, 0, 0, 0), (.getfield 593, 3, 10, 95, 0), (.lastore, 1, 0, 0, 0), (.iconst 0, 1, 0, 0, 0), (.istore_n 1, 1, 0, 0, 0)]
set_option maxRecDepth 20000 in
theorem hX10_back_14 : zChk false 10 cX10_back 14 bX10_back_14 = true := by decide +kernel
def bX10_back_58 : List zI := [(.iload_n 1, 1, 0, 0, 0), (.bipush 40, 2, 0, 0, 0), (.if_icmp .ge 69, 3, 130, 0, 0), (.aload_n 0, 1, 0, 0, 0), (.getfield 94, 3, 10, 57, 0), (.iload_n 1, 1, 0, 0, 0), (.aload_n 0, 1, 0, 0, 0), (.getfield 151, 3, 10, 96, 0), (.iload_n 1, 1, 0, 0, 0), (.iaload, 1, 0, 0, 0), (.iastore, 1, 0, 0, 0), (.aload_n 0, 1, 0, 0, 0), (.getfield 97, 3, 10, 58, 0), (.iload_n 1, 1, 0, 0, 0), (.aload_n 0, 1, 0, 0, 0), (.getfield 154, 3, 10, 97, 0), (.iload_n 1, 1, 0, 0, 0), (.iaload, 1, 0, 0, 0), (.iastore, 1, 0, 0, 0), (.aload_n 0, 1, 0, 0, 0), (.getfield 100, 3, 10, 59, 0), (.iload_n 1, 1, 0, 0, 0), (.aload_n 0, 1, 0, 0, 0), (.getfield 157, 3, 10, 98, 0), (.iload_n 1, 1, 0, 0, 0), (.iaload, 1, 0, 0, 0), (.iastore, 1, 0, 0, 0), (.aload_n 0, 1, 0, 0, 0), (.getfield 103, 3, 10, 60, 0), (.iload_n 1, 1, 0, 0, 0), (.aload_n 0, 1, 0, 0, 0), (.getfield 160, 3, 10, 99, 0), (.iload_n 1, 1, 0, 0, 0), (.iaload, 1, 0, 0, 0), (.iastore, 1, 0, 0, 0), (.aload_n 0, 1, 0, 0, 0), (.getfield 106, 3, 10, 61, 0), (.iload_n 1, 1, 0, 0, 0), (.aload_n 0, 1, 0, 0, 0), (.getfield 163, 3, 10, 100, 0), (.iload_n 1, 1, 0, 0, 0), (.baload, 1, 0, 0, 0), (.bastore, 1, 0, 0, 0), (.iinc 1 1, 3, 0, 0, 0), (.goto (-69), 3, 58, 0, 0)]
set_option maxRecDepth 20000 in
theorem hX10_back_58 : zChk false 10 cX10_back 58 bX10_back_58 = true := by decide +kernel
def bX10_back_130 : List zI := [(.iconst 0, 1, 0, 0, 0), (.istore_n 1, 1, 0, 0, 0)]
set_option maxRecDepth 20000 in
theorem hX10_back_130 : zChk false 10 cX10_back 130 bX10_back_130 = true := by decide +kernel
def bX10_back_132 : List zI := [(.iload_n 1, 1, 0, 0, 0), (.bipush 7, 2, 0, 0, 0), (.if_icmp .ge 21, 3, 156, 0, 0), (.aload_n 0, 1, 0, 0, 0), (.getfield 109, 3, 10, 62, 0), (.iload_n 1, 1, 0, 0, 0), (.aload_n 0, 1, 0, 0, 0), (.getfield 166, 3, 10, 101, 0), (.iload_n 1, 1, 0, 0, 0), (.iaload, 1, 0, 0, 0), (.iastore, 1, 0, 0, 0), (.iinc 1 1, 3, 0, 0, 0), (.goto (-21), 3, 132, 0, 0)]
set_option maxRecDepth 20000 in
theorem hX10_back_132 : zChk false 10 cX10_back 132 bX10_back_132 = true := by decide +kernel
def bX10_back_156 : List zI := [(.iconst 0, 1, 0, 0, 0), (.istore_n 1, 1, 0, 0, 0)]
set_option maxRecDepth 20000 in
theorem hX10_back_156 : zChk false 10 cX10_back 156 bX10_back_156 = true := by decide +kernel
def bX10_back_158 : List zI := [(.iload_n 1, 1, 0, 0, 0), (.bipush 8, 2, 0, 0, 0), (.if_icmp .ge 21, 3, 182, 0, 0), (.aload_n 0, 1, 0, 0, 0), (.getfield 115, 3, 10, 66, 0), (.iload_n 1, 1, 0, 0, 0), (.aload_n 0, 1, 0, 0, 0), (.getfield 169, 3, 10, 102, 0), (.iload_n 1, 1, 0, 0, 0), (.iaload, 1, 0, 0, 0), (.iastore, 1, 0, 0, 0), (.iinc 1 1, 3, 0, 0, 0), (.goto (-21), 3, 158, 0, 0)]
set_option maxRecDepth 20000 in
theorem hX10_back_158 : zChk false 10 cX10_back 158 bX10_back_158 = true := by decide +kernel
def bX10_back_182 : List zI := [(.aload_n 0, 1, 0, 0, 0), (.iconst 0, 1, 0, 0, 0), (.putfield 402, 3, 10, 78, 0), (.aload_n 0, 1, 0, 0, 0), (.getfield 387, 3, 10, 55, 0), (.ireturn, 1, 0, 0, 0)]
set_option maxRecDepth 20000 in
theorem hX10_back_182 : zChk false 10 cX10_back 182 bX10_back_182 = true := by decide +kernel
def bX10_count_0 : List zI := [(.aload_n 0, 1, 0, 0, 0), (.iconst 0, 1, 0, 0, 0), (.putfield 178, 3, 10, 2, 0), (.iload_n 1, 1, 0, 0, 0)]
set_option maxRecDepth 20000 in
theorem hX10_count_0 : zChk false 10 cX10_count 0 bX10_count_0 = true := by decide +kernel
def bX10_count_60 : List zI := [(.aload_n 0, 1, 0, 0, 0), (.getfield 261, 3, 10, 12, 0), (.ireturn, 1, 0, 0, 0)]
set_option maxRecDepth 20000 in
theorem hX10_count_60 : zChk false 10 cX10_count 60 bX10_count_60 = true := by decide +kernel
def bX10_count_65 : List zI := [(.aload_n 0, 1, 0, 0, 0), (.getfield 56, 3, 10, 36, 0), (.iconst 1, 1, 0, 0, 0), (.iaload, 1, 0, 0, 0), (.ireturn, 1, 0, 0, 0)]
set_option maxRecDepth 20000 in
theorem hX10_count_65 : zChk false 10 cX10_count 65 bX10_count_65 = true := by decide +kernel
def bX10_count_72 : List zI := [(.aload_n 0, 1, 0, 0, 0), (.getfield 264, 3, 10, 13, 0), (.ireturn, 1, 0, 0, 0)]
set_option maxRecDepth 20000 in
theorem hX10_count_72 : zChk false 10 cX10_count 72 bX10_count_72 = true := by decide +kernel
def bX10_count_77 : List zI := [(.aload_n 0, 1, 0, 0, 0), (.getfield 273, 3, 10, 16, 0), (.ireturn, 1, 0, 0, 0)]
set_option maxRecDepth 20000 in
theorem hX10_count_77 : zChk false 10 cX10_count 77 bX10_count_77 = true := by decide +kernel
def bX10_count_82 : List zI := [(.aload_n 0, 1, 0, 0, 0), (.getfield 276, 3, 10, 17, 0), (.ireturn, 1, 0, 0, 0)]
set_option maxRecDepth 20000 in
theorem hX10_count_82 : zChk false 10 cX10_count 82 bX10_count_82 = true := by decide +kernel
def bX10_count_87 : List zI := [(.aload_n 0, 1, 0, 0, 0), (.getfield 387, 3, 10, 55, 0), (.ireturn, 1, 0, 0, 0)]
set_option maxRecDepth 20000 in
theorem hX10_count_87 : zChk false 10 cX10_count 87 bX10_count_87 = true := by decide +kernel
def bX10_count_92 : List zI := [(.aload_n 0, 1, 0, 0, 0), (.getfield 399, 3, 10, 85, 0), (.ireturn, 1, 0, 0, 0)]
set_option maxRecDepth 20000 in
theorem hX10_count_92 : zChk false 10 cX10_count 92 bX10_count_92 = true := by decide +kernel
def bX10_count_97 : List zI := [(.aload_n 0, 1, 0, 0, 0)]
set_option maxRecDepth 20000 in
theorem hX10_count_97 : zChk false 10 cX10_count 97 bX10_count_97 = true := by decide +kernel
def bX10_count_101 : List zI := [(.ireturn, 1, 0, 0, 0)]
set_option maxRecDepth 20000 in
theorem hX10_count_101 : zChk false 10 cX10_count 101 bX10_count_101 = true := by decide +kernel
def bX10_count_102 : List zI := [(.aload_n 0, 1, 0, 0, 0), (.getfield 402, 3, 10, 78, 0), (.ireturn, 1, 0, 0, 0)]
set_option maxRecDepth 20000 in
theorem hX10_count_102 : zChk false 10 cX10_count 102 bX10_count_102 = true := by decide +kernel
def bX10_count_107 : List zI := [(.aload_n 0, 1, 0, 0, 0), (.iconst 0, 1, 0, 0, 0), (.iconst (-1), 1, 0, 0, 0), (.iconst 0, 1, 0, 0, 0)]
set_option maxRecDepth 20000 in
theorem hX10_count_107 : zChk false 10 cX10_count 107 bX10_count_107 = true := by decide +kernel
def bX10_count_114 : List zI := [(.ireturn, 1, 0, 0, 0)]
set_option maxRecDepth 20000 in
theorem hX10_count_114 : zChk false 10 cX10_count 114 bX10_count_114 = true := by decide +kernel
def bX10_count_115 : List zI := [(.iconst (-1), 1, 0, 0, 0), (.ireturn, 1, 0, 0, 0)]
set_option maxRecDepth 20000 in
theorem hX10_count_115 : zChk false 10 cX10_count 115 bX10_count_115 = true := by decide +kernel
