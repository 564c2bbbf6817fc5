/-! ===== THE CELLS of both systems behind their constructors (written by a program) ===== -/
def SH : List zSh := [.inr 9, .inr 7, .inl (2, 700), .inl (0, 27), .inr 5, .inl (0, 7), .inl (0, 72), .inl (0, 72), .inr 6, .inr 6, .inr 2, .inl (0, 40), .inl (0, 40), .inl (0, 40), .inl (0, 40), .inl (0, 40), .inl (0, 5), .inl (0, 5), .inl (0, 7), .inr 2, .inl (0, 40), .inl (0, 40), .inl (0, 40), .inl (0, 40), .inl (0, 40), .inl (0, 5), .inl (0, 5), .inl (0, 7), .inr 2, .inl (0, 40), .inl (0, 40), .inl (0, 40), .inl (0, 40), .inl (0, 40), .inl (0, 5), .inl (0, 5), .inl (0, 7), .inr 8, .inl (1, 64), .inl (1, 5), .inr 8, .inl (1, 64), .inl (1, 5), .inr 1, .inl (0, 20), .inl (0, 20), .inl (0, 20), .inl (1, 20), .inr 0, .inl (0, 60), .inl (3, 60), .inl (0, 60), .inl (0, 60), .inr 3, .inl (0, 5), .inr 4, .inl (0, 5), .inl (0, 5), .inl (0, 5), .inl (0, 5), .inl (0, 16), .inl (0, 16), .inl (0, 96), .inl (0, 2), .inl (0, 2), .inl (0, 2), .inl (0, 7), .inl (0, 4), .inl (0, 64), .inl (0, 3), .inl (0, 3), .inr 4, .inl (0, 5), .inl (0, 5), .inl (0, 5), .inl (0, 5), .inl (0, 16), .inl (0, 16), .inl (0, 96), .inl (0, 2), .inl (0, 2), .inl (0, 2), .inl (0, 7), .inl (0, 4), .inl (0, 64), .inl (0, 3), .inl (0, 3), .inr 10, .inl (0, 700), .inl (0, 136), .inl (0, 10), .inl (0, 10), .inl (0, 10), .inl (0, 10), .inl (0, 32), .inl (0, 32), .inl (0, 24), .inl (0, 24), .inl (0, 4), .inl (0, 4), .inl (0, 4), .inl (0, 8), .inl (0, 32), .inl (3, 16), .inl (3, 6), .inl (0, 6), .inl (0, 6), .inl (0, 128), .inl (0, 128), .inl (0, 128), .inl (0, 96), .inl (0, 96), .inl (1, 8), .inl (1, 64), .inl (0, 80), .inl (0, 80), .inl (0, 80), .inl (0, 80), .inl (3, 80), .inl (0, 14), .inl (1, 2), .inl (0, 8), .inl (0, 8), .inl (0, 800), .inl (0, 20), .inl (0, 20), .inl (0, 20), .inl (0, 160), .inl (0, 5), .inl (0, 60), .inl (0, 60), .inl (3, 60), .inl (0, 40), .inl (0, 40), .inl (0, 40), .inl (0, 40), .inl (3, 40), .inl (0, 7), .inl (0, 8), .inl (1, 1)]
theorem sh_0 : SH[0]? = some (.inr 9) := rfl
theorem sh_1 : SH[1]? = some (.inr 7) := rfl
theorem sh_2 : SH[2]? = some (.inl (2, 700)) := rfl
theorem sh_3 : SH[3]? = some (.inl (0, 27)) := rfl
theorem sh_4 : SH[4]? = some (.inr 5) := rfl
theorem sh_5 : SH[5]? = some (.inl (0, 7)) := rfl
theorem sh_6 : SH[6]? = some (.inl (0, 72)) := rfl
theorem sh_7 : SH[7]? = some (.inl (0, 72)) := rfl
theorem sh_8 : SH[8]? = some (.inr 6) := rfl
theorem sh_9 : SH[9]? = some (.inr 6) := rfl
theorem sh_10 : SH[10]? = some (.inr 2) := rfl
theorem sh_11 : SH[11]? = some (.inl (0, 40)) := rfl
theorem sh_12 : SH[12]? = some (.inl (0, 40)) := rfl
theorem sh_13 : SH[13]? = some (.inl (0, 40)) := rfl
theorem sh_14 : SH[14]? = some (.inl (0, 40)) := rfl
theorem sh_15 : SH[15]? = some (.inl (0, 40)) := rfl
theorem sh_16 : SH[16]? = some (.inl (0, 5)) := rfl
theorem sh_17 : SH[17]? = some (.inl (0, 5)) := rfl
theorem sh_18 : SH[18]? = some (.inl (0, 7)) := rfl
theorem sh_19 : SH[19]? = some (.inr 2) := rfl
theorem sh_20 : SH[20]? = some (.inl (0, 40)) := rfl
theorem sh_21 : SH[21]? = some (.inl (0, 40)) := rfl
theorem sh_22 : SH[22]? = some (.inl (0, 40)) := rfl
theorem sh_23 : SH[23]? = some (.inl (0, 40)) := rfl
theorem sh_24 : SH[24]? = some (.inl (0, 40)) := rfl
theorem sh_25 : SH[25]? = some (.inl (0, 5)) := rfl
theorem sh_26 : SH[26]? = some (.inl (0, 5)) := rfl
theorem sh_27 : SH[27]? = some (.inl (0, 7)) := rfl
theorem sh_28 : SH[28]? = some (.inr 2) := rfl
theorem sh_29 : SH[29]? = some (.inl (0, 40)) := rfl
theorem sh_30 : SH[30]? = some (.inl (0, 40)) := rfl
theorem sh_31 : SH[31]? = some (.inl (0, 40)) := rfl
theorem sh_32 : SH[32]? = some (.inl (0, 40)) := rfl
theorem sh_33 : SH[33]? = some (.inl (0, 40)) := rfl
theorem sh_34 : SH[34]? = some (.inl (0, 5)) := rfl
theorem sh_35 : SH[35]? = some (.inl (0, 5)) := rfl
theorem sh_36 : SH[36]? = some (.inl (0, 7)) := rfl
theorem sh_37 : SH[37]? = some (.inr 8) := rfl
theorem sh_38 : SH[38]? = some (.inl (1, 64)) := rfl
theorem sh_39 : SH[39]? = some (.inl (1, 5)) := rfl
theorem sh_40 : SH[40]? = some (.inr 8) := rfl
theorem sh_41 : SH[41]? = some (.inl (1, 64)) := rfl
theorem sh_42 : SH[42]? = some (.inl (1, 5)) := rfl
theorem sh_43 : SH[43]? = some (.inr 1) := rfl
theorem sh_44 : SH[44]? = some (.inl (0, 20)) := rfl
theorem sh_45 : SH[45]? = some (.inl (0, 20)) := rfl
theorem sh_46 : SH[46]? = some (.inl (0, 20)) := rfl
theorem sh_47 : SH[47]? = some (.inl (1, 20)) := rfl
theorem sh_48 : SH[48]? = some (.inr 0) := rfl
theorem sh_49 : SH[49]? = some (.inl (0, 60)) := rfl
theorem sh_50 : SH[50]? = some (.inl (3, 60)) := rfl
theorem sh_51 : SH[51]? = some (.inl (0, 60)) := rfl
theorem sh_52 : SH[52]? = some (.inl (0, 60)) := rfl
theorem sh_53 : SH[53]? = some (.inr 3) := rfl
theorem sh_54 : SH[54]? = some (.inl (0, 5)) := rfl
theorem sh_55 : SH[55]? = some (.inr 4) := rfl
theorem sh_56 : SH[56]? = some (.inl (0, 5)) := rfl
theorem sh_57 : SH[57]? = some (.inl (0, 5)) := rfl
theorem sh_58 : SH[58]? = some (.inl (0, 5)) := rfl
theorem sh_59 : SH[59]? = some (.inl (0, 5)) := rfl
theorem sh_60 : SH[60]? = some (.inl (0, 16)) := rfl
theorem sh_61 : SH[61]? = some (.inl (0, 16)) := rfl
theorem sh_62 : SH[62]? = some (.inl (0, 96)) := rfl
theorem sh_63 : SH[63]? = some (.inl (0, 2)) := rfl
theorem sh_64 : SH[64]? = some (.inl (0, 2)) := rfl
theorem sh_65 : SH[65]? = some (.inl (0, 2)) := rfl
theorem sh_66 : SH[66]? = some (.inl (0, 7)) := rfl
theorem sh_67 : SH[67]? = some (.inl (0, 4)) := rfl
theorem sh_68 : SH[68]? = some (.inl (0, 64)) := rfl
theorem sh_69 : SH[69]? = some (.inl (0, 3)) := rfl
theorem sh_70 : SH[70]? = some (.inl (0, 3)) := rfl
theorem sh_71 : SH[71]? = some (.inr 4) := rfl
theorem sh_72 : SH[72]? = some (.inl (0, 5)) := rfl
theorem sh_73 : SH[73]? = some (.inl (0, 5)) := rfl
theorem sh_74 : SH[74]? = some (.inl (0, 5)) := rfl
theorem sh_75 : SH[75]? = some (.inl (0, 5)) := rfl
theorem sh_76 : SH[76]? = some (.inl (0, 16)) := rfl
theorem sh_77 : SH[77]? = some (.inl (0, 16)) := rfl
theorem sh_78 : SH[78]? = some (.inl (0, 96)) := rfl
theorem sh_79 : SH[79]? = some (.inl (0, 2)) := rfl
theorem sh_80 : SH[80]? = some (.inl (0, 2)) := rfl
theorem sh_81 : SH[81]? = some (.inl (0, 2)) := rfl
theorem sh_82 : SH[82]? = some (.inl (0, 7)) := rfl
theorem sh_83 : SH[83]? = some (.inl (0, 4)) := rfl
theorem sh_84 : SH[84]? = some (.inl (0, 64)) := rfl
theorem sh_85 : SH[85]? = some (.inl (0, 3)) := rfl
theorem sh_86 : SH[86]? = some (.inl (0, 3)) := rfl
theorem sh_87 : SH[87]? = some (.inr 10) := rfl
theorem sh_88 : SH[88]? = some (.inl (0, 700)) := rfl
theorem sh_89 : SH[89]? = some (.inl (0, 136)) := rfl
theorem sh_90 : SH[90]? = some (.inl (0, 10)) := rfl
theorem sh_91 : SH[91]? = some (.inl (0, 10)) := rfl
theorem sh_92 : SH[92]? = some (.inl (0, 10)) := rfl
theorem sh_93 : SH[93]? = some (.inl (0, 10)) := rfl
theorem sh_94 : SH[94]? = some (.inl (0, 32)) := rfl
theorem sh_95 : SH[95]? = some (.inl (0, 32)) := rfl
theorem sh_96 : SH[96]? = some (.inl (0, 24)) := rfl
theorem sh_97 : SH[97]? = some (.inl (0, 24)) := rfl
theorem sh_98 : SH[98]? = some (.inl (0, 4)) := rfl
theorem sh_99 : SH[99]? = some (.inl (0, 4)) := rfl
theorem sh_100 : SH[100]? = some (.inl (0, 4)) := rfl
theorem sh_101 : SH[101]? = some (.inl (0, 8)) := rfl
theorem sh_102 : SH[102]? = some (.inl (0, 32)) := rfl
theorem sh_103 : SH[103]? = some (.inl (3, 16)) := rfl
theorem sh_104 : SH[104]? = some (.inl (3, 6)) := rfl
theorem sh_105 : SH[105]? = some (.inl (0, 6)) := rfl
theorem sh_106 : SH[106]? = some (.inl (0, 6)) := rfl
theorem sh_107 : SH[107]? = some (.inl (0, 128)) := rfl
theorem sh_108 : SH[108]? = some (.inl (0, 128)) := rfl
theorem sh_109 : SH[109]? = some (.inl (0, 128)) := rfl
theorem sh_110 : SH[110]? = some (.inl (0, 96)) := rfl
theorem sh_111 : SH[111]? = some (.inl (0, 96)) := rfl
theorem sh_112 : SH[112]? = some (.inl (1, 8)) := rfl
theorem sh_113 : SH[113]? = some (.inl (1, 64)) := rfl
theorem sh_114 : SH[114]? = some (.inl (0, 80)) := rfl
theorem sh_115 : SH[115]? = some (.inl (0, 80)) := rfl
theorem sh_116 : SH[116]? = some (.inl (0, 80)) := rfl
theorem sh_117 : SH[117]? = some (.inl (0, 80)) := rfl
theorem sh_118 : SH[118]? = some (.inl (3, 80)) := rfl
theorem sh_119 : SH[119]? = some (.inl (0, 14)) := rfl
theorem sh_120 : SH[120]? = some (.inl (1, 2)) := rfl
theorem sh_121 : SH[121]? = some (.inl (0, 8)) := rfl
theorem sh_122 : SH[122]? = some (.inl (0, 8)) := rfl
theorem sh_123 : SH[123]? = some (.inl (0, 800)) := rfl
theorem sh_124 : SH[124]? = some (.inl (0, 20)) := rfl
theorem sh_125 : SH[125]? = some (.inl (0, 20)) := rfl
theorem sh_126 : SH[126]? = some (.inl (0, 20)) := rfl
theorem sh_127 : SH[127]? = some (.inl (0, 160)) := rfl
theorem sh_128 : SH[128]? = some (.inl (0, 5)) := rfl
theorem sh_129 : SH[129]? = some (.inl (0, 60)) := rfl
theorem sh_130 : SH[130]? = some (.inl (0, 60)) := rfl
theorem sh_131 : SH[131]? = some (.inl (3, 60)) := rfl
theorem sh_132 : SH[132]? = some (.inl (0, 40)) := rfl
theorem sh_133 : SH[133]? = some (.inl (0, 40)) := rfl
theorem sh_134 : SH[134]? = some (.inl (0, 40)) := rfl
theorem sh_135 : SH[135]? = some (.inl (0, 40)) := rfl
theorem sh_136 : SH[136]? = some (.inl (3, 40)) := rfl
theorem sh_137 : SH[137]? = some (.inl (0, 7)) := rfl
theorem sh_138 : SH[138]? = some (.inl (0, 8)) := rfl
theorem sh_139 : SH[139]? = some (.inl (1, 1)) := rfl
def RF (p s : Nat) (r : Option Nat) (i k : Nat) : Option Nat := match i with
  | 0 => match k with
    | 0 => some 1
    | 1 => some 4
    | 2 => some 8
    | 3 => some 9
    | 4 => some 10
    | 5 => some 19
    | 6 => some 28
    | 7 => some 37
    | 8 => some 40
    | 9 => some 43
    | 10 => some 48
    | 11 => some 53
    | 12 => some p
    | 13 => some s
    | _ => none
  | 1 => match k with
    | 0 => some 2
    | 1 => some 3
    | _ => none
  | 4 => match k with
    | 0 => some 1
    | 1 => some 5
    | 2 => some 6
    | 3 => some 7
    | 8 => r
    | _ => none
  | 10 => match k with
    | 0 => some 11
    | 1 => some 12
    | 2 => some 13
    | 3 => some 14
    | 4 => some 15
    | 5 => some 16
    | 6 => some 17
    | 7 => some 18
    | _ => none
  | 19 => match k with
    | 0 => some 20
    | 1 => some 21
    | 2 => some 22
    | 3 => some 23
    | 4 => some 24
    | 5 => some 25
    | 6 => some 26
    | 7 => some 27
    | _ => none
  | 28 => match k with
    | 0 => some 29
    | 1 => some 30
    | 2 => some 31
    | 3 => some 32
    | 4 => some 33
    | 5 => some 34
    | 6 => some 35
    | 7 => some 36
    | _ => none
  | 37 => match k with
    | 0 => some 10
    | 1 => some 8
    | 2 => some 38
    | 3 => some 39
    | 4 => some p
    | _ => none
  | 40 => match k with
    | 0 => some 19
    | 1 => some 9
    | 2 => some 41
    | 3 => some 42
    | 4 => some p
    | _ => none
  | 43 => match k with
    | 0 => some 44
    | 1 => some 45
    | 2 => some 46
    | 3 => some 47
    | _ => none
  | 48 => match k with
    | 0 => some 49
    | 1 => some 50
    | 2 => some 51
    | 3 => some 52
    | _ => none
  | 53 => match k with
    | 0 => some 54
    | _ => none
  | 55 => match k with
    | 1 => some 56
    | 2 => some 57
    | 3 => some 58
    | 4 => some 59
    | 6 => some 60
    | 7 => some 61
    | 8 => some 62
    | 10 => some 63
    | 11 => some 64
    | 12 => some 65
    | 13 => some 66
    | 15 => some 67
    | 17 => some 68
    | 18 => some 69
    | 19 => some 70
    | _ => none
  | 71 => match k with
    | 1 => some 72
    | 2 => some 73
    | 3 => some 74
    | 4 => some 75
    | 6 => some 76
    | 7 => some 77
    | 8 => some 78
    | 10 => some 79
    | 11 => some 80
    | 12 => some 81
    | 13 => some 82
    | 15 => some 83
    | 17 => some 84
    | 18 => some 85
    | 19 => some 86
    | _ => none
  | 87 => match k with
    | 0 => some 88
    | 3 => some 89
    | 24 => some 90
    | 25 => some 91
    | 26 => some 92
    | 27 => some 93
    | 28 => some 94
    | 29 => some 95
    | 30 => some 96
    | 31 => some 97
    | 32 => some 98
    | 33 => some 99
    | 34 => some 100
    | 35 => some 101
    | 36 => some 102
    | 37 => some 103
    | 38 => some 104
    | 39 => some 105
    | 40 => some 106
    | 41 => some 107
    | 42 => some 108
    | 43 => some 109
    | 44 => some 110
    | 45 => some 111
    | 52 => some 112
    | 53 => some 113
    | 57 => some 114
    | 58 => some 115
    | 59 => some 116
    | 60 => some 117
    | 61 => some 118
    | 62 => some 119
    | 63 => some 120
    | 66 => some 121
    | 77 => some 122
    | 79 => some 123
    | 80 => some 124
    | 81 => some 125
    | 82 => some 126
    | 83 => some 127
    | 84 => some 128
    | 87 => some 129
    | 88 => some 130
    | 89 => some 131
    | 96 => some 132
    | 97 => some 133
    | 98 => some 134
    | 99 => some 135
    | 100 => some 136
    | 101 => some 137
    | 102 => some 138
    | _ => none
  | _ => none
theorem rf_0_0 (p s : Nat) (r : Option Nat) : RF p s r 0 0 = some 1 := rfl
theorem rf_0_1 (p s : Nat) (r : Option Nat) : RF p s r 0 1 = some 4 := rfl
theorem rf_0_2 (p s : Nat) (r : Option Nat) : RF p s r 0 2 = some 8 := rfl
theorem rf_0_3 (p s : Nat) (r : Option Nat) : RF p s r 0 3 = some 9 := rfl
theorem rf_0_4 (p s : Nat) (r : Option Nat) : RF p s r 0 4 = some 10 := rfl
theorem rf_0_5 (p s : Nat) (r : Option Nat) : RF p s r 0 5 = some 19 := rfl
theorem rf_0_6 (p s : Nat) (r : Option Nat) : RF p s r 0 6 = some 28 := rfl
theorem rf_0_7 (p s : Nat) (r : Option Nat) : RF p s r 0 7 = some 37 := rfl
theorem rf_0_8 (p s : Nat) (r : Option Nat) : RF p s r 0 8 = some 40 := rfl
theorem rf_0_9 (p s : Nat) (r : Option Nat) : RF p s r 0 9 = some 43 := rfl
theorem rf_0_10 (p s : Nat) (r : Option Nat) : RF p s r 0 10 = some 48 := rfl
theorem rf_0_11 (p s : Nat) (r : Option Nat) : RF p s r 0 11 = some 53 := rfl
theorem rf_0_12 (p s : Nat) (r : Option Nat) : RF p s r 0 12 = some p := rfl
theorem rf_0_13 (p s : Nat) (r : Option Nat) : RF p s r 0 13 = some s := rfl
theorem rf_1_0 (p s : Nat) (r : Option Nat) : RF p s r 1 0 = some 2 := rfl
theorem rf_1_1 (p s : Nat) (r : Option Nat) : RF p s r 1 1 = some 3 := rfl
theorem rf_4_0 (p s : Nat) (r : Option Nat) : RF p s r 4 0 = some 1 := rfl
theorem rf_4_1 (p s : Nat) (r : Option Nat) : RF p s r 4 1 = some 5 := rfl
theorem rf_4_2 (p s : Nat) (r : Option Nat) : RF p s r 4 2 = some 6 := rfl
theorem rf_4_3 (p s : Nat) (r : Option Nat) : RF p s r 4 3 = some 7 := rfl
theorem rf_4_8 (p s : Nat) (r : Option Nat) : RF p s r 4 8 = r := rfl
theorem rf_10_0 (p s : Nat) (r : Option Nat) : RF p s r 10 0 = some 11 := rfl
theorem rf_10_1 (p s : Nat) (r : Option Nat) : RF p s r 10 1 = some 12 := rfl
theorem rf_10_2 (p s : Nat) (r : Option Nat) : RF p s r 10 2 = some 13 := rfl
theorem rf_10_3 (p s : Nat) (r : Option Nat) : RF p s r 10 3 = some 14 := rfl
theorem rf_10_4 (p s : Nat) (r : Option Nat) : RF p s r 10 4 = some 15 := rfl
theorem rf_10_5 (p s : Nat) (r : Option Nat) : RF p s r 10 5 = some 16 := rfl
theorem rf_10_6 (p s : Nat) (r : Option Nat) : RF p s r 10 6 = some 17 := rfl
theorem rf_10_7 (p s : Nat) (r : Option Nat) : RF p s r 10 7 = some 18 := rfl
theorem rf_19_0 (p s : Nat) (r : Option Nat) : RF p s r 19 0 = some 20 := rfl
theorem rf_19_1 (p s : Nat) (r : Option Nat) : RF p s r 19 1 = some 21 := rfl
theorem rf_19_2 (p s : Nat) (r : Option Nat) : RF p s r 19 2 = some 22 := rfl
theorem rf_19_3 (p s : Nat) (r : Option Nat) : RF p s r 19 3 = some 23 := rfl
theorem rf_19_4 (p s : Nat) (r : Option Nat) : RF p s r 19 4 = some 24 := rfl
theorem rf_19_5 (p s : Nat) (r : Option Nat) : RF p s r 19 5 = some 25 := rfl
theorem rf_19_6 (p s : Nat) (r : Option Nat) : RF p s r 19 6 = some 26 := rfl
theorem rf_19_7 (p s : Nat) (r : Option Nat) : RF p s r 19 7 = some 27 := rfl
theorem rf_28_0 (p s : Nat) (r : Option Nat) : RF p s r 28 0 = some 29 := rfl
theorem rf_28_1 (p s : Nat) (r : Option Nat) : RF p s r 28 1 = some 30 := rfl
theorem rf_28_2 (p s : Nat) (r : Option Nat) : RF p s r 28 2 = some 31 := rfl
theorem rf_28_3 (p s : Nat) (r : Option Nat) : RF p s r 28 3 = some 32 := rfl
theorem rf_28_4 (p s : Nat) (r : Option Nat) : RF p s r 28 4 = some 33 := rfl
theorem rf_28_5 (p s : Nat) (r : Option Nat) : RF p s r 28 5 = some 34 := rfl
theorem rf_28_6 (p s : Nat) (r : Option Nat) : RF p s r 28 6 = some 35 := rfl
theorem rf_28_7 (p s : Nat) (r : Option Nat) : RF p s r 28 7 = some 36 := rfl
theorem rf_37_0 (p s : Nat) (r : Option Nat) : RF p s r 37 0 = some 10 := rfl
theorem rf_37_1 (p s : Nat) (r : Option Nat) : RF p s r 37 1 = some 8 := rfl
theorem rf_37_2 (p s : Nat) (r : Option Nat) : RF p s r 37 2 = some 38 := rfl
theorem rf_37_3 (p s : Nat) (r : Option Nat) : RF p s r 37 3 = some 39 := rfl
theorem rf_37_4 (p s : Nat) (r : Option Nat) : RF p s r 37 4 = some p := rfl
theorem rf_40_0 (p s : Nat) (r : Option Nat) : RF p s r 40 0 = some 19 := rfl
theorem rf_40_1 (p s : Nat) (r : Option Nat) : RF p s r 40 1 = some 9 := rfl
theorem rf_40_2 (p s : Nat) (r : Option Nat) : RF p s r 40 2 = some 41 := rfl
theorem rf_40_3 (p s : Nat) (r : Option Nat) : RF p s r 40 3 = some 42 := rfl
theorem rf_40_4 (p s : Nat) (r : Option Nat) : RF p s r 40 4 = some p := rfl
theorem rf_43_0 (p s : Nat) (r : Option Nat) : RF p s r 43 0 = some 44 := rfl
theorem rf_43_1 (p s : Nat) (r : Option Nat) : RF p s r 43 1 = some 45 := rfl
theorem rf_43_2 (p s : Nat) (r : Option Nat) : RF p s r 43 2 = some 46 := rfl
theorem rf_43_3 (p s : Nat) (r : Option Nat) : RF p s r 43 3 = some 47 := rfl
theorem rf_48_0 (p s : Nat) (r : Option Nat) : RF p s r 48 0 = some 49 := rfl
theorem rf_48_1 (p s : Nat) (r : Option Nat) : RF p s r 48 1 = some 50 := rfl
theorem rf_48_2 (p s : Nat) (r : Option Nat) : RF p s r 48 2 = some 51 := rfl
theorem rf_48_3 (p s : Nat) (r : Option Nat) : RF p s r 48 3 = some 52 := rfl
theorem rf_53_0 (p s : Nat) (r : Option Nat) : RF p s r 53 0 = some 54 := rfl
theorem rf_55_1 (p s : Nat) (r : Option Nat) : RF p s r 55 1 = some 56 := rfl
theorem rf_55_2 (p s : Nat) (r : Option Nat) : RF p s r 55 2 = some 57 := rfl
theorem rf_55_3 (p s : Nat) (r : Option Nat) : RF p s r 55 3 = some 58 := rfl
theorem rf_55_4 (p s : Nat) (r : Option Nat) : RF p s r 55 4 = some 59 := rfl
theorem rf_55_6 (p s : Nat) (r : Option Nat) : RF p s r 55 6 = some 60 := rfl
theorem rf_55_7 (p s : Nat) (r : Option Nat) : RF p s r 55 7 = some 61 := rfl
theorem rf_55_8 (p s : Nat) (r : Option Nat) : RF p s r 55 8 = some 62 := rfl
theorem rf_55_10 (p s : Nat) (r : Option Nat) : RF p s r 55 10 = some 63 := rfl
theorem rf_55_11 (p s : Nat) (r : Option Nat) : RF p s r 55 11 = some 64 := rfl
theorem rf_55_12 (p s : Nat) (r : Option Nat) : RF p s r 55 12 = some 65 := rfl
theorem rf_55_13 (p s : Nat) (r : Option Nat) : RF p s r 55 13 = some 66 := rfl
theorem rf_55_15 (p s : Nat) (r : Option Nat) : RF p s r 55 15 = some 67 := rfl
theorem rf_55_17 (p s : Nat) (r : Option Nat) : RF p s r 55 17 = some 68 := rfl
theorem rf_55_18 (p s : Nat) (r : Option Nat) : RF p s r 55 18 = some 69 := rfl
theorem rf_55_19 (p s : Nat) (r : Option Nat) : RF p s r 55 19 = some 70 := rfl
theorem rf_71_1 (p s : Nat) (r : Option Nat) : RF p s r 71 1 = some 72 := rfl
theorem rf_71_2 (p s : Nat) (r : Option Nat) : RF p s r 71 2 = some 73 := rfl
theorem rf_71_3 (p s : Nat) (r : Option Nat) : RF p s r 71 3 = some 74 := rfl
theorem rf_71_4 (p s : Nat) (r : Option Nat) : RF p s r 71 4 = some 75 := rfl
theorem rf_71_6 (p s : Nat) (r : Option Nat) : RF p s r 71 6 = some 76 := rfl
theorem rf_71_7 (p s : Nat) (r : Option Nat) : RF p s r 71 7 = some 77 := rfl
theorem rf_71_8 (p s : Nat) (r : Option Nat) : RF p s r 71 8 = some 78 := rfl
theorem rf_71_10 (p s : Nat) (r : Option Nat) : RF p s r 71 10 = some 79 := rfl
theorem rf_71_11 (p s : Nat) (r : Option Nat) : RF p s r 71 11 = some 80 := rfl
theorem rf_71_12 (p s : Nat) (r : Option Nat) : RF p s r 71 12 = some 81 := rfl
theorem rf_71_13 (p s : Nat) (r : Option Nat) : RF p s r 71 13 = some 82 := rfl
theorem rf_71_15 (p s : Nat) (r : Option Nat) : RF p s r 71 15 = some 83 := rfl
theorem rf_71_17 (p s : Nat) (r : Option Nat) : RF p s r 71 17 = some 84 := rfl
theorem rf_71_18 (p s : Nat) (r : Option Nat) : RF p s r 71 18 = some 85 := rfl
theorem rf_71_19 (p s : Nat) (r : Option Nat) : RF p s r 71 19 = some 86 := rfl
theorem rf_87_0 (p s : Nat) (r : Option Nat) : RF p s r 87 0 = some 88 := rfl
theorem rf_87_3 (p s : Nat) (r : Option Nat) : RF p s r 87 3 = some 89 := rfl
theorem rf_87_24 (p s : Nat) (r : Option Nat) : RF p s r 87 24 = some 90 := rfl
theorem rf_87_25 (p s : Nat) (r : Option Nat) : RF p s r 87 25 = some 91 := rfl
theorem rf_87_26 (p s : Nat) (r : Option Nat) : RF p s r 87 26 = some 92 := rfl
theorem rf_87_27 (p s : Nat) (r : Option Nat) : RF p s r 87 27 = some 93 := rfl
theorem rf_87_28 (p s : Nat) (r : Option Nat) : RF p s r 87 28 = some 94 := rfl
theorem rf_87_29 (p s : Nat) (r : Option Nat) : RF p s r 87 29 = some 95 := rfl
theorem rf_87_30 (p s : Nat) (r : Option Nat) : RF p s r 87 30 = some 96 := rfl
theorem rf_87_31 (p s : Nat) (r : Option Nat) : RF p s r 87 31 = some 97 := rfl
theorem rf_87_32 (p s : Nat) (r : Option Nat) : RF p s r 87 32 = some 98 := rfl
theorem rf_87_33 (p s : Nat) (r : Option Nat) : RF p s r 87 33 = some 99 := rfl
theorem rf_87_34 (p s : Nat) (r : Option Nat) : RF p s r 87 34 = some 100 := rfl
theorem rf_87_35 (p s : Nat) (r : Option Nat) : RF p s r 87 35 = some 101 := rfl
theorem rf_87_36 (p s : Nat) (r : Option Nat) : RF p s r 87 36 = some 102 := rfl
theorem rf_87_37 (p s : Nat) (r : Option Nat) : RF p s r 87 37 = some 103 := rfl
theorem rf_87_38 (p s : Nat) (r : Option Nat) : RF p s r 87 38 = some 104 := rfl
theorem rf_87_39 (p s : Nat) (r : Option Nat) : RF p s r 87 39 = some 105 := rfl
theorem rf_87_40 (p s : Nat) (r : Option Nat) : RF p s r 87 40 = some 106 := rfl
theorem rf_87_41 (p s : Nat) (r : Option Nat) : RF p s r 87 41 = some 107 := rfl
theorem rf_87_42 (p s : Nat) (r : Option Nat) : RF p s r 87 42 = some 108 := rfl
theorem rf_87_43 (p s : Nat) (r : Option Nat) : RF p s r 87 43 = some 109 := rfl
theorem rf_87_44 (p s : Nat) (r : Option Nat) : RF p s r 87 44 = some 110 := rfl
theorem rf_87_45 (p s : Nat) (r : Option Nat) : RF p s r 87 45 = some 111 := rfl
theorem rf_87_52 (p s : Nat) (r : Option Nat) : RF p s r 87 52 = some 112 := rfl
theorem rf_87_53 (p s : Nat) (r : Option Nat) : RF p s r 87 53 = some 113 := rfl
theorem rf_87_57 (p s : Nat) (r : Option Nat) : RF p s r 87 57 = some 114 := rfl
theorem rf_87_58 (p s : Nat) (r : Option Nat) : RF p s r 87 58 = some 115 := rfl
theorem rf_87_59 (p s : Nat) (r : Option Nat) : RF p s r 87 59 = some 116 := rfl
theorem rf_87_60 (p s : Nat) (r : Option Nat) : RF p s r 87 60 = some 117 := rfl
theorem rf_87_61 (p s : Nat) (r : Option Nat) : RF p s r 87 61 = some 118 := rfl
theorem rf_87_62 (p s : Nat) (r : Option Nat) : RF p s r 87 62 = some 119 := rfl
theorem rf_87_63 (p s : Nat) (r : Option Nat) : RF p s r 87 63 = some 120 := rfl
theorem rf_87_66 (p s : Nat) (r : Option Nat) : RF p s r 87 66 = some 121 := rfl
theorem rf_87_77 (p s : Nat) (r : Option Nat) : RF p s r 87 77 = some 122 := rfl
theorem rf_87_79 (p s : Nat) (r : Option Nat) : RF p s r 87 79 = some 123 := rfl
theorem rf_87_80 (p s : Nat) (r : Option Nat) : RF p s r 87 80 = some 124 := rfl
theorem rf_87_81 (p s : Nat) (r : Option Nat) : RF p s r 87 81 = some 125 := rfl
theorem rf_87_82 (p s : Nat) (r : Option Nat) : RF p s r 87 82 = some 126 := rfl
theorem rf_87_83 (p s : Nat) (r : Option Nat) : RF p s r 87 83 = some 127 := rfl
theorem rf_87_84 (p s : Nat) (r : Option Nat) : RF p s r 87 84 = some 128 := rfl
theorem rf_87_87 (p s : Nat) (r : Option Nat) : RF p s r 87 87 = some 129 := rfl
theorem rf_87_88 (p s : Nat) (r : Option Nat) : RF p s r 87 88 = some 130 := rfl
theorem rf_87_89 (p s : Nat) (r : Option Nat) : RF p s r 87 89 = some 131 := rfl
theorem rf_87_96 (p s : Nat) (r : Option Nat) : RF p s r 87 96 = some 132 := rfl
theorem rf_87_97 (p s : Nat) (r : Option Nat) : RF p s r 87 97 = some 133 := rfl
theorem rf_87_98 (p s : Nat) (r : Option Nat) : RF p s r 87 98 = some 134 := rfl
theorem rf_87_99 (p s : Nat) (r : Option Nat) : RF p s r 87 99 = some 135 := rfl
theorem rf_87_100 (p s : Nat) (r : Option Nat) : RF p s r 87 100 = some 136 := rfl
theorem rf_87_101 (p s : Nat) (r : Option Nat) : RF p s r 87 101 = some 137 := rfl
theorem rf_87_102 (p s : Nat) (r : Option Nat) : RF p s r 87 102 = some 138 := rfl
