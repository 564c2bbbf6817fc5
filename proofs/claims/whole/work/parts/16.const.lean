/-! ===== CONSTANTS, kinds of fields (written by a program) ===== -/
theorem zf0 : ((0 : Fin 4) : Nat) = 0 := rfl
theorem zf1 : ((1 : Fin 4) : Nat) = 1 := rfl
theorem zf2 : ((2 : Fin 4) : Nat) = 2 := rfl
theorem zf3 : ((3 : Fin 4) : Nat) = 3 := rfl
theorem zl_0 : Int64.ofNat ((0 : Fin 2) : Nat) = 0 := rfl
theorem zl_1 : Int64.ofNat ((1 : Fin 2) : Nat) = 1 := rfl
theorem zCat1 (x : Int32) : (Value.int x).category = 1 := rfl
theorem zCat2 (x : Int64) : (Value.long x).category = 2 := rfl
theorem zCat3 (x : Nat) : (Value.ref x).category = 1 := rfl
theorem zKdI : zKd .int = 0 := rfl
theorem zKdL : zKd .long = 1 := rfl
theorem zKdR (t : FieldType) : zKd (.array t) = 2 := rfl
theorem zL_100 : Int64.ofInt 100 = 100 := rfl
theorem zL_1000000000000 : Int64.ofInt 1000000000000 = 1000000000000 := rfl
theorem zL_1085102592571150095 : Int64.ofInt 1085102592571150095 = 1085102592571150095 := rfl
theorem zL_1103515245 : Int64.ofInt 1103515245 = 1103515245 := rfl
theorem zL_12345 : Int64.ofInt 12345 = 12345 := rfl
theorem zL_15 : Int64.ofInt 15 = 15 := rfl
theorem zL_2147483647 : Int64.ofInt 2147483647 = 2147483647 := rfl
theorem zL_3689348814741910323 : Int64.ofInt 3689348814741910323 = 3689348814741910323 := rfl
theorem zL_6148914691236517205 : Int64.ofInt 6148914691236517205 = 6148914691236517205 := rfl
theorem zL_65536 : Int64.ofInt 65536 = 65536 := rfl
theorem zL_95 : Int64.ofInt 95 = 95 := rfl
theorem zL_m1000000000000 : Int64.ofInt (-1000000000000) = (-1000000000000) := rfl
theorem zL_m9223372036854775808 : Int64.ofInt (-9223372036854775808) = (-9223372036854775808) := rfl
theorem zb_10 : (Int8.ofInt 10).toInt32 = 10 := rfl
theorem zb_100 : (Int8.ofInt 100).toInt32 = 100 := rfl
theorem zb_101 : (Int8.ofInt 101).toInt32 = 101 := rfl
theorem zb_102 : (Int8.ofInt 102).toInt32 = 102 := rfl
theorem zb_103 : (Int8.ofInt 103).toInt32 = 103 := rfl
theorem zb_104 : (Int8.ofInt 104).toInt32 = 104 := rfl
theorem zb_105 : (Int8.ofInt 105).toInt32 = 105 := rfl
theorem zb_106 : (Int8.ofInt 106).toInt32 = 106 := rfl
theorem zb_107 : (Int8.ofInt 107).toInt32 = 107 := rfl
theorem zb_108 : (Int8.ofInt 108).toInt32 = 108 := rfl
theorem zb_109 : (Int8.ofInt 109).toInt32 = 109 := rfl
theorem zb_11 : (Int8.ofInt 11).toInt32 = 11 := rfl
theorem zb_110 : (Int8.ofInt 110).toInt32 = 110 := rfl
theorem zb_111 : (Int8.ofInt 111).toInt32 = 111 := rfl
theorem zb_112 : (Int8.ofInt 112).toInt32 = 112 := rfl
theorem zb_113 : (Int8.ofInt 113).toInt32 = 113 := rfl
theorem zb_114 : (Int8.ofInt 114).toInt32 = 114 := rfl
theorem zb_115 : (Int8.ofInt 115).toInt32 = 115 := rfl
theorem zb_116 : (Int8.ofInt 116).toInt32 = 116 := rfl
theorem zb_117 : (Int8.ofInt 117).toInt32 = 117 := rfl
theorem zb_118 : (Int8.ofInt 118).toInt32 = 118 := rfl
theorem zb_119 : (Int8.ofInt 119).toInt32 = 119 := rfl
theorem zb_12 : (Int8.ofInt 12).toInt32 = 12 := rfl
theorem zb_120 : (Int8.ofInt 120).toInt32 = 120 := rfl
theorem zb_121 : (Int8.ofInt 121).toInt32 = 121 := rfl
theorem zb_122 : (Int8.ofInt 122).toInt32 = 122 := rfl
theorem zb_123 : (Int8.ofInt 123).toInt32 = 123 := rfl
theorem zb_124 : (Int8.ofInt 124).toInt32 = 124 := rfl
theorem zb_125 : (Int8.ofInt 125).toInt32 = 125 := rfl
theorem zb_126 : (Int8.ofInt 126).toInt32 = 126 := rfl
theorem zb_127 : (Int8.ofInt 127).toInt32 = 127 := rfl
theorem zb_13 : (Int8.ofInt 13).toInt32 = 13 := rfl
theorem zb_14 : (Int8.ofInt 14).toInt32 = 14 := rfl
theorem zb_15 : (Int8.ofInt 15).toInt32 = 15 := rfl
theorem zb_16 : (Int8.ofInt 16).toInt32 = 16 := rfl
theorem zb_17 : (Int8.ofInt 17).toInt32 = 17 := rfl
theorem zb_18 : (Int8.ofInt 18).toInt32 = 18 := rfl
theorem zb_19 : (Int8.ofInt 19).toInt32 = 19 := rfl
theorem zb_20 : (Int8.ofInt 20).toInt32 = 20 := rfl
theorem zb_21 : (Int8.ofInt 21).toInt32 = 21 := rfl
theorem zb_22 : (Int8.ofInt 22).toInt32 = 22 := rfl
theorem zb_23 : (Int8.ofInt 23).toInt32 = 23 := rfl
theorem zb_24 : (Int8.ofInt 24).toInt32 = 24 := rfl
theorem zb_25 : (Int8.ofInt 25).toInt32 = 25 := rfl
theorem zb_26 : (Int8.ofInt 26).toInt32 = 26 := rfl
theorem zb_27 : (Int8.ofInt 27).toInt32 = 27 := rfl
theorem zb_28 : (Int8.ofInt 28).toInt32 = 28 := rfl
theorem zb_29 : (Int8.ofInt 29).toInt32 = 29 := rfl
theorem zb_30 : (Int8.ofInt 30).toInt32 = 30 := rfl
theorem zb_31 : (Int8.ofInt 31).toInt32 = 31 := rfl
theorem zb_32 : (Int8.ofInt 32).toInt32 = 32 := rfl
theorem zb_33 : (Int8.ofInt 33).toInt32 = 33 := rfl
theorem zb_34 : (Int8.ofInt 34).toInt32 = 34 := rfl
theorem zb_35 : (Int8.ofInt 35).toInt32 = 35 := rfl
theorem zb_36 : (Int8.ofInt 36).toInt32 = 36 := rfl
theorem zb_37 : (Int8.ofInt 37).toInt32 = 37 := rfl
theorem zb_38 : (Int8.ofInt 38).toInt32 = 38 := rfl
theorem zb_39 : (Int8.ofInt 39).toInt32 = 39 := rfl
theorem zb_40 : (Int8.ofInt 40).toInt32 = 40 := rfl
theorem zb_41 : (Int8.ofInt 41).toInt32 = 41 := rfl
theorem zb_42 : (Int8.ofInt 42).toInt32 = 42 := rfl
theorem zb_43 : (Int8.ofInt 43).toInt32 = 43 := rfl
theorem zb_44 : (Int8.ofInt 44).toInt32 = 44 := rfl
theorem zb_45 : (Int8.ofInt 45).toInt32 = 45 := rfl
theorem zb_46 : (Int8.ofInt 46).toInt32 = 46 := rfl
theorem zb_47 : (Int8.ofInt 47).toInt32 = 47 := rfl
theorem zb_48 : (Int8.ofInt 48).toInt32 = 48 := rfl
theorem zb_49 : (Int8.ofInt 49).toInt32 = 49 := rfl
theorem zb_50 : (Int8.ofInt 50).toInt32 = 50 := rfl
theorem zb_51 : (Int8.ofInt 51).toInt32 = 51 := rfl
theorem zb_52 : (Int8.ofInt 52).toInt32 = 52 := rfl
theorem zb_53 : (Int8.ofInt 53).toInt32 = 53 := rfl
theorem zb_54 : (Int8.ofInt 54).toInt32 = 54 := rfl
theorem zb_55 : (Int8.ofInt 55).toInt32 = 55 := rfl
theorem zb_56 : (Int8.ofInt 56).toInt32 = 56 := rfl
theorem zb_57 : (Int8.ofInt 57).toInt32 = 57 := rfl
theorem zb_58 : (Int8.ofInt 58).toInt32 = 58 := rfl
theorem zb_59 : (Int8.ofInt 59).toInt32 = 59 := rfl
theorem zb_6 : (Int8.ofInt 6).toInt32 = 6 := rfl
theorem zb_60 : (Int8.ofInt 60).toInt32 = 60 := rfl
theorem zb_61 : (Int8.ofInt 61).toInt32 = 61 := rfl
theorem zb_62 : (Int8.ofInt 62).toInt32 = 62 := rfl
theorem zb_63 : (Int8.ofInt 63).toInt32 = 63 := rfl
theorem zb_64 : (Int8.ofInt 64).toInt32 = 64 := rfl
theorem zb_65 : (Int8.ofInt 65).toInt32 = 65 := rfl
theorem zb_66 : (Int8.ofInt 66).toInt32 = 66 := rfl
theorem zb_67 : (Int8.ofInt 67).toInt32 = 67 := rfl
theorem zb_68 : (Int8.ofInt 68).toInt32 = 68 := rfl
theorem zb_69 : (Int8.ofInt 69).toInt32 = 69 := rfl
theorem zb_7 : (Int8.ofInt 7).toInt32 = 7 := rfl
theorem zb_70 : (Int8.ofInt 70).toInt32 = 70 := rfl
theorem zb_71 : (Int8.ofInt 71).toInt32 = 71 := rfl
theorem zb_72 : (Int8.ofInt 72).toInt32 = 72 := rfl
theorem zb_73 : (Int8.ofInt 73).toInt32 = 73 := rfl
theorem zb_74 : (Int8.ofInt 74).toInt32 = 74 := rfl
theorem zb_75 : (Int8.ofInt 75).toInt32 = 75 := rfl
theorem zb_76 : (Int8.ofInt 76).toInt32 = 76 := rfl
theorem zb_77 : (Int8.ofInt 77).toInt32 = 77 := rfl
theorem zb_78 : (Int8.ofInt 78).toInt32 = 78 := rfl
theorem zb_79 : (Int8.ofInt 79).toInt32 = 79 := rfl
theorem zb_8 : (Int8.ofInt 8).toInt32 = 8 := rfl
theorem zb_80 : (Int8.ofInt 80).toInt32 = 80 := rfl
theorem zb_81 : (Int8.ofInt 81).toInt32 = 81 := rfl
theorem zb_82 : (Int8.ofInt 82).toInt32 = 82 := rfl
theorem zb_83 : (Int8.ofInt 83).toInt32 = 83 := rfl
theorem zb_84 : (Int8.ofInt 84).toInt32 = 84 := rfl
theorem zb_85 : (Int8.ofInt 85).toInt32 = 85 := rfl
theorem zb_86 : (Int8.ofInt 86).toInt32 = 86 := rfl
theorem zb_87 : (Int8.ofInt 87).toInt32 = 87 := rfl
theorem zb_88 : (Int8.ofInt 88).toInt32 = 88 := rfl
theorem zb_89 : (Int8.ofInt 89).toInt32 = 89 := rfl
theorem zb_9 : (Int8.ofInt 9).toInt32 = 9 := rfl
theorem zb_90 : (Int8.ofInt 90).toInt32 = 90 := rfl
theorem zb_91 : (Int8.ofInt 91).toInt32 = 91 := rfl
theorem zb_92 : (Int8.ofInt 92).toInt32 = 92 := rfl
theorem zb_93 : (Int8.ofInt 93).toInt32 = 93 := rfl
theorem zb_94 : (Int8.ofInt 94).toInt32 = 94 := rfl
theorem zb_95 : (Int8.ofInt 95).toInt32 = 95 := rfl
theorem zb_96 : (Int8.ofInt 96).toInt32 = 96 := rfl
theorem zb_97 : (Int8.ofInt 97).toInt32 = 97 := rfl
theorem zb_98 : (Int8.ofInt 98).toInt32 = 98 := rfl
theorem zb_99 : (Int8.ofInt 99).toInt32 = 99 := rfl
theorem zb_m2 : (Int8.ofInt (-2)).toInt32 = (-2) := rfl
theorem zb_m46 : (Int8.ofInt (-46)).toInt32 = (-46) := rfl
theorem zi_0 : Int32.ofInt 0 = 0 := rfl
theorem zi_1 : Int32.ofInt 1 = 1 := rfl
theorem zi_1000000 : Int32.ofInt 1000000 = 1000000 := rfl
theorem zi_2 : Int32.ofInt 2 = 2 := rfl
theorem zi_3 : Int32.ofInt 3 = 3 := rfl
theorem zi_4 : Int32.ofInt 4 = 4 := rfl
theorem zi_5 : Int32.ofInt 5 = 5 := rfl
theorem zi_99999 : Int32.ofInt 99999 = 99999 := rfl
theorem zi_m1 : Int32.ofInt (-1) = (-1) := rfl
theorem zi_m2147483648 : Int32.ofInt (-2147483648) = (-2147483648) := rfl
theorem zi_m8 : Int32.ofInt (-8) = (-8) := rfl
theorem zs_128 : (Int16.ofInt 128).toInt32 = 128 := rfl
theorem zs_129 : (Int16.ofInt 129).toInt32 = 129 := rfl
theorem zs_130 : (Int16.ofInt 130).toInt32 = 130 := rfl
theorem zs_131 : (Int16.ofInt 131).toInt32 = 131 := rfl
theorem zs_132 : (Int16.ofInt 132).toInt32 = 132 := rfl
theorem zs_133 : (Int16.ofInt 133).toInt32 = 133 := rfl
theorem zs_134 : (Int16.ofInt 134).toInt32 = 134 := rfl
theorem zs_135 : (Int16.ofInt 135).toInt32 = 135 := rfl
theorem zs_136 : (Int16.ofInt 136).toInt32 = 136 := rfl
theorem zs_152 : (Int16.ofInt 152).toInt32 = 152 := rfl
theorem zs_160 : (Int16.ofInt 160).toInt32 = 160 := rfl
theorem zs_255 : (Int16.ofInt 255).toInt32 = 255 := rfl
theorem zs_700 : (Int16.ofInt 700).toInt32 = 700 := rfl
theorem zs_760 : (Int16.ofInt 760).toInt32 = 760 := rfl
theorem zs_800 : (Int16.ofInt 800).toInt32 = 800 := rfl
theorem zs_999 : (Int16.ofInt 999).toInt32 = 999 := rfl
theorem zs_9999 : (Int16.ofInt 9999).toInt32 = 9999 := rfl
theorem zcl_0 : Int32.toNatClampNeg 0 = 0 := rfl
theorem zcl_1 : Int32.toNatClampNeg 1 = 1 := rfl
theorem zcl_2 : Int32.toNatClampNeg 2 = 2 := rfl
theorem zcl_3 : Int32.toNatClampNeg 3 = 3 := rfl
theorem zcl_4 : Int32.toNatClampNeg 4 = 4 := rfl
theorem zcl_5 : Int32.toNatClampNeg 5 = 5 := rfl
theorem zcl_6 : Int32.toNatClampNeg 6 = 6 := rfl
theorem zcl_7 : Int32.toNatClampNeg 7 = 7 := rfl
theorem zcl_8 : Int32.toNatClampNeg 8 = 8 := rfl
theorem zcl_9 : Int32.toNatClampNeg 9 = 9 := rfl
theorem zcl_10 : Int32.toNatClampNeg 10 = 10 := rfl
theorem zcl_11 : Int32.toNatClampNeg 11 = 11 := rfl
theorem zcl_12 : Int32.toNatClampNeg 12 = 12 := rfl
theorem zcl_13 : Int32.toNatClampNeg 13 = 13 := rfl
theorem zcl_14 : Int32.toNatClampNeg 14 = 14 := rfl
theorem zcl_15 : Int32.toNatClampNeg 15 = 15 := rfl
theorem zcl_16 : Int32.toNatClampNeg 16 = 16 := rfl
theorem zcl_17 : Int32.toNatClampNeg 17 = 17 := rfl
theorem zcl_18 : Int32.toNatClampNeg 18 = 18 := rfl
theorem zcl_19 : Int32.toNatClampNeg 19 = 19 := rfl
theorem zcl_20 : Int32.toNatClampNeg 20 = 20 := rfl
theorem zcl_21 : Int32.toNatClampNeg 21 = 21 := rfl
theorem zcl_22 : Int32.toNatClampNeg 22 = 22 := rfl
theorem zcl_23 : Int32.toNatClampNeg 23 = 23 := rfl
theorem zcl_24 : Int32.toNatClampNeg 24 = 24 := rfl
theorem zcl_25 : Int32.toNatClampNeg 25 = 25 := rfl
theorem zcl_26 : Int32.toNatClampNeg 26 = 26 := rfl
theorem zcl_27 : Int32.toNatClampNeg 27 = 27 := rfl
theorem zcl_28 : Int32.toNatClampNeg 28 = 28 := rfl
theorem zcl_29 : Int32.toNatClampNeg 29 = 29 := rfl
theorem zcl_30 : Int32.toNatClampNeg 30 = 30 := rfl
theorem zcl_31 : Int32.toNatClampNeg 31 = 31 := rfl
theorem zcl_32 : Int32.toNatClampNeg 32 = 32 := rfl
theorem zcl_33 : Int32.toNatClampNeg 33 = 33 := rfl
theorem zcl_34 : Int32.toNatClampNeg 34 = 34 := rfl
theorem zcl_35 : Int32.toNatClampNeg 35 = 35 := rfl
theorem zcl_36 : Int32.toNatClampNeg 36 = 36 := rfl
theorem zcl_37 : Int32.toNatClampNeg 37 = 37 := rfl
theorem zcl_38 : Int32.toNatClampNeg 38 = 38 := rfl
theorem zcl_39 : Int32.toNatClampNeg 39 = 39 := rfl
theorem zcl_40 : Int32.toNatClampNeg 40 = 40 := rfl
theorem zcl_41 : Int32.toNatClampNeg 41 = 41 := rfl
theorem zcl_42 : Int32.toNatClampNeg 42 = 42 := rfl
theorem zcl_43 : Int32.toNatClampNeg 43 = 43 := rfl
theorem zcl_44 : Int32.toNatClampNeg 44 = 44 := rfl
theorem zcl_45 : Int32.toNatClampNeg 45 = 45 := rfl
theorem zcl_46 : Int32.toNatClampNeg 46 = 46 := rfl
theorem zcl_47 : Int32.toNatClampNeg 47 = 47 := rfl
theorem zcl_48 : Int32.toNatClampNeg 48 = 48 := rfl
theorem zcl_49 : Int32.toNatClampNeg 49 = 49 := rfl
theorem zcl_50 : Int32.toNatClampNeg 50 = 50 := rfl
theorem zcl_51 : Int32.toNatClampNeg 51 = 51 := rfl
theorem zcl_52 : Int32.toNatClampNeg 52 = 52 := rfl
theorem zcl_53 : Int32.toNatClampNeg 53 = 53 := rfl
theorem zcl_54 : Int32.toNatClampNeg 54 = 54 := rfl
theorem zcl_55 : Int32.toNatClampNeg 55 = 55 := rfl
theorem zcl_56 : Int32.toNatClampNeg 56 = 56 := rfl
theorem zcl_57 : Int32.toNatClampNeg 57 = 57 := rfl
theorem zcl_58 : Int32.toNatClampNeg 58 = 58 := rfl
theorem zcl_59 : Int32.toNatClampNeg 59 = 59 := rfl
theorem zcl_60 : Int32.toNatClampNeg 60 = 60 := rfl
theorem zcl_61 : Int32.toNatClampNeg 61 = 61 := rfl
theorem zcl_62 : Int32.toNatClampNeg 62 = 62 := rfl
theorem zcl_63 : Int32.toNatClampNeg 63 = 63 := rfl
theorem zcl_64 : Int32.toNatClampNeg 64 = 64 := rfl
theorem zcl_65 : Int32.toNatClampNeg 65 = 65 := rfl
theorem zcl_66 : Int32.toNatClampNeg 66 = 66 := rfl
theorem zcl_67 : Int32.toNatClampNeg 67 = 67 := rfl
theorem zcl_68 : Int32.toNatClampNeg 68 = 68 := rfl
theorem zcl_69 : Int32.toNatClampNeg 69 = 69 := rfl
theorem zcl_70 : Int32.toNatClampNeg 70 = 70 := rfl
theorem zcl_71 : Int32.toNatClampNeg 71 = 71 := rfl
theorem zcl_72 : Int32.toNatClampNeg 72 = 72 := rfl
theorem zcl_73 : Int32.toNatClampNeg 73 = 73 := rfl
theorem zcl_74 : Int32.toNatClampNeg 74 = 74 := rfl
theorem zcl_75 : Int32.toNatClampNeg 75 = 75 := rfl
theorem zcl_76 : Int32.toNatClampNeg 76 = 76 := rfl
theorem zcl_77 : Int32.toNatClampNeg 77 = 77 := rfl
theorem zcl_78 : Int32.toNatClampNeg 78 = 78 := rfl
theorem zcl_79 : Int32.toNatClampNeg 79 = 79 := rfl
theorem zcl_80 : Int32.toNatClampNeg 80 = 80 := rfl
theorem zcl_81 : Int32.toNatClampNeg 81 = 81 := rfl
theorem zcl_82 : Int32.toNatClampNeg 82 = 82 := rfl
theorem zcl_83 : Int32.toNatClampNeg 83 = 83 := rfl
theorem zcl_84 : Int32.toNatClampNeg 84 = 84 := rfl
theorem zcl_85 : Int32.toNatClampNeg 85 = 85 := rfl
theorem zcl_86 : Int32.toNatClampNeg 86 = 86 := rfl
theorem zcl_87 : Int32.toNatClampNeg 87 = 87 := rfl
theorem zcl_88 : Int32.toNatClampNeg 88 = 88 := rfl
theorem zcl_89 : Int32.toNatClampNeg 89 = 89 := rfl
theorem zcl_90 : Int32.toNatClampNeg 90 = 90 := rfl
theorem zcl_91 : Int32.toNatClampNeg 91 = 91 := rfl
theorem zcl_92 : Int32.toNatClampNeg 92 = 92 := rfl
theorem zcl_93 : Int32.toNatClampNeg 93 = 93 := rfl
theorem zcl_94 : Int32.toNatClampNeg 94 = 94 := rfl
theorem zcl_95 : Int32.toNatClampNeg 95 = 95 := rfl
theorem zcl_96 : Int32.toNatClampNeg 96 = 96 := rfl
theorem zcl_97 : Int32.toNatClampNeg 97 = 97 := rfl
theorem zcl_98 : Int32.toNatClampNeg 98 = 98 := rfl
theorem zcl_99 : Int32.toNatClampNeg 99 = 99 := rfl
theorem zcl_100 : Int32.toNatClampNeg 100 = 100 := rfl
theorem zcl_101 : Int32.toNatClampNeg 101 = 101 := rfl
theorem zcl_102 : Int32.toNatClampNeg 102 = 102 := rfl
theorem zcl_103 : Int32.toNatClampNeg 103 = 103 := rfl
theorem zcl_104 : Int32.toNatClampNeg 104 = 104 := rfl
theorem zcl_105 : Int32.toNatClampNeg 105 = 105 := rfl
theorem zcl_106 : Int32.toNatClampNeg 106 = 106 := rfl
theorem zcl_107 : Int32.toNatClampNeg 107 = 107 := rfl
theorem zcl_108 : Int32.toNatClampNeg 108 = 108 := rfl
theorem zcl_109 : Int32.toNatClampNeg 109 = 109 := rfl
theorem zcl_110 : Int32.toNatClampNeg 110 = 110 := rfl
theorem zcl_111 : Int32.toNatClampNeg 111 = 111 := rfl
theorem zcl_112 : Int32.toNatClampNeg 112 = 112 := rfl
theorem zcl_113 : Int32.toNatClampNeg 113 = 113 := rfl
theorem zcl_114 : Int32.toNatClampNeg 114 = 114 := rfl
theorem zcl_115 : Int32.toNatClampNeg 115 = 115 := rfl
theorem zcl_116 : Int32.toNatClampNeg 116 = 116 := rfl
theorem zcl_117 : Int32.toNatClampNeg 117 = 117 := rfl
theorem zcl_118 : Int32.toNatClampNeg 118 = 118 := rfl
theorem zcl_119 : Int32.toNatClampNeg 119 = 119 := rfl
theorem zcl_120 : Int32.toNatClampNeg 120 = 120 := rfl
theorem zcl_121 : Int32.toNatClampNeg 121 = 121 := rfl
theorem zcl_122 : Int32.toNatClampNeg 122 = 122 := rfl
theorem zcl_123 : Int32.toNatClampNeg 123 = 123 := rfl
theorem zcl_124 : Int32.toNatClampNeg 124 = 124 := rfl
theorem zcl_125 : Int32.toNatClampNeg 125 = 125 := rfl
theorem zcl_126 : Int32.toNatClampNeg 126 = 126 := rfl
theorem zcl_127 : Int32.toNatClampNeg 127 = 127 := rfl
theorem zcl_128 : Int32.toNatClampNeg 128 = 128 := rfl
theorem zcl_129 : Int32.toNatClampNeg 129 = 129 := rfl
theorem zcl_130 : Int32.toNatClampNeg 130 = 130 := rfl
theorem zcl_131 : Int32.toNatClampNeg 131 = 131 := rfl
theorem zcl_132 : Int32.toNatClampNeg 132 = 132 := rfl
theorem zcl_133 : Int32.toNatClampNeg 133 = 133 := rfl
theorem zcl_134 : Int32.toNatClampNeg 134 = 134 := rfl
theorem zcl_135 : Int32.toNatClampNeg 135 = 135 := rfl
theorem zcl_136 : Int32.toNatClampNeg 136 = 136 := rfl
theorem zcl_152 : Int32.toNatClampNeg 152 = 152 := rfl
theorem zcl_160 : Int32.toNatClampNeg 160 = 160 := rfl
theorem zcl_255 : Int32.toNatClampNeg 255 = 255 := rfl
theorem zcl_700 : Int32.toNatClampNeg 700 = 700 := rfl
theorem zcl_760 : Int32.toNatClampNeg 760 = 760 := rfl
theorem zcl_800 : Int32.toNatClampNeg 800 = 800 := rfl
theorem zcl_999 : Int32.toNatClampNeg 999 = 999 := rfl
theorem zcl_9999 : Int32.toNatClampNeg 9999 = 9999 := rfl
theorem zcl_99999 : Int32.toNatClampNeg 99999 = 99999 := rfl
theorem zcl_1000000 : Int32.toNatClampNeg 1000000 = 1000000 := rfl
theorem zKd_0_0 : zKd (zTy 0 0) = 2 := rfl
theorem zTy_0_0 : zTy 0 0 = .array .int := rfl
theorem zKd_0_1 : zKd (zTy 0 1) = 2 := rfl
theorem zTy_0_1 : zTy 0 1 = .array .boolean := rfl
theorem zKd_0_2 : zKd (zTy 0 2) = 2 := rfl
theorem zTy_0_2 : zTy 0 2 = .array .int := rfl
theorem zKd_0_3 : zKd (zTy 0 3) = 2 := rfl
theorem zTy_0_3 : zTy 0 3 = .array .int := rfl
theorem zKd_0_4 : zKd (zTy 0 4) = 0 := rfl
theorem zTy_0_4 : zTy 0 4 = .int := rfl
theorem zKd_0_5 : zKd (zTy 0 5) = 0 := rfl
theorem zTy_0_5 : zTy 0 5 = .int := rfl
theorem zKd_1_0 : zKd (zTy 1 0) = 2 := rfl
theorem zTy_1_0 : zTy 1 0 = .array .int := rfl
theorem zKd_1_1 : zKd (zTy 1 1) = 2 := rfl
theorem zTy_1_1 : zTy 1 1 = .array .int := rfl
theorem zKd_1_2 : zKd (zTy 1 2) = 2 := rfl
theorem zTy_1_2 : zTy 1 2 = .array .int := rfl
theorem zKd_1_3 : zKd (zTy 1 3) = 2 := rfl
theorem zTy_1_3 : zTy 1 3 = .array .long := rfl
theorem zKd_1_4 : zKd (zTy 1 4) = 0 := rfl
theorem zTy_1_4 : zTy 1 4 = .int := rfl
theorem zKd_2_0 : zKd (zTy 2 0) = 2 := rfl
theorem zTy_2_0 : zTy 2 0 = .array .int := rfl
theorem zKd_2_1 : zKd (zTy 2 1) = 2 := rfl
theorem zTy_2_1 : zTy 2 1 = .array .int := rfl
theorem zKd_2_2 : zKd (zTy 2 2) = 2 := rfl
theorem zTy_2_2 : zTy 2 2 = .array .int := rfl
theorem zKd_2_3 : zKd (zTy 2 3) = 2 := rfl
theorem zTy_2_3 : zTy 2 3 = .array .int := rfl
theorem zKd_2_4 : zKd (zTy 2 4) = 2 := rfl
theorem zTy_2_4 : zTy 2 4 = .array .int := rfl
theorem zKd_2_5 : zKd (zTy 2 5) = 2 := rfl
theorem zTy_2_5 : zTy 2 5 = .array .int := rfl
theorem zKd_2_6 : zKd (zTy 2 6) = 2 := rfl
theorem zTy_2_6 : zTy 2 6 = .array .int := rfl
theorem zKd_2_7 : zKd (zTy 2 7) = 2 := rfl
theorem zTy_2_7 : zTy 2 7 = .array .int := rfl
theorem zKd_2_8 : zKd (zTy 2 8) = 0 := rfl
theorem zTy_2_8 : zTy 2 8 = .int := rfl
theorem zKd_2_9 : zKd (zTy 2 9) = 0 := rfl
theorem zTy_2_9 : zTy 2 9 = .int := rfl
theorem zKd_2_10 : zKd (zTy 2 10) = 0 := rfl
theorem zTy_2_10 : zTy 2 10 = .int := rfl
theorem zKd_2_11 : zKd (zTy 2 11) = 0 := rfl
theorem zTy_2_11 : zTy 2 11 = .int := rfl
theorem zKd_2_12 : zKd (zTy 2 12) = 0 := rfl
theorem zTy_2_12 : zTy 2 12 = .int := rfl
theorem zKd_2_13 : zKd (zTy 2 13) = 0 := rfl
theorem zTy_2_13 : zTy 2 13 = .int := rfl
theorem zKd_2_14 : zKd (zTy 2 14) = 1 := rfl
theorem zTy_2_14 : zTy 2 14 = .long := rfl
theorem zKd_2_15 : zKd (zTy 2 15) = 1 := rfl
theorem zTy_2_15 : zTy 2 15 = .long := rfl
theorem zKd_3_0 : zKd (zTy 3 0) = 2 := rfl
theorem zTy_3_0 : zTy 3 0 = .array .int := rfl
theorem zKd_3_1 : zKd (zTy 3 1) = 0 := rfl
theorem zTy_3_1 : zTy 3 1 = .int := rfl
theorem zKd_4_0 : zKd (zTy 4 0) = 0 := rfl
theorem zTy_4_0 : zTy 4 0 = .int := rfl
theorem zKd_4_1 : zKd (zTy 4 1) = 2 := rfl
theorem zTy_4_1 : zTy 4 1 = .array .int := rfl
theorem zKd_4_2 : zKd (zTy 4 2) = 2 := rfl
theorem zTy_4_2 : zTy 4 2 = .array .int := rfl
theorem zKd_4_3 : zKd (zTy 4 3) = 2 := rfl
theorem zTy_4_3 : zTy 4 3 = .array .int := rfl
theorem zKd_4_4 : zKd (zTy 4 4) = 2 := rfl
theorem zTy_4_4 : zTy 4 4 = .array .int := rfl
theorem zKd_4_5 : zKd (zTy 4 5) = 0 := rfl
theorem zTy_4_5 : zTy 4 5 = .int := rfl
theorem zKd_4_6 : zKd (zTy 4 6) = 2 := rfl
theorem zTy_4_6 : zTy 4 6 = .array .int := rfl
theorem zKd_4_7 : zKd (zTy 4 7) = 2 := rfl
theorem zTy_4_7 : zTy 4 7 = .array .int := rfl
theorem zKd_4_8 : zKd (zTy 4 8) = 2 := rfl
theorem zTy_4_8 : zTy 4 8 = .array .int := rfl
theorem zKd_4_9 : zKd (zTy 4 9) = 0 := rfl
theorem zTy_4_9 : zTy 4 9 = .int := rfl
theorem zKd_4_10 : zKd (zTy 4 10) = 2 := rfl
theorem zTy_4_10 : zTy 4 10 = .array .int := rfl
theorem zKd_4_11 : zKd (zTy 4 11) = 2 := rfl
theorem zTy_4_11 : zTy 4 11 = .array .int := rfl
theorem zKd_4_12 : zKd (zTy 4 12) = 2 := rfl
theorem zTy_4_12 : zTy 4 12 = .array .int := rfl
theorem zKd_4_13 : zKd (zTy 4 13) = 2 := rfl
theorem zTy_4_13 : zTy 4 13 = .array .int := rfl
theorem zKd_4_14 : zKd (zTy 4 14) = 0 := rfl
theorem zTy_4_14 : zTy 4 14 = .int := rfl
theorem zKd_4_15 : zKd (zTy 4 15) = 2 := rfl
theorem zTy_4_15 : zTy 4 15 = .array .int := rfl
theorem zKd_4_16 : zKd (zTy 4 16) = 0 := rfl
theorem zTy_4_16 : zTy 4 16 = .int := rfl
theorem zKd_4_17 : zKd (zTy 4 17) = 2 := rfl
theorem zTy_4_17 : zTy 4 17 = .array .int := rfl
theorem zKd_4_18 : zKd (zTy 4 18) = 2 := rfl
theorem zTy_4_18 : zTy 4 18 = .array .int := rfl
theorem zKd_4_19 : zKd (zTy 4 19) = 2 := rfl
theorem zTy_4_19 : zTy 4 19 = .array .int := rfl
theorem zKd_5_0 : zKd (zTy 5 0) = 2 := rfl
theorem zTy_5_0 : zTy 5 0 = .object "SkyChairs$Tokens" := rfl
theorem zKd_5_1 : zKd (zTy 5 1) = 2 := rfl
theorem zTy_5_1 : zTy 5 1 = .array .int := rfl
theorem zKd_5_2 : zKd (zTy 5 2) = 2 := rfl
theorem zTy_5_2 : zTy 5 2 = .array .int := rfl
theorem zKd_5_3 : zKd (zTy 5 3) = 2 := rfl
theorem zTy_5_3 : zTy 5 3 = .array .int := rfl
theorem zKd_5_4 : zKd (zTy 5 4) = 0 := rfl
theorem zTy_5_4 : zTy 5 4 = .int := rfl
theorem zKd_5_5 : zKd (zTy 5 5) = 0 := rfl
theorem zTy_5_5 : zTy 5 5 = .int := rfl
theorem zKd_5_6 : zKd (zTy 5 6) = 0 := rfl
theorem zTy_5_6 : zTy 5 6 = .int := rfl
theorem zKd_5_7 : zKd (zTy 5 7) = 0 := rfl
theorem zTy_5_7 : zTy 5 7 = .int := rfl
theorem zKd_5_8 : zKd (zTy 5 8) = 2 := rfl
theorem zTy_5_8 : zTy 5 8 = .object "SkyChairs$Plan" := rfl
theorem zKd_5_9 : zKd (zTy 5 9) = 0 := rfl
theorem zTy_5_9 : zTy 5 9 = .int := rfl
theorem zKd_5_10 : zKd (zTy 5 10) = 0 := rfl
theorem zTy_5_10 : zTy 5 10 = .int := rfl
theorem zKd_5_11 : zKd (zTy 5 11) = 0 := rfl
theorem zTy_5_11 : zTy 5 11 = .int := rfl
theorem zKd_6_0 : zKd (zTy 6 0) = 0 := rfl
theorem zTy_6_0 : zTy 6 0 = .int := rfl
theorem zKd_6_1 : zKd (zTy 6 1) = 0 := rfl
theorem zTy_6_1 : zTy 6 1 = .boolean := rfl
theorem zKd_6_2 : zKd (zTy 6 2) = 0 := rfl
theorem zTy_6_2 : zTy 6 2 = .int := rfl
theorem zKd_6_3 : zKd (zTy 6 3) = 0 := rfl
theorem zTy_6_3 : zTy 6 3 = .boolean := rfl
theorem zKd_6_4 : zKd (zTy 6 4) = 0 := rfl
theorem zTy_6_4 : zTy 6 4 = .boolean := rfl
theorem zKd_6_5 : zKd (zTy 6 5) = 0 := rfl
theorem zTy_6_5 : zTy 6 5 = .boolean := rfl
theorem zKd_6_6 : zKd (zTy 6 6) = 0 := rfl
theorem zTy_6_6 : zTy 6 6 = .boolean := rfl
theorem zKd_6_7 : zKd (zTy 6 7) = 0 := rfl
theorem zTy_6_7 : zTy 6 7 = .int := rfl
theorem zKd_6_8 : zKd (zTy 6 8) = 0 := rfl
theorem zTy_6_8 : zTy 6 8 = .int := rfl
theorem zKd_7_0 : zKd (zTy 7 0) = 2 := rfl
theorem zTy_7_0 : zTy 7 0 = .array .byte := rfl
theorem zKd_7_1 : zKd (zTy 7 1) = 2 := rfl
theorem zTy_7_1 : zTy 7 1 = .array .int := rfl
theorem zKd_7_2 : zKd (zTy 7 2) = 0 := rfl
theorem zTy_7_2 : zTy 7 2 = .int := rfl
theorem zKd_7_3 : zKd (zTy 7 3) = 0 := rfl
theorem zTy_7_3 : zTy 7 3 = .int := rfl
theorem zKd_7_4 : zKd (zTy 7 4) = 0 := rfl
theorem zTy_7_4 : zTy 7 4 = .int := rfl
theorem zKd_7_5 : zKd (zTy 7 5) = 0 := rfl
theorem zTy_7_5 : zTy 7 5 = .int := rfl
theorem zKd_7_6 : zKd (zTy 7 6) = 0 := rfl
theorem zTy_7_6 : zTy 7 6 = .int := rfl
theorem zKd_7_7 : zKd (zTy 7 7) = 0 := rfl
theorem zTy_7_7 : zTy 7 7 = .int := rfl
theorem zKd_8_0 : zKd (zTy 8 0) = 2 := rfl
theorem zTy_8_0 : zTy 8 0 = .object "SkyChairs$Front" := rfl
theorem zKd_8_1 : zKd (zTy 8 1) = 2 := rfl
theorem zTy_8_1 : zTy 8 1 = .object "SkyChairs$Terms" := rfl
theorem zKd_8_2 : zKd (zTy 8 2) = 2 := rfl
theorem zTy_8_2 : zTy 8 2 = .array .long := rfl
theorem zKd_8_3 : zKd (zTy 8 3) = 2 := rfl
theorem zTy_8_3 : zTy 8 3 = .array .long := rfl
theorem zKd_8_4 : zKd (zTy 8 4) = 2 := rfl
theorem zTy_8_4 : zTy 8 4 = .object "SkyChairs$Plan" := rfl
theorem zKd_9_0 : zKd (zTy 9 0) = 2 := rfl
theorem zTy_9_0 : zTy 9 0 = .object "SkyChairs$Tokens" := rfl
theorem zKd_9_1 : zKd (zTy 9 1) = 2 := rfl
theorem zTy_9_1 : zTy 9 1 = .object "SkyChairs$Reader" := rfl
theorem zKd_9_2 : zKd (zTy 9 2) = 2 := rfl
theorem zTy_9_2 : zTy 9 2 = .object "SkyChairs$Terms" := rfl
theorem zKd_9_3 : zKd (zTy 9 3) = 2 := rfl
theorem zTy_9_3 : zTy 9 3 = .object "SkyChairs$Terms" := rfl
theorem zKd_9_4 : zKd (zTy 9 4) = 2 := rfl
theorem zTy_9_4 : zTy 9 4 = .object "SkyChairs$Front" := rfl
theorem zKd_9_5 : zKd (zTy 9 5) = 2 := rfl
theorem zTy_9_5 : zTy 9 5 = .object "SkyChairs$Front" := rfl
theorem zKd_9_6 : zKd (zTy 9 6) = 2 := rfl
theorem zTy_9_6 : zTy 9 6 = .object "SkyChairs$Front" := rfl
theorem zKd_9_7 : zKd (zTy 9 7) = 2 := rfl
theorem zTy_9_7 : zTy 9 7 = .object "SkyChairs$Walk" := rfl
theorem zKd_9_8 : zKd (zTy 9 8) = 2 := rfl
theorem zTy_9_8 : zTy 9 8 = .object "SkyChairs$Walk" := rfl
theorem zKd_9_9 : zKd (zTy 9 9) = 2 := rfl
theorem zTy_9_9 : zTy 9 9 = .object "SkyChairs$Deeds" := rfl
theorem zKd_9_10 : zKd (zTy 9 10) = 2 := rfl
theorem zTy_9_10 : zTy 9 10 = .object "SkyChairs$Book" := rfl
theorem zKd_9_11 : zKd (zTy 9 11) = 2 := rfl
theorem zTy_9_11 : zTy 9 11 = .object "SkyChairs$Order" := rfl
theorem zKd_9_12 : zKd (zTy 9 12) = 2 := rfl
theorem zTy_9_12 : zTy 9 12 = .object "SkyChairs$Plan" := rfl
theorem zKd_9_13 : zKd (zTy 9 13) = 2 := rfl
theorem zTy_9_13 : zTy 9 13 = .object "SkyChairs$Plan" := rfl
theorem zKd_9_14 : zKd (zTy 9 14) = 0 := rfl
theorem zTy_9_14 : zTy 9 14 = .boolean := rfl
theorem zKd_10_0 : zKd (zTy 10 0) = 2 := rfl
theorem zTy_10_0 : zTy 10 0 = .array .int := rfl
theorem zKd_10_1 : zKd (zTy 10 1) = 0 := rfl
theorem zTy_10_1 : zTy 10 1 = .int := rfl
theorem zKd_10_2 : zKd (zTy 10 2) = 0 := rfl
theorem zTy_10_2 : zTy 10 2 = .int := rfl
theorem zKd_10_3 : zKd (zTy 10 3) = 2 := rfl
theorem zTy_10_3 : zTy 10 3 = .array .int := rfl
theorem zKd_10_4 : zKd (zTy 10 4) = 0 := rfl
theorem zTy_10_4 : zTy 10 4 = .int := rfl
theorem zKd_10_5 : zKd (zTy 10 5) = 0 := rfl
theorem zTy_10_5 : zTy 10 5 = .int := rfl
theorem zKd_10_6 : zKd (zTy 10 6) = 0 := rfl
theorem zTy_10_6 : zTy 10 6 = .int := rfl
theorem zKd_10_7 : zKd (zTy 10 7) = 0 := rfl
theorem zTy_10_7 : zTy 10 7 = .int := rfl
theorem zKd_10_8 : zKd (zTy 10 8) = 0 := rfl
theorem zTy_10_8 : zTy 10 8 = .int := rfl
theorem zKd_10_9 : zKd (zTy 10 9) = 0 := rfl
theorem zTy_10_9 : zTy 10 9 = .int := rfl
theorem zKd_10_10 : zKd (zTy 10 10) = 0 := rfl
theorem zTy_10_10 : zTy 10 10 = .int := rfl
theorem zKd_10_11 : zKd (zTy 10 11) = 0 := rfl
theorem zTy_10_11 : zTy 10 11 = .int := rfl
theorem zKd_10_12 : zKd (zTy 10 12) = 0 := rfl
theorem zTy_10_12 : zTy 10 12 = .int := rfl
theorem zKd_10_13 : zKd (zTy 10 13) = 0 := rfl
theorem zTy_10_13 : zTy 10 13 = .int := rfl
theorem zKd_10_14 : zKd (zTy 10 14) = 0 := rfl
theorem zTy_10_14 : zTy 10 14 = .int := rfl
theorem zKd_10_15 : zKd (zTy 10 15) = 0 := rfl
theorem zTy_10_15 : zTy 10 15 = .int := rfl
theorem zKd_10_16 : zKd (zTy 10 16) = 0 := rfl
theorem zTy_10_16 : zTy 10 16 = .int := rfl
theorem zKd_10_17 : zKd (zTy 10 17) = 0 := rfl
theorem zTy_10_17 : zTy 10 17 = .int := rfl
theorem zKd_10_18 : zKd (zTy 10 18) = 0 := rfl
theorem zTy_10_18 : zTy 10 18 = .int := rfl
theorem zKd_10_19 : zKd (zTy 10 19) = 0 := rfl
theorem zTy_10_19 : zTy 10 19 = .int := rfl
theorem zKd_10_20 : zKd (zTy 10 20) = 0 := rfl
theorem zTy_10_20 : zTy 10 20 = .int := rfl
theorem zKd_10_21 : zKd (zTy 10 21) = 0 := rfl
theorem zTy_10_21 : zTy 10 21 = .int := rfl
theorem zKd_10_22 : zKd (zTy 10 22) = 0 := rfl
theorem zTy_10_22 : zTy 10 22 = .int := rfl
theorem zKd_10_23 : zKd (zTy 10 23) = 0 := rfl
theorem zTy_10_23 : zTy 10 23 = .int := rfl
theorem zKd_10_24 : zKd (zTy 10 24) = 2 := rfl
theorem zTy_10_24 : zTy 10 24 = .array .int := rfl
theorem zKd_10_25 : zKd (zTy 10 25) = 2 := rfl
theorem zTy_10_25 : zTy 10 25 = .array .int := rfl
theorem zKd_10_26 : zKd (zTy 10 26) = 2 := rfl
theorem zTy_10_26 : zTy 10 26 = .array .int := rfl
theorem zKd_10_27 : zKd (zTy 10 27) = 2 := rfl
theorem zTy_10_27 : zTy 10 27 = .array .int := rfl
theorem zKd_10_28 : zKd (zTy 10 28) = 2 := rfl
theorem zTy_10_28 : zTy 10 28 = .array .int := rfl
theorem zKd_10_29 : zKd (zTy 10 29) = 2 := rfl
theorem zTy_10_29 : zTy 10 29 = .array .int := rfl
theorem zKd_10_30 : zKd (zTy 10 30) = 2 := rfl
theorem zTy_10_30 : zTy 10 30 = .array .int := rfl
theorem zKd_10_31 : zKd (zTy 10 31) = 2 := rfl
theorem zTy_10_31 : zTy 10 31 = .array .int := rfl
theorem zKd_10_32 : zKd (zTy 10 32) = 2 := rfl
theorem zTy_10_32 : zTy 10 32 = .array .int := rfl
theorem zKd_10_33 : zKd (zTy 10 33) = 2 := rfl
theorem zTy_10_33 : zTy 10 33 = .array .int := rfl
theorem zKd_10_34 : zKd (zTy 10 34) = 2 := rfl
theorem zTy_10_34 : zTy 10 34 = .array .int := rfl
theorem zKd_10_35 : zKd (zTy 10 35) = 2 := rfl
theorem zTy_10_35 : zTy 10 35 = .array .int := rfl
theorem zKd_10_36 : zKd (zTy 10 36) = 2 := rfl
theorem zTy_10_36 : zTy 10 36 = .array .int := rfl
theorem zKd_10_37 : zKd (zTy 10 37) = 2 := rfl
theorem zTy_10_37 : zTy 10 37 = .array .boolean := rfl
theorem zKd_10_38 : zKd (zTy 10 38) = 2 := rfl
theorem zTy_10_38 : zTy 10 38 = .array .boolean := rfl
theorem zKd_10_39 : zKd (zTy 10 39) = 2 := rfl
theorem zTy_10_39 : zTy 10 39 = .array .int := rfl
theorem zKd_10_40 : zKd (zTy 10 40) = 2 := rfl
theorem zTy_10_40 : zTy 10 40 = .array .int := rfl
theorem zKd_10_41 : zKd (zTy 10 41) = 2 := rfl
theorem zTy_10_41 : zTy 10 41 = .array .int := rfl
theorem zKd_10_42 : zKd (zTy 10 42) = 2 := rfl
theorem zTy_10_42 : zTy 10 42 = .array .int := rfl
theorem zKd_10_43 : zKd (zTy 10 43) = 2 := rfl
theorem zTy_10_43 : zTy 10 43 = .array .int := rfl
theorem zKd_10_44 : zKd (zTy 10 44) = 2 := rfl
theorem zTy_10_44 : zTy 10 44 = .array .int := rfl
theorem zKd_10_45 : zKd (zTy 10 45) = 2 := rfl
theorem zTy_10_45 : zTy 10 45 = .array .int := rfl
theorem zKd_10_46 : zKd (zTy 10 46) = 0 := rfl
theorem zTy_10_46 : zTy 10 46 = .int := rfl
theorem zKd_10_47 : zKd (zTy 10 47) = 0 := rfl
theorem zTy_10_47 : zTy 10 47 = .int := rfl
theorem zKd_10_48 : zKd (zTy 10 48) = 0 := rfl
theorem zTy_10_48 : zTy 10 48 = .int := rfl
theorem zKd_10_49 : zKd (zTy 10 49) = 0 := rfl
theorem zTy_10_49 : zTy 10 49 = .int := rfl
theorem zKd_10_50 : zKd (zTy 10 50) = 0 := rfl
theorem zTy_10_50 : zTy 10 50 = .boolean := rfl
theorem zKd_10_51 : zKd (zTy 10 51) = 0 := rfl
theorem zTy_10_51 : zTy 10 51 = .boolean := rfl
theorem zKd_10_52 : zKd (zTy 10 52) = 2 := rfl
theorem zTy_10_52 : zTy 10 52 = .array .long := rfl
theorem zKd_10_53 : zKd (zTy 10 53) = 2 := rfl
theorem zTy_10_53 : zTy 10 53 = .array .long := rfl
theorem zKd_10_54 : zKd (zTy 10 54) = 0 := rfl
theorem zTy_10_54 : zTy 10 54 = .boolean := rfl
theorem zKd_10_55 : zKd (zTy 10 55) = 0 := rfl
theorem zTy_10_55 : zTy 10 55 = .int := rfl
theorem zKd_10_56 : zKd (zTy 10 56) = 0 := rfl
theorem zTy_10_56 : zTy 10 56 = .int := rfl
theorem zKd_10_57 : zKd (zTy 10 57) = 2 := rfl
theorem zTy_10_57 : zTy 10 57 = .array .int := rfl
theorem zKd_10_58 : zKd (zTy 10 58) = 2 := rfl
theorem zTy_10_58 : zTy 10 58 = .array .int := rfl
theorem zKd_10_59 : zKd (zTy 10 59) = 2 := rfl
theorem zTy_10_59 : zTy 10 59 = .array .int := rfl
theorem zKd_10_60 : zKd (zTy 10 60) = 2 := rfl
theorem zTy_10_60 : zTy 10 60 = .array .int := rfl
theorem zKd_10_61 : zKd (zTy 10 61) = 2 := rfl
theorem zTy_10_61 : zTy 10 61 = .array .boolean := rfl
theorem zKd_10_62 : zKd (zTy 10 62) = 2 := rfl
theorem zTy_10_62 : zTy 10 62 = .array .int := rfl
theorem zKd_10_63 : zKd (zTy 10 63) = 2 := rfl
theorem zTy_10_63 : zTy 10 63 = .array .long := rfl
theorem zKd_10_64 : zKd (zTy 10 64) = 0 := rfl
theorem zTy_10_64 : zTy 10 64 = .int := rfl
theorem zKd_10_65 : zKd (zTy 10 65) = 0 := rfl
theorem zTy_10_65 : zTy 10 65 = .int := rfl
theorem zKd_10_66 : zKd (zTy 10 66) = 2 := rfl
theorem zTy_10_66 : zTy 10 66 = .array .int := rfl
theorem zKd_10_67 : zKd (zTy 10 67) = 0 := rfl
theorem zTy_10_67 : zTy 10 67 = .int := rfl
theorem zKd_10_68 : zKd (zTy 10 68) = 0 := rfl
theorem zTy_10_68 : zTy 10 68 = .boolean := rfl
theorem zKd_10_69 : zKd (zTy 10 69) = 0 := rfl
theorem zTy_10_69 : zTy 10 69 = .boolean := rfl
theorem zKd_10_70 : zKd (zTy 10 70) = 0 := rfl
theorem zTy_10_70 : zTy 10 70 = .boolean := rfl
theorem zKd_10_71 : zKd (zTy 10 71) = 0 := rfl
theorem zTy_10_71 : zTy 10 71 = .boolean := rfl
theorem zKd_10_72 : zKd (zTy 10 72) = 0 := rfl
theorem zTy_10_72 : zTy 10 72 = .int := rfl
theorem zKd_10_73 : zKd (zTy 10 73) = 0 := rfl
theorem zTy_10_73 : zTy 10 73 = .int := rfl
theorem zKd_10_74 : zKd (zTy 10 74) = 0 := rfl
theorem zTy_10_74 : zTy 10 74 = .boolean := rfl
theorem zKd_10_75 : zKd (zTy 10 75) = 0 := rfl
theorem zTy_10_75 : zTy 10 75 = .int := rfl
theorem zKd_10_76 : zKd (zTy 10 76) = 0 := rfl
theorem zTy_10_76 : zTy 10 76 = .int := rfl
theorem zKd_10_77 : zKd (zTy 10 77) = 2 := rfl
theorem zTy_10_77 : zTy 10 77 = .array .int := rfl
theorem zKd_10_78 : zKd (zTy 10 78) = 0 := rfl
theorem zTy_10_78 : zTy 10 78 = .int := rfl
theorem zKd_10_79 : zKd (zTy 10 79) = 2 := rfl
theorem zTy_10_79 : zTy 10 79 = .array .int := rfl
theorem zKd_10_80 : zKd (zTy 10 80) = 2 := rfl
theorem zTy_10_80 : zTy 10 80 = .array .int := rfl
theorem zKd_10_81 : zKd (zTy 10 81) = 2 := rfl
theorem zTy_10_81 : zTy 10 81 = .array .int := rfl
theorem zKd_10_82 : zKd (zTy 10 82) = 2 := rfl
theorem zTy_10_82 : zTy 10 82 = .array .int := rfl
theorem zKd_10_83 : zKd (zTy 10 83) = 2 := rfl
theorem zTy_10_83 : zTy 10 83 = .array .int := rfl
theorem zKd_10_84 : zKd (zTy 10 84) = 2 := rfl
theorem zTy_10_84 : zTy 10 84 = .array .int := rfl
theorem zKd_10_85 : zKd (zTy 10 85) = 0 := rfl
theorem zTy_10_85 : zTy 10 85 = .int := rfl
theorem zKd_10_86 : zKd (zTy 10 86) = 0 := rfl
theorem zTy_10_86 : zTy 10 86 = .int := rfl
theorem zKd_10_87 : zKd (zTy 10 87) = 2 := rfl
theorem zTy_10_87 : zTy 10 87 = .array .int := rfl
theorem zKd_10_88 : zKd (zTy 10 88) = 2 := rfl
theorem zTy_10_88 : zTy 10 88 = .array .int := rfl
theorem zKd_10_89 : zKd (zTy 10 89) = 2 := rfl
theorem zTy_10_89 : zTy 10 89 = .array .boolean := rfl
theorem zKd_10_90 : zKd (zTy 10 90) = 0 := rfl
theorem zTy_10_90 : zTy 10 90 = .boolean := rfl
theorem zKd_10_91 : zKd (zTy 10 91) = 0 := rfl
theorem zTy_10_91 : zTy 10 91 = .int := rfl
theorem zKd_10_92 : zKd (zTy 10 92) = 0 := rfl
theorem zTy_10_92 : zTy 10 92 = .int := rfl
theorem zKd_10_93 : zKd (zTy 10 93) = 0 := rfl
theorem zTy_10_93 : zTy 10 93 = .int := rfl
theorem zKd_10_94 : zKd (zTy 10 94) = 0 := rfl
theorem zTy_10_94 : zTy 10 94 = .int := rfl
theorem zKd_10_95 : zKd (zTy 10 95) = 1 := rfl
theorem zTy_10_95 : zTy 10 95 = .long := rfl
theorem zKd_10_96 : zKd (zTy 10 96) = 2 := rfl
theorem zTy_10_96 : zTy 10 96 = .array .int := rfl
theorem zKd_10_97 : zKd (zTy 10 97) = 2 := rfl
theorem zTy_10_97 : zTy 10 97 = .array .int := rfl
theorem zKd_10_98 : zKd (zTy 10 98) = 2 := rfl
theorem zTy_10_98 : zTy 10 98 = .array .int := rfl
theorem zKd_10_99 : zKd (zTy 10 99) = 2 := rfl
theorem zTy_10_99 : zTy 10 99 = .array .int := rfl
theorem zKd_10_100 : zKd (zTy 10 100) = 2 := rfl
theorem zTy_10_100 : zTy 10 100 = .array .boolean := rfl
theorem zKd_10_101 : zKd (zTy 10 101) = 2 := rfl
theorem zTy_10_101 : zTy 10 101 = .array .int := rfl
theorem zKd_10_102 : zKd (zTy 10 102) = 2 := rfl
theorem zTy_10_102 : zTy 10 102 = .array .int := rfl
section ZB
variable {w : zP} {M : zMd} {R : Room} {Q : Option Value → zMem → Prop} {kc ks pc nL : Nat} {lv : zLoc} {st : List Value} {μ : zMem} {rt : Option FieldType}
theorem zBlk1 {blk : List zI} (hc : zChk false M.1 M.2.2.1 pc blk = true) (ho : M.2.1.cls = zOwn M.1) (h1 : M.2.2.2.1 = nL) (h2 : M.2.2.2.2 = rt) (h : zRun false nL rt Q (fun pc' lv st μ => zX w M R Q 0 0 pc' lv st μ) pc blk lv st μ) : zX w M R Q 0 0 pc lv st μ := by
  subst h1; subst h2
  exact zRun_ok (fin := false) ho (fun h => by cases h) (Nat.zero_le _) (Nat.zero_le _) (fun _ _ _ _ h => h) blk pc lv st μ hc h
theorem zBlkC {blk : List zI} (hc : zChk true M.1 M.2.2.1 pc blk = true) (ho : M.2.1.cls = zOwn M.1) (h1 : M.2.2.2.1 = nL) (h2 : M.2.2.2.2 = rt) (hn : M.2.1.name = "<init>") (hkc : kc ≤ R.cells) (hks : ks ≤ R.slots) (h : zRun true nL rt Q (fun pc' lv st μ => zX w M R Q kc ks pc' lv st μ) pc blk lv st μ) : zX w M R Q kc ks pc lv st μ := by
  subst h1; subst h2
  exact zRun_ok (fin := true) ho (fun _ => hn) hkc hks (fun _ _ _ _ h => h) blk pc lv st μ hc h
end ZB
